section
-- ===== PART A: goes FIRST, ahead of the names: the tables' words, and 'selects' of the private methods out of them =====
/-- a private method of a class that the tables say can be made, by its rows of tables_1 -/
def lw_okq (q : MethodName × Nat) : Prop := (q.1.cls ≠ "java/lang/invoke/MethodHandle" ∧ q.1.cls ≠ "java/lang/invoke/VarHandle") ∧ Cond.instantiable q.1.cls q.2 ∈ tables_1 ∧ Cond.privateMethod q.1 ∈ tables_1 ∧ Cond.instanceMethod q.1 ∈ tables_1
theorem lw_p0 : lw_okq (⟨"ChangeCodec", "hasOperations", "()Z"⟩, 8) := ⟨⟨by decide +kernel, by decide +kernel⟩, List.mem_of_getElem? (i := 18) (by decide +kernel), List.mem_of_getElem? (i := 159) (by decide +kernel), List.mem_of_getElem? (i := 160) (by decide +kernel)⟩
theorem lw_p1 : lw_okq (⟨"ChangeCodec$Reader", "readNumber", "(II)I"⟩, 5) := ⟨⟨by decide +kernel, by decide +kernel⟩, List.mem_of_getElem? (i := 43) (by decide +kernel), List.mem_of_getElem? (i := 207) (by decide +kernel), List.mem_of_getElem? (i := 208) (by decide +kernel)⟩
theorem lw_p2 : lw_okq (⟨"ChangeCodec$Reader", "readU", "()I"⟩, 5) := ⟨⟨by decide +kernel, by decide +kernel⟩, List.mem_of_getElem? (i := 43) (by decide +kernel), List.mem_of_getElem? (i := 211) (by decide +kernel), List.mem_of_getElem? (i := 212) (by decide +kernel)⟩
theorem lw_p3 : lw_okq (⟨"ChangeCodec$Reader", "next", "()I"⟩, 5) := ⟨⟨by decide +kernel, by decide +kernel⟩, List.mem_of_getElem? (i := 43) (by decide +kernel), List.mem_of_getElem? (i := 215) (by decide +kernel), List.mem_of_getElem? (i := 216) (by decide +kernel)⟩
theorem lw_p4 : lw_okq (⟨"ChangeCodec$Reader", "fail", "(II)V"⟩, 5) := ⟨⟨by decide +kernel, by decide +kernel⟩, List.mem_of_getElem? (i := 43) (by decide +kernel), List.mem_of_getElem? (i := 219) (by decide +kernel), List.mem_of_getElem? (i := 220) (by decide +kernel)⟩
theorem lw_p5 : lw_okq (⟨"ChangeCodec$Reader", "readHead", "(LChangeCodec$Change;)V"⟩, 5) := ⟨⟨by decide +kernel, by decide +kernel⟩, List.mem_of_getElem? (i := 43) (by decide +kernel), List.mem_of_getElem? (i := 223) (by decide +kernel), List.mem_of_getElem? (i := 224) (by decide +kernel)⟩
theorem lw_p6 : lw_okq (⟨"ChangeCodec$Reader", "readByte", "(II)I"⟩, 5) := ⟨⟨by decide +kernel, by decide +kernel⟩, List.mem_of_getElem? (i := 43) (by decide +kernel), List.mem_of_getElem? (i := 227) (by decide +kernel), List.mem_of_getElem? (i := 228) (by decide +kernel)⟩
theorem lw_p7 : lw_okq (⟨"ChangeCodec$Reader", "readClock", "(LChangeCodec$Change;)V"⟩, 5) := ⟨⟨by decide +kernel, by decide +kernel⟩, List.mem_of_getElem? (i := 43) (by decide +kernel), List.mem_of_getElem? (i := 239) (by decide +kernel), List.mem_of_getElem? (i := 240) (by decide +kernel)⟩
theorem lw_p8 : lw_okq (⟨"ChangeCodec$Reader", "readCount", "(I)I"⟩, 5) := ⟨⟨by decide +kernel, by decide +kernel⟩, List.mem_of_getElem? (i := 43) (by decide +kernel), List.mem_of_getElem? (i := 243) (by decide +kernel), List.mem_of_getElem? (i := 244) (by decide +kernel)⟩
theorem lw_p9 : lw_okq (⟨"ChangeCodec$Reader", "readOperation", "(LChangeCodec$Change;I)V"⟩, 5) := ⟨⟨by decide +kernel, by decide +kernel⟩, List.mem_of_getElem? (i := 43) (by decide +kernel), List.mem_of_getElem? (i := 254) (by decide +kernel), List.mem_of_getElem? (i := 255) (by decide +kernel)⟩
theorem lw_p10 : lw_okq (⟨"ChangeCodec$Reader", "readRef", "(IZ)I"⟩, 5) := ⟨⟨by decide +kernel, by decide +kernel⟩, List.mem_of_getElem? (i := 43) (by decide +kernel), List.mem_of_getElem? (i := 261) (by decide +kernel), List.mem_of_getElem? (i := 262) (by decide +kernel)⟩
theorem lw_p11 : lw_okq (⟨"ChangeCodec$Reader", "readLetters", "(II)J"⟩, 5) := ⟨⟨by decide +kernel, by decide +kernel⟩, List.mem_of_getElem? (i := 43) (by decide +kernel), List.mem_of_getElem? (i := 269) (by decide +kernel), List.mem_of_getElem? (i := 270) (by decide +kernel)⟩
theorem lw_p12 : lw_okq (⟨"ChangeCodec$Reader", "readValue", "(II)I"⟩, 5) := ⟨⟨by decide +kernel, by decide +kernel⟩, List.mem_of_getElem? (i := 43) (by decide +kernel), List.mem_of_getElem? (i := 273) (by decide +kernel), List.mem_of_getElem? (i := 274) (by decide +kernel)⟩
theorem lw_p13 : lw_okq (⟨"ChangeCodec$Reader", "readS", "()I"⟩, 5) := ⟨⟨by decide +kernel, by decide +kernel⟩, List.mem_of_getElem? (i := 43) (by decide +kernel), List.mem_of_getElem? (i := 277) (by decide +kernel), List.mem_of_getElem? (i := 278) (by decide +kernel)⟩
theorem lw_p14 : lw_okq (⟨"ChangeCodec$Reader", "readCheck", "(I)V"⟩, 5) := ⟨⟨by decide +kernel, by decide +kernel⟩, List.mem_of_getElem? (i := 43) (by decide +kernel), List.mem_of_getElem? (i := 285) (by decide +kernel), List.mem_of_getElem? (i := 286) (by decide +kernel)⟩
theorem lw_p15 : lw_okq (⟨"ChangeCodec", "tradeDraft", "()V"⟩, 8) := ⟨⟨by decide +kernel, by decide +kernel⟩, List.mem_of_getElem? (i := 18) (by decide +kernel), List.mem_of_getElem? (i := 298) (by decide +kernel), List.mem_of_getElem? (i := 299) (by decide +kernel)⟩
def lw_privs_1 : List (MethodName × Nat) := [(⟨"ChangeCodec", "hasOperations", "()Z"⟩, 8), (⟨"ChangeCodec$Reader", "readNumber", "(II)I"⟩, 5), (⟨"ChangeCodec$Reader", "readU", "()I"⟩, 5), (⟨"ChangeCodec$Reader", "next", "()I"⟩, 5), (⟨"ChangeCodec$Reader", "fail", "(II)V"⟩, 5), (⟨"ChangeCodec$Reader", "readHead", "(LChangeCodec$Change;)V"⟩, 5), (⟨"ChangeCodec$Reader", "readByte", "(II)I"⟩, 5), (⟨"ChangeCodec$Reader", "readClock", "(LChangeCodec$Change;)V"⟩, 5), (⟨"ChangeCodec$Reader", "readCount", "(I)I"⟩, 5), (⟨"ChangeCodec$Reader", "readOperation", "(LChangeCodec$Change;I)V"⟩, 5), (⟨"ChangeCodec$Reader", "readRef", "(IZ)I"⟩, 5), (⟨"ChangeCodec$Reader", "readLetters", "(II)J"⟩, 5), (⟨"ChangeCodec$Reader", "readValue", "(II)I"⟩, 5), (⟨"ChangeCodec$Reader", "readS", "()I"⟩, 5), (⟨"ChangeCodec$Reader", "readCheck", "(I)V"⟩, 5), (⟨"ChangeCodec", "tradeDraft", "()V"⟩, 8)]
theorem lw_r1 : ∀ q ∈ lw_privs_1, lw_okq q := List.forall_mem_cons.mpr ⟨lw_p0, List.forall_mem_cons.mpr ⟨lw_p1, List.forall_mem_cons.mpr ⟨lw_p2, List.forall_mem_cons.mpr ⟨lw_p3, List.forall_mem_cons.mpr ⟨lw_p4, List.forall_mem_cons.mpr ⟨lw_p5, List.forall_mem_cons.mpr ⟨lw_p6, List.forall_mem_cons.mpr ⟨lw_p7, List.forall_mem_cons.mpr ⟨lw_p8, List.forall_mem_cons.mpr ⟨lw_p9, List.forall_mem_cons.mpr ⟨lw_p10, List.forall_mem_cons.mpr ⟨lw_p11, List.forall_mem_cons.mpr ⟨lw_p12, List.forall_mem_cons.mpr ⟨lw_p13, List.forall_mem_cons.mpr ⟨lw_p14, List.forall_mem_cons.mpr ⟨lw_p15, fun _ h => absurd h List.not_mem_nil⟩⟩⟩⟩⟩⟩⟩⟩⟩⟩⟩⟩⟩⟩⟩⟩
theorem lw_p16 : lw_okq (⟨"java/lang/Throwable", "fillInStackTrace", "(I)Ljava/lang/Throwable;"⟩, 6) := ⟨⟨by decide +kernel, by decide +kernel⟩, List.mem_of_getElem? (i := 374) (by decide +kernel), List.mem_of_getElem? (i := 372) (by decide +kernel), List.mem_of_getElem? (i := 373) (by decide +kernel)⟩
theorem lw_p17 : lw_okq (⟨"ChangeCodec", "measure", "()I"⟩, 8) := ⟨⟨by decide +kernel, by decide +kernel⟩, List.mem_of_getElem? (i := 18) (by decide +kernel), List.mem_of_getElem? (i := 464) (by decide +kernel), List.mem_of_getElem? (i := 465) (by decide +kernel)⟩
theorem lw_p18 : lw_okq (⟨"ChangeCodec$Change", "putClock", "(LChangeCodec$Bytes;)V"⟩, 10) := ⟨⟨by decide +kernel, by decide +kernel⟩, List.mem_of_getElem? (i := 71) (by decide +kernel), List.mem_of_getElem? (i := 480) (by decide +kernel), List.mem_of_getElem? (i := 481) (by decide +kernel)⟩
theorem lw_p19 : lw_okq (⟨"ChangeCodec", "hasOperation", "(I)Z"⟩, 8) := ⟨⟨by decide +kernel, by decide +kernel⟩, List.mem_of_getElem? (i := 18) (by decide +kernel), List.mem_of_getElem? (i := 547) (by decide +kernel), List.mem_of_getElem? (i := 548) (by decide +kernel)⟩
theorem lw_p20 : lw_okq (⟨"ChangeCodecModel", "idOf", "(I)I"⟩, 33) := ⟨⟨by decide +kernel, by decide +kernel⟩, List.mem_of_getElem? (i := 574) (by decide +kernel), List.mem_of_getElem? (i := 696) (by decide +kernel), List.mem_of_getElem? (i := 697) (by decide +kernel)⟩
theorem lw_p21 : lw_okq (⟨"ChangeCodecModel", "isWhole", "()Z"⟩, 33) := ⟨⟨by decide +kernel, by decide +kernel⟩, List.mem_of_getElem? (i := 574) (by decide +kernel), List.mem_of_getElem? (i := 724) (by decide +kernel), List.mem_of_getElem? (i := 725) (by decide +kernel)⟩
theorem lw_p22 : lw_okq (⟨"ChangeCodecModel", "layBody", "()V"⟩, 33) := ⟨⟨by decide +kernel, by decide +kernel⟩, List.mem_of_getElem? (i := 574) (by decide +kernel), List.mem_of_getElem? (i := 728) (by decide +kernel), List.mem_of_getElem? (i := 729) (by decide +kernel)⟩
theorem lw_p23 : lw_okq (⟨"ChangeCodecModel", "lay", "(I)V"⟩, 33) := ⟨⟨by decide +kernel, by decide +kernel⟩, List.mem_of_getElem? (i := 574) (by decide +kernel), List.mem_of_getElem? (i := 732) (by decide +kernel), List.mem_of_getElem? (i := 733) (by decide +kernel)⟩
theorem lw_p24 : lw_okq (⟨"ChangeCodecModel", "layU", "(I)V"⟩, 33) := ⟨⟨by decide +kernel, by decide +kernel⟩, List.mem_of_getElem? (i := 574) (by decide +kernel), List.mem_of_getElem? (i := 736) (by decide +kernel), List.mem_of_getElem? (i := 737) (by decide +kernel)⟩
theorem lw_p25 : lw_okq (⟨"ChangeCodecModel", "layOperation", "(I)V"⟩, 33) := ⟨⟨by decide +kernel, by decide +kernel⟩, List.mem_of_getElem? (i := 574) (by decide +kernel), List.mem_of_getElem? (i := 740) (by decide +kernel), List.mem_of_getElem? (i := 741) (by decide +kernel)⟩
theorem lw_p26 : lw_okq (⟨"ChangeCodecModel", "layRef", "(II)V"⟩, 33) := ⟨⟨by decide +kernel, by decide +kernel⟩, List.mem_of_getElem? (i := 574) (by decide +kernel), List.mem_of_getElem? (i := 744) (by decide +kernel), List.mem_of_getElem? (i := 745) (by decide +kernel)⟩
theorem lw_p27 : lw_okq (⟨"ChangeCodecModel", "layLetters", "(J)V"⟩, 33) := ⟨⟨by decide +kernel, by decide +kernel⟩, List.mem_of_getElem? (i := 574) (by decide +kernel), List.mem_of_getElem? (i := 748) (by decide +kernel), List.mem_of_getElem? (i := 749) (by decide +kernel)⟩
theorem lw_p28 : lw_okq (⟨"ChangeCodecModel", "layS", "(I)V"⟩, 33) := ⟨⟨by decide +kernel, by decide +kernel⟩, List.mem_of_getElem? (i := 574) (by decide +kernel), List.mem_of_getElem? (i := 752) (by decide +kernel), List.mem_of_getElem? (i := 753) (by decide +kernel)⟩
theorem lw_p29 : lw_okq (⟨"ChangeCodecModel", "ahead", "()I"⟩, 33) := ⟨⟨by decide +kernel, by decide +kernel⟩, List.mem_of_getElem? (i := 574) (by decide +kernel), List.mem_of_getElem? (i := 756) (by decide +kernel), List.mem_of_getElem? (i := 757) (by decide +kernel)⟩
theorem lw_p30 : lw_okq (⟨"ChangeCodecModel", "readU", "()I"⟩, 33) := ⟨⟨by decide +kernel, by decide +kernel⟩, List.mem_of_getElem? (i := 574) (by decide +kernel), List.mem_of_getElem? (i := 788) (by decide +kernel), List.mem_of_getElem? (i := 789) (by decide +kernel)⟩
theorem lw_p31 : lw_okq (⟨"ChangeCodecModel", "next", "()I"⟩, 33) := ⟨⟨by decide +kernel, by decide +kernel⟩, List.mem_of_getElem? (i := 574) (by decide +kernel), List.mem_of_getElem? (i := 792) (by decide +kernel), List.mem_of_getElem? (i := 793) (by decide +kernel)⟩
def lw_privs_2 : List (MethodName × Nat) := [(⟨"java/lang/Throwable", "fillInStackTrace", "(I)Ljava/lang/Throwable;"⟩, 6), (⟨"ChangeCodec", "measure", "()I"⟩, 8), (⟨"ChangeCodec$Change", "putClock", "(LChangeCodec$Bytes;)V"⟩, 10), (⟨"ChangeCodec", "hasOperation", "(I)Z"⟩, 8), (⟨"ChangeCodecModel", "idOf", "(I)I"⟩, 33), (⟨"ChangeCodecModel", "isWhole", "()Z"⟩, 33), (⟨"ChangeCodecModel", "layBody", "()V"⟩, 33), (⟨"ChangeCodecModel", "lay", "(I)V"⟩, 33), (⟨"ChangeCodecModel", "layU", "(I)V"⟩, 33), (⟨"ChangeCodecModel", "layOperation", "(I)V"⟩, 33), (⟨"ChangeCodecModel", "layRef", "(II)V"⟩, 33), (⟨"ChangeCodecModel", "layLetters", "(J)V"⟩, 33), (⟨"ChangeCodecModel", "layS", "(I)V"⟩, 33), (⟨"ChangeCodecModel", "ahead", "()I"⟩, 33), (⟨"ChangeCodecModel", "readU", "()I"⟩, 33), (⟨"ChangeCodecModel", "next", "()I"⟩, 33)]
theorem lw_r2 : ∀ q ∈ lw_privs_2, lw_okq q := List.forall_mem_cons.mpr ⟨lw_p16, List.forall_mem_cons.mpr ⟨lw_p17, List.forall_mem_cons.mpr ⟨lw_p18, List.forall_mem_cons.mpr ⟨lw_p19, List.forall_mem_cons.mpr ⟨lw_p20, List.forall_mem_cons.mpr ⟨lw_p21, List.forall_mem_cons.mpr ⟨lw_p22, List.forall_mem_cons.mpr ⟨lw_p23, List.forall_mem_cons.mpr ⟨lw_p24, List.forall_mem_cons.mpr ⟨lw_p25, List.forall_mem_cons.mpr ⟨lw_p26, List.forall_mem_cons.mpr ⟨lw_p27, List.forall_mem_cons.mpr ⟨lw_p28, List.forall_mem_cons.mpr ⟨lw_p29, List.forall_mem_cons.mpr ⟨lw_p30, List.forall_mem_cons.mpr ⟨lw_p31, fun _ h => absurd h List.not_mem_nil⟩⟩⟩⟩⟩⟩⟩⟩⟩⟩⟩⟩⟩⟩⟩⟩
theorem lw_p32 : lw_okq (⟨"ChangeCodecModel", "wrong", "(II)I"⟩, 33) := ⟨⟨by decide +kernel, by decide +kernel⟩, List.mem_of_getElem? (i := 574) (by decide +kernel), List.mem_of_getElem? (i := 796) (by decide +kernel), List.mem_of_getElem? (i := 797) (by decide +kernel)⟩
theorem lw_p33 : lw_okq (⟨"ChangeCodecModel", "must", "(Z)V"⟩, 33) := ⟨⟨by decide +kernel, by decide +kernel⟩, List.mem_of_getElem? (i := 574) (by decide +kernel), List.mem_of_getElem? (i := 801) (by decide +kernel), List.mem_of_getElem? (i := 802) (by decide +kernel)⟩
theorem lw_p34 : lw_okq (⟨"ChangeCodecModel", "readBody", "()V"⟩, 33) := ⟨⟨by decide +kernel, by decide +kernel⟩, List.mem_of_getElem? (i := 574) (by decide +kernel), List.mem_of_getElem? (i := 805) (by decide +kernel), List.mem_of_getElem? (i := 806) (by decide +kernel)⟩
theorem lw_p35 : lw_okq (⟨"ChangeCodecModel", "readOperation", "(I)V"⟩, 33) := ⟨⟨by decide +kernel, by decide +kernel⟩, List.mem_of_getElem? (i := 574) (by decide +kernel), List.mem_of_getElem? (i := 809) (by decide +kernel), List.mem_of_getElem? (i := 810) (by decide +kernel)⟩
theorem lw_p36 : lw_okq (⟨"ChangeCodecModel", "readRef", "(IZ)I"⟩, 33) := ⟨⟨by decide +kernel, by decide +kernel⟩, List.mem_of_getElem? (i := 574) (by decide +kernel), List.mem_of_getElem? (i := 813) (by decide +kernel), List.mem_of_getElem? (i := 814) (by decide +kernel)⟩
theorem lw_p37 : lw_okq (⟨"ChangeCodecModel", "readLetters", "(II)J"⟩, 33) := ⟨⟨by decide +kernel, by decide +kernel⟩, List.mem_of_getElem? (i := 574) (by decide +kernel), List.mem_of_getElem? (i := 817) (by decide +kernel), List.mem_of_getElem? (i := 818) (by decide +kernel)⟩
theorem lw_p38 : lw_okq (⟨"ChangeCodecModel", "readS", "()I"⟩, 33) := ⟨⟨by decide +kernel, by decide +kernel⟩, List.mem_of_getElem? (i := 574) (by decide +kernel), List.mem_of_getElem? (i := 821) (by decide +kernel), List.mem_of_getElem? (i := 822) (by decide +kernel)⟩
theorem lw_p39 : lw_okq (⟨"ChangeCodecModel", "readCheck", "(I)V"⟩, 33) := ⟨⟨by decide +kernel, by decide +kernel⟩, List.mem_of_getElem? (i := 574) (by decide +kernel), List.mem_of_getElem? (i := 826) (by decide +kernel), List.mem_of_getElem? (i := 827) (by decide +kernel)⟩
theorem lw_p40 : lw_okq (⟨"ChangeCodecModel", "take", "()V"⟩, 33) := ⟨⟨by decide +kernel, by decide +kernel⟩, List.mem_of_getElem? (i := 574) (by decide +kernel), List.mem_of_getElem? (i := 830) (by decide +kernel), List.mem_of_getElem? (i := 831) (by decide +kernel)⟩
theorem lw_p41 : lw_okq (⟨"ChangeCodecModel", "isIn", "(I)Z"⟩, 33) := ⟨⟨by decide +kernel, by decide +kernel⟩, List.mem_of_getElem? (i := 574) (by decide +kernel), List.mem_of_getElem? (i := 842) (by decide +kernel), List.mem_of_getElem? (i := 843) (by decide +kernel)⟩
def lw_privs_3 : List (MethodName × Nat) := [(⟨"ChangeCodecModel", "wrong", "(II)I"⟩, 33), (⟨"ChangeCodecModel", "must", "(Z)V"⟩, 33), (⟨"ChangeCodecModel", "readBody", "()V"⟩, 33), (⟨"ChangeCodecModel", "readOperation", "(I)V"⟩, 33), (⟨"ChangeCodecModel", "readRef", "(IZ)I"⟩, 33), (⟨"ChangeCodecModel", "readLetters", "(II)J"⟩, 33), (⟨"ChangeCodecModel", "readS", "()I"⟩, 33), (⟨"ChangeCodecModel", "readCheck", "(I)V"⟩, 33), (⟨"ChangeCodecModel", "take", "()V"⟩, 33), (⟨"ChangeCodecModel", "isIn", "(I)Z"⟩, 33)]
theorem lw_r3 : ∀ q ∈ lw_privs_3, lw_okq q := List.forall_mem_cons.mpr ⟨lw_p32, List.forall_mem_cons.mpr ⟨lw_p33, List.forall_mem_cons.mpr ⟨lw_p34, List.forall_mem_cons.mpr ⟨lw_p35, List.forall_mem_cons.mpr ⟨lw_p36, List.forall_mem_cons.mpr ⟨lw_p37, List.forall_mem_cons.mpr ⟨lw_p38, List.forall_mem_cons.mpr ⟨lw_p39, List.forall_mem_cons.mpr ⟨lw_p40, List.forall_mem_cons.mpr ⟨lw_p41, fun _ h => absurd h List.not_mem_nil⟩⟩⟩⟩⟩⟩⟩⟩⟩⟩
def lw_privs : List (MethodName × Nat) := lw_privs_1 ++ (lw_privs_2 ++ (lw_privs_3))
def lw_tbl : List Cond := k2_sels lw_privs ++ tables_1
theorem lw_privs_ok : ∀ q ∈ lw_privs, lw_okq q := by
  show ∀ q ∈ lw_privs_1 ++ (lw_privs_2 ++ (lw_privs_3)), lw_okq q
  exact List.forall_mem_append.mpr ⟨lw_r1, List.forall_mem_append.mpr ⟨lw_r2, lw_r3⟩⟩

def gw : List Cond := lw_tbl.filter goodWord
theorem gw_at {w : Cond} (i : Nat) (h : tables_1[i]? = some w) (hg : goodWord w = true) : w ∈ gw := List.mem_filter.mpr ⟨List.mem_append_right _ (List.mem_of_getElem? h), hg⟩
theorem gw_sub (ws : List Cond) (h : ws.all (fun w => decide (w ∈ tables_1) && goodWord w) = true) : ∀ w ∈ ws, w ∈ gw := fun w hw => by
  have h1 := List.all_eq_true.mp h w hw
  rw [Bool.and_eq_true, decide_eq_true_eq] at h1
  exact List.mem_filter.mpr ⟨List.mem_append_right _ h1.1, h1.2⟩
theorem gw_sel {y : MethodName} {n : Nat} (i : Nat) (h : lw_privs[i]? = some (y, n)) : Cond.selects y.cls y y ∈ gw := List.mem_filter.mpr ⟨List.mem_append_left _ (List.mem_map.mpr ⟨(y, n), List.mem_of_getElem? h, rfl⟩), rfl⟩
theorem gw_gi {b : Cond} (hb : b ∈ gw) : GoodIn gw (b :: gw) := fun w hw => by
  have h1 : w ∈ gw := (List.mem_cons.mp hw).elim (fun e => e ▸ hb) id
  exact ⟨h1, good_of_word (List.mem_filter.mp h1).2⟩
section KW
variable {R : Room} {s : State} {args : Array Value} {own C : String} {index maxL mc ms : Nat} {y : MethodName} {bytes : ByteArray} {ret : Option FieldType} {rm : Room}
theorem kw_B (n : Nat) (hw : ∀ w ∈ gw, w.before args s = true) (h1 : Cond.methodLink own index y ∈ gw) (h4 : Cond.initialized y.cls ∈ gw) (h5 : Cond.code y bytes maxL ret ∈ gw) (hrc : rm.cells = mc) (hrs : rm.slots = ms)
    (hd : y.cls ≠ "java/lang/invoke/MethodHandle" ∧ y.cls ≠ "java/lang/invoke/VarHandle" ∧ (parseMethodDescriptor y.desc).map (fun d => d.parameters.length) = some n) (hR : rm.frames + 1 ≤ R.frames ∧ 8 + (maxL + 11) + rm.locals ≤ R.locals) :
    CallB R s args own index y bytes maxL ret (Cond.code y bytes maxL ret :: gw) rm mc ms n := callB_of n hw (gw_gi h5) rfl hrc hrs (hw _ h4) (hw _ h1) hd hR
theorem kw_I (n : Nat) (hw : ∀ w ∈ gw, w.before args s = true) (h1 : Cond.methodLink own index y ∈ gw) (h4 : Cond.initialized y.cls ∈ gw) (h5 : Cond.code y bytes maxL none ∈ gw) (h2 : Cond.instanceMethod y ∈ gw) (hy : y.name = "<init>") (hrc : rm.cells = mc) (hrs : rm.slots = ms)
    (hd : y.cls ≠ "java/lang/invoke/MethodHandle" ∧ y.cls ≠ "java/lang/invoke/VarHandle" ∧ (parseMethodDescriptor y.desc).map (fun d => d.parameters.length) = some n) (hR : rm.frames + 1 ≤ R.frames ∧ 8 + (maxL + 11) + rm.locals ≤ R.locals) :
    CallB R s args own index y bytes maxL none (Cond.code y bytes maxL none :: gw) rm mc ms n ∧ y.name = "<init>" ∧ (Cond.instanceMethod y).before args s = true := ⟨kw_B n hw h1 h4 h5 hrc hrs hd hR, hy, hw _ h2⟩
theorem kw_V (n : Nat) (hw : ∀ w ∈ gw, w.before args s = true) (h1 : Cond.methodLink own index y ∈ gw) (h4 : Cond.initialized y.cls ∈ gw) (h5 : Cond.code y bytes maxL ret ∈ gw) (h2 : Cond.instanceMethod y ∈ gw) (h3 : Cond.selects C y y ∈ gw) (hrc : rm.cells = mc) (hrs : rm.slots = ms)
    (hd : y.cls ≠ "java/lang/invoke/MethodHandle" ∧ y.cls ≠ "java/lang/invoke/VarHandle" ∧ (parseMethodDescriptor y.desc).map (fun d => d.parameters.length) = some n) (hR : rm.frames + 1 ≤ R.frames ∧ 8 + (maxL + 11) + rm.locals ≤ R.locals) :
    CallW R s args own C index y bytes maxL ret (Cond.code y bytes maxL ret :: gw) rm mc ms n := ⟨kw_B n hw h1 h4 h5 hrc hrs hd hR, hw _ h2, hw _ h3⟩
theorem kw_S (n : Nat) (hw : ∀ w ∈ gw, w.before args s = true) (h1 : Cond.methodLink own index y ∈ gw) (h4 : Cond.initialized y.cls ∈ gw) (h5 : Cond.code y bytes maxL ret ∈ gw) (h2 : Cond.static y ∈ gw) (hrc : rm.cells = mc) (hrs : rm.slots = ms)
    (hd : y.cls ≠ "java/lang/invoke/MethodHandle" ∧ y.cls ≠ "java/lang/invoke/VarHandle" ∧ (parseMethodDescriptor y.desc).map (fun d => d.parameters.length) = some n) (hR : rm.frames + 1 ≤ R.frames ∧ 8 + (maxL + 11) + rm.locals ≤ R.locals) :
    CallB R s args own index y bytes maxL ret (Cond.code y bytes maxL ret :: gw) rm mc ms n ∧ (Cond.static y).before args s = true := ⟨kw_B n hw h1 h4 h5 hrc hrs hd hR, hw _ h2⟩
end KW
end
section
abbrev RR_X : String := "ChangeCodec"
def TT_X : u_T := fun k => match k with
  | 0 => ("ChangeCodec", "written", "LChangeCodec$Bytes;", true)
  | 1 => ("ChangeCodec", "given", "LChangeCodec$Bytes;", true)
  | 2 => ("ChangeCodec", "body", "LChangeCodec$Bytes;", true)
  | 3 => ("ChangeCodec", "reader", "LChangeCodec$Reader;", true)
  | 4 => ("ChangeCodec", "change", "LChangeCodec$Change;", false)
  | 5 => ("ChangeCodec", "draft", "LChangeCodec$Change;", false)
  | 6 => ("ChangeCodec", "begun", "Z", false)
  | _ => ("ChangeCodec", "at", "I", false)
def ty_X : Nat → FieldType := fun k => match k with
  | 0 => .object "ChangeCodec$Bytes"
  | 1 => .object "ChangeCodec$Bytes"
  | 2 => .object "ChangeCodec$Bytes"
  | 3 => .object "ChangeCodec$Reader"
  | 4 => .object "ChangeCodec$Change"
  | 5 => .object "ChangeCodec$Change"
  | 6 => .boolean
  | _ => .int
theorem nm_X : ∀ a, a < 8 → ∀ b, b < 8 → a ≠ b → (TT_X a).2.1 ≠ (TT_X b).2.1 := by decide +kernel
theorem ty_X_ok : ∀ k, k < 8 → parseFieldDescriptor (TT_X k).2.2.1 = some (ty_X k) := by decide +kernel
theorem hh_X : ∀ w ∈ u_ws RR_X TT_X 8, w ∈ gw := gw_sub _ (by decide +kernel)
abbrev RR_M : String := "ChangeCodecModel"
def TT_M : u_T := fun k => match k with
  | 0 => ("ChangeCodecModel", "thrown", "I", false)
  | 1 => ("ChangeCodecModel", "there", "Z", false)
  | 2 => ("ChangeCodecModel", "actor", "I", false)
  | 3 => ("ChangeCodecModel", "seq", "I", false)
  | 4 => ("ChangeCodecModel", "counter", "I", false)
  | 5 => ("ChangeCodecModel", "clock", "[I", true)
  | 6 => ("ChangeCodecModel", "many", "I", false)
  | 7 => ("ChangeCodecModel", "types", "[I", true)
  | 8 => ("ChangeCodecModel", "objects", "[I", true)
  | 9 => ("ChangeCodecModel", "keys", "[J", true)
  | 10 => ("ChangeCodecModel", "kinds", "[I", true)
  | 11 => ("ChangeCodecModel", "values", "[I", true)
  | 12 => ("ChangeCodecModel", "newActor", "I", false)
  | 13 => ("ChangeCodecModel", "newSeq", "I", false)
  | 14 => ("ChangeCodecModel", "newCounter", "I", false)
  | 15 => ("ChangeCodecModel", "newClock", "[I", true)
  | 16 => ("ChangeCodecModel", "newMany", "I", false)
  | 17 => ("ChangeCodecModel", "newTypes", "[I", true)
  | 18 => ("ChangeCodecModel", "newObjects", "[I", true)
  | 19 => ("ChangeCodecModel", "newKeys", "[J", true)
  | 20 => ("ChangeCodecModel", "newKinds", "[I", true)
  | 21 => ("ChangeCodecModel", "newValues", "[I", true)
  | 22 => ("ChangeCodecModel", "output", "[B", true)
  | 23 => ("ChangeCodecModel", "outputs", "I", false)
  | 24 => ("ChangeCodecModel", "input", "[B", true)
  | 25 => ("ChangeCodecModel", "inputs", "I", false)
  | 26 => ("ChangeCodecModel", "at", "I", false)
  | 27 => ("ChangeCodecModel", "fault", "I", false)
  | 28 => ("ChangeCodecModel", "place", "I", false)
  | 29 => ("ChangeCodecModel", "body", "[B", true)
  | 30 => ("ChangeCodecModel", "length", "I", false)
  | 31 => ("ChangeCodecModel", "p", "I", false)
  | _ => ("ChangeCodecModel", "end", "I", false)
def ty_M : Nat → FieldType := fun k => match k with
  | 0 => .int
  | 1 => .boolean
  | 2 => .int
  | 3 => .int
  | 4 => .int
  | 5 => .array .int
  | 6 => .int
  | 7 => .array .int
  | 8 => .array .int
  | 9 => .array .long
  | 10 => .array .int
  | 11 => .array .int
  | 12 => .int
  | 13 => .int
  | 14 => .int
  | 15 => .array .int
  | 16 => .int
  | 17 => .array .int
  | 18 => .array .int
  | 19 => .array .long
  | 20 => .array .int
  | 21 => .array .int
  | 22 => .array .byte
  | 23 => .int
  | 24 => .array .byte
  | 25 => .int
  | 26 => .int
  | 27 => .int
  | 28 => .int
  | 29 => .array .byte
  | 30 => .int
  | 31 => .int
  | _ => .int
theorem nm_M : ∀ a, a < 33 → ∀ b, b < 33 → a ≠ b → (TT_M a).2.1 ≠ (TT_M b).2.1 := by decide +kernel
theorem ty_M_ok : ∀ k, k < 33 → parseFieldDescriptor (TT_M k).2.2.1 = some (ty_M k) := by decide +kernel
theorem hh_M : ∀ w ∈ u_ws RR_M TT_M 33, w ∈ gw := gw_sub _ (by decide +kernel)
abbrev RR_B : String := "ChangeCodec$Bytes"
def TT_B : u_T := fun k => match k with
  | 0 => ("ChangeCodec$Bytes", "cells", "[B", true)
  | _ => ("ChangeCodec$Bytes", "used", "I", false)
def ty_B : Nat → FieldType := fun k => match k with
  | 0 => .array .byte
  | _ => .int
theorem nm_B : ∀ a, a < 2 → ∀ b, b < 2 → a ≠ b → (TT_B a).2.1 ≠ (TT_B b).2.1 := by decide +kernel
theorem ty_B_ok : ∀ k, k < 2 → parseFieldDescriptor (TT_B k).2.2.1 = some (ty_B k) := by decide +kernel
theorem hh_B : ∀ w ∈ u_ws RR_B TT_B 2, w ∈ gw := gw_sub _ (by decide +kernel)
abbrev RR_C : String := "ChangeCodec$Change"
def TT_C : u_T := fun k => match k with
  | 0 => ("ChangeCodec$Change", "actor", "I", false)
  | 1 => ("ChangeCodec$Change", "seq", "I", false)
  | 2 => ("ChangeCodec$Change", "counter", "I", false)
  | 3 => ("ChangeCodec$Change", "count", "I", false)
  | 4 => ("ChangeCodec$Change", "clock", "[I", true)
  | 5 => ("ChangeCodec$Change", "types", "[I", true)
  | 6 => ("ChangeCodec$Change", "objects", "[I", true)
  | 7 => ("ChangeCodec$Change", "keys", "[J", true)
  | 8 => ("ChangeCodec$Change", "kinds", "[I", true)
  | _ => ("ChangeCodec$Change", "values", "[I", true)
def ty_C : Nat → FieldType := fun k => match k with
  | 0 => .int
  | 1 => .int
  | 2 => .int
  | 3 => .int
  | 4 => .array .int
  | 5 => .array .int
  | 6 => .array .int
  | 7 => .array .long
  | 8 => .array .int
  | _ => .array .int
theorem nm_C : ∀ a, a < 10 → ∀ b, b < 10 → a ≠ b → (TT_C a).2.1 ≠ (TT_C b).2.1 := by decide +kernel
theorem ty_C_ok : ∀ k, k < 10 → parseFieldDescriptor (TT_C k).2.2.1 = some (ty_C k) := by decide +kernel
theorem hh_C : ∀ w ∈ u_ws RR_C TT_C 10, w ∈ gw := gw_sub _ (by decide +kernel)
abbrev RR_D : String := "ChangeCodec$Reader"
def TT_D : u_T := fun k => match k with
  | 0 => ("ChangeCodec$Reader", "source", "LChangeCodec$Bytes;", true)
  | 1 => ("ChangeCodec$Reader", "here", "I", false)
  | 2 => ("ChangeCodec$Reader", "end", "I", false)
  | 3 => ("ChangeCodec$Reader", "fault", "I", false)
  | _ => ("ChangeCodec$Reader", "place", "I", false)
def ty_D : Nat → FieldType := fun k => match k with
  | 0 => .object "ChangeCodec$Bytes"
  | 1 => .int
  | 2 => .int
  | 3 => .int
  | _ => .int
theorem nm_D : ∀ a, a < 5 → ∀ b, b < 5 → a ≠ b → (TT_D a).2.1 ≠ (TT_D b).2.1 := by decide +kernel
theorem ty_D_ok : ∀ k, k < 5 → parseFieldDescriptor (TT_D k).2.2.1 = some (ty_D k) := by decide +kernel
theorem hh_D : ∀ w ∈ u_ws RR_D TT_D 5, w ∈ gw := gw_sub _ (by decide +kernel)
abbrev RR_W : String := "ChangeCodecLaw"
abbrev vcl : List vw_C := [(RR_X, TT_X, 8), (RR_M, TT_M, 33), (RR_B, TT_B, 2), (RR_C, TT_C, 10), (RR_D, TT_D, 5)]
abbrev cc_B_init : ByteArray := prog_2_method_1_code
def yy_B_init : MethodName := ⟨"ChangeCodec$Bytes", "<init>", "(I)V"⟩
abbrev cc_B_room : ByteArray := prog_2_method_2_code
def yy_B_room : MethodName := ⟨"ChangeCodec$Bytes", "room", "()I"⟩
abbrev cc_B_byteAt : ByteArray := prog_2_method_3_code
def yy_B_byteAt : MethodName := ⟨"ChangeCodec$Bytes", "byteAt", "(I)I"⟩
abbrev cc_B_put : ByteArray := prog_2_method_4_code
def yy_B_put : MethodName := ⟨"ChangeCodec$Bytes", "put", "(I)V"⟩
abbrev cc_B_putAll : ByteArray := prog_2_method_5_code
def yy_B_putAll : MethodName := ⟨"ChangeCodec$Bytes", "putAll", "(LChangeCodec$Bytes;)V"⟩
abbrev cc_B_putU : ByteArray := prog_2_method_6_code
def yy_B_putU : MethodName := ⟨"ChangeCodec$Bytes", "putU", "(I)V"⟩
abbrev cc_B_putS : ByteArray := prog_2_method_7_code
def yy_B_putS : MethodName := ⟨"ChangeCodec$Bytes", "putS", "(I)V"⟩
abbrev cc_B_putRef : ByteArray := prog_2_method_8_code
def yy_B_putRef : MethodName := ⟨"ChangeCodec$Bytes", "putRef", "(II)V"⟩
abbrev cc_B_putLetters : ByteArray := prog_2_method_9_code
def yy_B_putLetters : MethodName := ⟨"ChangeCodec$Bytes", "putLetters", "(J)V"⟩
abbrev cc_B_putHighestFirst : ByteArray := prog_2_method_10_code
def yy_B_putHighestFirst : MethodName := ⟨"ChangeCodec$Bytes", "putHighestFirst", "(JI)V"⟩
abbrev cc_B_putLowestFirst : ByteArray := prog_2_method_11_code
def yy_B_putLowestFirst : MethodName := ⟨"ChangeCodec$Bytes", "putLowestFirst", "(I)V"⟩
abbrev cc_B_checkOf : ByteArray := prog_2_method_12_code
def yy_B_checkOf : MethodName := ⟨"ChangeCodec$Bytes", "checkOf", "(II)I"⟩
abbrev cc_B_lengthOfU : ByteArray := prog_2_method_13_code
def yy_B_lengthOfU : MethodName := ⟨"ChangeCodec$Bytes", "lengthOfU", "(I)I"⟩
abbrev cc_C_init : ByteArray := prog_3_method_1_code
def yy_C_init : MethodName := ⟨"ChangeCodec$Change", "<init>", "()V"⟩
abbrev cc_C_start : ByteArray := prog_3_method_2_code
def yy_C_start : MethodName := ⟨"ChangeCodec$Change", "start", "(III)V"⟩
abbrev cc_C_clockOf : ByteArray := prog_3_method_3_code
def yy_C_clockOf : MethodName := ⟨"ChangeCodec$Change", "clockOf", "(I)I"⟩
abbrev cc_C_idOf : ByteArray := prog_3_method_4_code
def yy_C_idOf : MethodName := ⟨"ChangeCodec$Change", "idOf", "(I)I"⟩
abbrev cc_C_append : ByteArray := prog_3_method_5_code
def yy_C_append : MethodName := ⟨"ChangeCodec$Change", "append", "(IIJII)V"⟩
abbrev cc_C_putHead : ByteArray := prog_3_method_6_code
def yy_C_putHead : MethodName := ⟨"ChangeCodec$Change", "putHead", "(LChangeCodec$Bytes;)V"⟩
abbrev cc_C_putClock : ByteArray := prog_3_method_7_code
def yy_C_putClock : MethodName := ⟨"ChangeCodec$Change", "putClock", "(LChangeCodec$Bytes;)V"⟩
abbrev cc_C_putOperation : ByteArray := prog_3_method_8_code
def yy_C_putOperation : MethodName := ⟨"ChangeCodec$Change", "putOperation", "(LChangeCodec$Bytes;I)V"⟩
abbrev cc_C_putValue : ByteArray := prog_3_method_9_code
def yy_C_putValue : MethodName := ⟨"ChangeCodec$Change", "putValue", "(LChangeCodec$Bytes;III)V"⟩
abbrev cc_D_init : ByteArray := prog_4_method_1_code
def yy_D_init : MethodName := ⟨"ChangeCodec$Reader", "<init>", "()V"⟩
abbrev cc_D_readChange : ByteArray := prog_4_method_2_code
def yy_D_readChange : MethodName := ⟨"ChangeCodec$Reader", "readChange", "(LChangeCodec$Change;I)I"⟩
abbrev cc_D_readHead : ByteArray := prog_4_method_3_code
def yy_D_readHead : MethodName := ⟨"ChangeCodec$Reader", "readHead", "(LChangeCodec$Change;)V"⟩
abbrev cc_D_readClock : ByteArray := prog_4_method_4_code
def yy_D_readClock : MethodName := ⟨"ChangeCodec$Reader", "readClock", "(LChangeCodec$Change;)V"⟩
abbrev cc_D_readCount : ByteArray := prog_4_method_5_code
def yy_D_readCount : MethodName := ⟨"ChangeCodec$Reader", "readCount", "(I)I"⟩
abbrev cc_D_readOperation : ByteArray := prog_4_method_6_code
def yy_D_readOperation : MethodName := ⟨"ChangeCodec$Reader", "readOperation", "(LChangeCodec$Change;I)V"⟩
abbrev cc_D_readValue : ByteArray := prog_4_method_7_code
def yy_D_readValue : MethodName := ⟨"ChangeCodec$Reader", "readValue", "(II)I"⟩
abbrev cc_D_readRef : ByteArray := prog_4_method_8_code
def yy_D_readRef : MethodName := ⟨"ChangeCodec$Reader", "readRef", "(IZ)I"⟩
abbrev cc_D_readLetters : ByteArray := prog_4_method_9_code
def yy_D_readLetters : MethodName := ⟨"ChangeCodec$Reader", "readLetters", "(II)J"⟩
abbrev cc_D_readCheck : ByteArray := prog_4_method_10_code
def yy_D_readCheck : MethodName := ⟨"ChangeCodec$Reader", "readCheck", "(I)V"⟩
abbrev cc_D_readByte : ByteArray := prog_4_method_11_code
def yy_D_readByte : MethodName := ⟨"ChangeCodec$Reader", "readByte", "(II)I"⟩
abbrev cc_D_readNumber : ByteArray := prog_4_method_12_code
def yy_D_readNumber : MethodName := ⟨"ChangeCodec$Reader", "readNumber", "(II)I"⟩
abbrev cc_D_readU : ByteArray := prog_4_method_13_code
def yy_D_readU : MethodName := ⟨"ChangeCodec$Reader", "readU", "()I"⟩
abbrev cc_D_readS : ByteArray := prog_4_method_14_code
def yy_D_readS : MethodName := ⟨"ChangeCodec$Reader", "readS", "()I"⟩
abbrev cc_D_next : ByteArray := prog_4_method_15_code
def yy_D_next : MethodName := ⟨"ChangeCodec$Reader", "next", "()I"⟩
abbrev cc_D_fail : ByteArray := prog_4_method_16_code
def yy_D_fail : MethodName := ⟨"ChangeCodec$Reader", "fail", "(II)V"⟩
abbrev cc_U_isActor : ByteArray := prog_5_method_2_code
def yy_U_isActor : MethodName := ⟨"ChangeCodec$Rules", "isActor", "(I)Z"⟩
abbrev cc_U_isSeq : ByteArray := prog_5_method_3_code
def yy_U_isSeq : MethodName := ⟨"ChangeCodec$Rules", "isSeq", "(I)Z"⟩
abbrev cc_U_isCounter : ByteArray := prog_5_method_4_code
def yy_U_isCounter : MethodName := ⟨"ChangeCodec$Rules", "isCounter", "(I)Z"⟩
abbrev cc_U_isOperation : ByteArray := prog_5_method_5_code
def yy_U_isOperation : MethodName := ⟨"ChangeCodec$Rules", "isOperation", "(IIIJII)Z"⟩
abbrev cc_U_isHeader : ByteArray := prog_5_method_6_code
def yy_U_isHeader : MethodName := ⟨"ChangeCodec$Rules", "isHeader", "(II)Z"⟩
abbrev cc_U_isObject : ByteArray := prog_5_method_7_code
def yy_U_isObject : MethodName := ⟨"ChangeCodec$Rules", "isObject", "(III)Z"⟩
abbrev cc_U_isKey : ByteArray := prog_5_method_8_code
def yy_U_isKey : MethodName := ⟨"ChangeCodec$Rules", "isKey", "(IIJ)Z"⟩
abbrev cc_U_isValue : ByteArray := prog_5_method_9_code
def yy_U_isValue : MethodName := ⟨"ChangeCodec$Rules", "isValue", "(III)Z"⟩
abbrev cc_U_refersBack : ByteArray := prog_5_method_10_code
def yy_U_refersBack : MethodName := ⟨"ChangeCodec$Rules", "refersBack", "(JI)Z"⟩
abbrev cc_U_isLetter : ByteArray := prog_5_method_11_code
def yy_U_isLetter : MethodName := ⟨"ChangeCodec$Rules", "isLetter", "(I)Z"⟩
abbrev cc_U_lettersOf : ByteArray := prog_5_method_12_code
def yy_U_lettersOf : MethodName := ⟨"ChangeCodec$Rules", "lettersOf", "(I)J"⟩
abbrev cc_U_countLetters : ByteArray := prog_5_method_13_code
def yy_U_countLetters : MethodName := ⟨"ChangeCodec$Rules", "countLetters", "(J)I"⟩
abbrev cc_X_init : ByteArray := prog_1_method_1_code
def yy_X_init : MethodName := ⟨"ChangeCodec", "<init>", "()V"⟩
abbrev cc_X_begin : ByteArray := prog_1_method_2_code
def yy_X_begin : MethodName := ⟨"ChangeCodec", "begin", "(III)V"⟩
abbrev cc_X_hangs : ByteArray := prog_1_method_3_code
def yy_X_hangs : MethodName := ⟨"ChangeCodec", "hangs", "(II)Z"⟩
abbrev cc_X_add : ByteArray := prog_1_method_4_code
def yy_X_add : MethodName := ⟨"ChangeCodec", "add", "(IIJII)I"⟩
abbrev cc_X_undo : ByteArray := prog_1_method_5_code
def yy_X_undo : MethodName := ⟨"ChangeCodec", "undo", "()Z"⟩
abbrev cc_X_size : ByteArray := prog_1_method_6_code
def yy_X_size : MethodName := ⟨"ChangeCodec", "size", "()I"⟩
abbrev cc_X_write : ByteArray := prog_1_method_7_code
def yy_X_write : MethodName := ⟨"ChangeCodec", "write", "()I"⟩
abbrev cc_X_clear : ByteArray := prog_1_method_8_code
def yy_X_clear : MethodName := ⟨"ChangeCodec", "clear", "()V"⟩
abbrev cc_X_give : ByteArray := prog_1_method_9_code
def yy_X_give : MethodName := ⟨"ChangeCodec", "give", "(JI)Z"⟩
abbrev cc_X_cut : ByteArray := prog_1_method_10_code
def yy_X_cut : MethodName := ⟨"ChangeCodec", "cut", "(I)Z"⟩
abbrev cc_X_turn : ByteArray := prog_1_method_11_code
def yy_X_turn : MethodName := ⟨"ChangeCodec", "turn", "()V"⟩
abbrev cc_X_read : ByteArray := prog_1_method_12_code
def yy_X_read : MethodName := ⟨"ChangeCodec", "read", "()I"⟩
abbrev cc_X_of : ByteArray := prog_1_method_13_code
def yy_X_of : MethodName := ⟨"ChangeCodec", "of", "(I)I"⟩
abbrev cc_X_operation : ByteArray := prog_1_method_14_code
def yy_X_operation : MethodName := ⟨"ChangeCodec", "operation", "(II)I"⟩
abbrev cc_X_key : ByteArray := prog_1_method_15_code
def yy_X_key : MethodName := ⟨"ChangeCodec", "key", "(I)J"⟩
abbrev cc_X_output : ByteArray := prog_1_method_16_code
def yy_X_output : MethodName := ⟨"ChangeCodec", "output", "(I)I"⟩
abbrev cc_X_look : ByteArray := prog_1_method_17_code
def yy_X_look : MethodName := ⟨"ChangeCodec", "look", "(I)I"⟩
abbrev cc_X_hasOperations : ByteArray := prog_1_method_18_code
def yy_X_hasOperations : MethodName := ⟨"ChangeCodec", "hasOperations", "()Z"⟩
abbrev cc_X_hasOperation : ByteArray := prog_1_method_19_code
def yy_X_hasOperation : MethodName := ⟨"ChangeCodec", "hasOperation", "(I)Z"⟩
abbrev cc_X_measure : ByteArray := prog_1_method_20_code
def yy_X_measure : MethodName := ⟨"ChangeCodec", "measure", "()I"⟩
abbrev cc_X_tradeDraft : ByteArray := prog_1_method_21_code
def yy_X_tradeDraft : MethodName := ⟨"ChangeCodec", "tradeDraft", "()V"⟩
abbrev cc_M_init : ByteArray := prog_7_method_1_code
def yy_M_init : MethodName := ⟨"ChangeCodecModel", "<init>", "()V"⟩
abbrev cc_M_isActor : ByteArray := prog_7_method_3_code
def yy_M_isActor : MethodName := ⟨"ChangeCodecModel", "isActor", "(I)Z"⟩
abbrev cc_M_isId : ByteArray := prog_7_method_4_code
def yy_M_isId : MethodName := ⟨"ChangeCodecModel", "isId", "(J)Z"⟩
abbrev cc_M_letters : ByteArray := prog_7_method_5_code
def yy_M_letters : MethodName := ⟨"ChangeCodecModel", "letters", "(J)I"⟩
abbrev cc_M_isValue : ByteArray := prog_7_method_6_code
def yy_M_isValue : MethodName := ⟨"ChangeCodecModel", "isValue", "(II)Z"⟩
abbrev cc_M_isOperation : ByteArray := prog_7_method_7_code
def yy_M_isOperation : MethodName := ⟨"ChangeCodecModel", "isOperation", "(IIIJII)Z"⟩
abbrev cc_M_idOf : ByteArray := prog_7_method_8_code
def yy_M_idOf : MethodName := ⟨"ChangeCodecModel", "idOf", "(I)I"⟩
abbrev cc_M_begin : ByteArray := prog_7_method_9_code
def yy_M_begin : MethodName := ⟨"ChangeCodecModel", "begin", "(III)V"⟩
abbrev cc_M_hangs : ByteArray := prog_7_method_10_code
def yy_M_hangs : MethodName := ⟨"ChangeCodecModel", "hangs", "(II)Z"⟩
abbrev cc_M_add : ByteArray := prog_7_method_11_code
def yy_M_add : MethodName := ⟨"ChangeCodecModel", "add", "(IIJII)I"⟩
abbrev cc_M_undo : ByteArray := prog_7_method_12_code
def yy_M_undo : MethodName := ⟨"ChangeCodecModel", "undo", "()Z"⟩
abbrev cc_M_lay : ByteArray := prog_7_method_13_code
def yy_M_lay : MethodName := ⟨"ChangeCodecModel", "lay", "(I)V"⟩
abbrev cc_M_layU : ByteArray := prog_7_method_14_code
def yy_M_layU : MethodName := ⟨"ChangeCodecModel", "layU", "(I)V"⟩
abbrev cc_M_layS : ByteArray := prog_7_method_15_code
def yy_M_layS : MethodName := ⟨"ChangeCodecModel", "layS", "(I)V"⟩
abbrev cc_M_layLetters : ByteArray := prog_7_method_16_code
def yy_M_layLetters : MethodName := ⟨"ChangeCodecModel", "layLetters", "(J)V"⟩
abbrev cc_M_layRef : ByteArray := prog_7_method_17_code
def yy_M_layRef : MethodName := ⟨"ChangeCodecModel", "layRef", "(II)V"⟩
abbrev cc_M_layOperation : ByteArray := prog_7_method_18_code
def yy_M_layOperation : MethodName := ⟨"ChangeCodecModel", "layOperation", "(I)V"⟩
abbrev cc_M_layBody : ByteArray := prog_7_method_19_code
def yy_M_layBody : MethodName := ⟨"ChangeCodecModel", "layBody", "()V"⟩
abbrev cc_M_checkOf : ByteArray := prog_7_method_20_code
def yy_M_checkOf : MethodName := ⟨"ChangeCodecModel", "checkOf", "([BII)I"⟩
abbrev cc_M_isWhole : ByteArray := prog_7_method_21_code
def yy_M_isWhole : MethodName := ⟨"ChangeCodecModel", "isWhole", "()Z"⟩
abbrev cc_M_ahead : ByteArray := prog_7_method_22_code
def yy_M_ahead : MethodName := ⟨"ChangeCodecModel", "ahead", "()I"⟩
abbrev cc_M_size : ByteArray := prog_7_method_23_code
def yy_M_size : MethodName := ⟨"ChangeCodecModel", "size", "()I"⟩
abbrev cc_M_write : ByteArray := prog_7_method_24_code
def yy_M_write : MethodName := ⟨"ChangeCodecModel", "write", "()I"⟩
abbrev cc_M_clear : ByteArray := prog_7_method_25_code
def yy_M_clear : MethodName := ⟨"ChangeCodecModel", "clear", "()V"⟩
abbrev cc_M_give : ByteArray := prog_7_method_26_code
def yy_M_give : MethodName := ⟨"ChangeCodecModel", "give", "(JI)Z"⟩
abbrev cc_M_cut : ByteArray := prog_7_method_27_code
def yy_M_cut : MethodName := ⟨"ChangeCodecModel", "cut", "(I)Z"⟩
abbrev cc_M_turn : ByteArray := prog_7_method_28_code
def yy_M_turn : MethodName := ⟨"ChangeCodecModel", "turn", "()V"⟩
abbrev cc_M_wrong : ByteArray := prog_7_method_29_code
def yy_M_wrong : MethodName := ⟨"ChangeCodecModel", "wrong", "(II)I"⟩
abbrev cc_M_next : ByteArray := prog_7_method_30_code
def yy_M_next : MethodName := ⟨"ChangeCodecModel", "next", "()I"⟩
abbrev cc_M_must : ByteArray := prog_7_method_31_code
def yy_M_must : MethodName := ⟨"ChangeCodecModel", "must", "(Z)V"⟩
abbrev cc_M_readU : ByteArray := prog_7_method_32_code
def yy_M_readU : MethodName := ⟨"ChangeCodecModel", "readU", "()I"⟩
abbrev cc_M_readS : ByteArray := prog_7_method_33_code
def yy_M_readS : MethodName := ⟨"ChangeCodecModel", "readS", "()I"⟩
abbrev cc_M_readLetters : ByteArray := prog_7_method_34_code
def yy_M_readLetters : MethodName := ⟨"ChangeCodecModel", "readLetters", "(II)J"⟩
abbrev cc_M_readRef : ByteArray := prog_7_method_35_code
def yy_M_readRef : MethodName := ⟨"ChangeCodecModel", "readRef", "(IZ)I"⟩
abbrev cc_M_readOperation : ByteArray := prog_7_method_36_code
def yy_M_readOperation : MethodName := ⟨"ChangeCodecModel", "readOperation", "(I)V"⟩
abbrev cc_M_readBody : ByteArray := prog_7_method_37_code
def yy_M_readBody : MethodName := ⟨"ChangeCodecModel", "readBody", "()V"⟩
abbrev cc_M_readCheck : ByteArray := prog_7_method_38_code
def yy_M_readCheck : MethodName := ⟨"ChangeCodecModel", "readCheck", "(I)V"⟩
abbrev cc_M_take : ByteArray := prog_7_method_39_code
def yy_M_take : MethodName := ⟨"ChangeCodecModel", "take", "()V"⟩
abbrev cc_M_read : ByteArray := prog_7_method_40_code
def yy_M_read : MethodName := ⟨"ChangeCodecModel", "read", "()I"⟩
abbrev cc_M_of : ByteArray := prog_7_method_41_code
def yy_M_of : MethodName := ⟨"ChangeCodecModel", "of", "(I)I"⟩
abbrev cc_M_isIn : ByteArray := prog_7_method_42_code
def yy_M_isIn : MethodName := ⟨"ChangeCodecModel", "isIn", "(I)Z"⟩
abbrev cc_M_operation : ByteArray := prog_7_method_43_code
def yy_M_operation : MethodName := ⟨"ChangeCodecModel", "operation", "(II)I"⟩
abbrev cc_M_key : ByteArray := prog_7_method_44_code
def yy_M_key : MethodName := ⟨"ChangeCodecModel", "key", "(I)J"⟩
abbrev cc_M_output : ByteArray := prog_7_method_45_code
def yy_M_output : MethodName := ⟨"ChangeCodecModel", "output", "(I)I"⟩
abbrev cc_M_look : ByteArray := prog_7_method_46_code
def yy_M_look : MethodName := ⟨"ChangeCodecModel", "look", "(I)I"⟩
abbrev cc_W_begin : ByteArray := method_3_code
def yy_W_begin : MethodName := ⟨"ChangeCodecLaw", "begin", "(LChangeCodec;III)I"⟩
abbrev cc_W_add : ByteArray := method_4_code
def yy_W_add : MethodName := ⟨"ChangeCodecLaw", "add", "(LChangeCodec;IIJII[J)I"⟩
abbrev cc_W_size : ByteArray := method_5_code
def yy_W_size : MethodName := ⟨"ChangeCodecLaw", "size", "(LChangeCodec;[J)I"⟩
abbrev cc_W_write : ByteArray := method_6_code
def yy_W_write : MethodName := ⟨"ChangeCodecLaw", "write", "(LChangeCodec;[J)I"⟩
abbrev cc_W_operation : ByteArray := method_7_code
def yy_W_operation : MethodName := ⟨"ChangeCodecLaw", "operation", "(LChangeCodec;II[J)I"⟩
abbrev cc_W_key : ByteArray := method_8_code
def yy_W_key : MethodName := ⟨"ChangeCodecLaw", "key", "(LChangeCodec;I[J)I"⟩
abbrev cc_W_law : ByteArray := code
def yy_W_law : MethodName := ⟨"ChangeCodecLaw", "law", "([I)Z"⟩
abbrev cc_J_fill : ByteArray := prog_18_method_103_code
def yy_J_fill : MethodName := ⟨"java/util/Arrays", "fill", "([II)V"⟩
abbrev cc_K_min : ByteArray := prog_12_method_69_code
def yy_K_min : MethodName := ⟨"java/lang/Math", "min", "(II)I"⟩
abbrev ks_pre (dC : Nat → ClassId) (dI : Nat → Nat → Nat) (tys : List (ClassId × FieldType)) (w0 : va_W) (sz : Nat) (U : State) : Prop := U.heap.size = sz ∧ va_P (dC, dI) vcl w0 U.heap ∧ va_K (dC, dI) vcl tys U ∧ va_D (fun _ => True) w0
abbrev ks_post (dC : Nat → ClassId) (dI : Nat → Nat → Nat) (tys : List (ClassId × FieldType)) (A : Nat → Prop) (w1 : va_W) (t : State) : Prop := va_P (dC, dI) vcl w1 t.heap ∧ va_K (dC, dI) vcl tys t ∧ va_D A w1
theorem ks_eqB {D : va_G} {cl : List vw_C} {tys : List (ClassId × FieldType)} {s : State} {a b : ClassId} (hK : va_K D cl tys s) (i j : Nat) (h1 : tys[i]? = some (a, .byte)) (h2 : tys[j]? = some (b, .byte)) : a = b := Option.some.inj ((show s.vm.findClass ("[" ++ FieldType.byte.toString) = some a from (hK.2 i _ h1).2).symm.trans (hK.2 j _ h2).2)
theorem ks_eqI {D : va_G} {cl : List vw_C} {tys : List (ClassId × FieldType)} {s : State} {a b : ClassId} (hK : va_K D cl tys s) (i j : Nat) (h1 : tys[i]? = some (a, .int)) (h2 : tys[j]? = some (b, .int)) : a = b := Option.some.inj ((show s.vm.findClass ("[" ++ FieldType.int.toString) = some a from (hK.2 i _ h1).2).symm.trans (hK.2 j _ h2).2)
theorem ks_eqJ {D : va_G} {cl : List vw_C} {tys : List (ClassId × FieldType)} {s : State} {a b : ClassId} (hK : va_K D cl tys s) (i j : Nat) (h1 : tys[i]? = some (a, .long)) (h2 : tys[j]? = some (b, .long)) : a = b := Option.some.inj ((show s.vm.findClass ("[" ++ FieldType.long.toString) = some a from (hK.2 i _ h1).2).symm.trans (hK.2 j _ h2).2)
end
section
theorem dd_B_init_0 : decode cc_B_init 0 = .ok (.aload_n 0, 1) := by decide +kernel
theorem dd_B_init_1 : decode cc_B_init 1 = .ok (.invokespecial 3, 3) := by decide +kernel
theorem dd_B_init_4 : decode cc_B_init 4 = .ok (.aload_n 0, 1) := by decide +kernel
theorem dd_B_init_5 : decode cc_B_init 5 = .ok (.iload_n 1, 1) := by decide +kernel
theorem dd_B_init_6 : decode cc_B_init 6 = .ok (.ifCond .lt 7, 3) := by decide +kernel
theorem dd_B_init_9 : decode cc_B_init 9 = .ok (.iload_n 1, 1) := by decide +kernel
theorem dd_B_init_10 : decode cc_B_init 10 = .ok (.goto 4, 3) := by decide +kernel
theorem dd_B_init_14 : decode cc_B_init 14 = .ok (.newarray .byte, 2) := by decide +kernel
theorem dd_B_init_16 : decode cc_B_init 16 = .ok (.putfield 9, 3) := by decide +kernel
theorem dd_B_init_19 : decode cc_B_init 19 = .ok (.aload_n 0, 1) := by decide +kernel
theorem dd_B_init_20 : decode cc_B_init 20 = .ok (.iconst 0, 1) := by decide +kernel
theorem dd_B_init_21 : decode cc_B_init 21 = .ok (.putfield 15, 3) := by decide +kernel
theorem dd_B_init_24 : decode cc_B_init 24 = .ok (.return_, 1) := by decide +kernel
theorem dd_C_init_0 : decode cc_C_init 0 = .ok (.aload_n 0, 1) := by decide +kernel
theorem dd_C_init_1 : decode cc_C_init 1 = .ok (.invokespecial 3, 3) := by decide +kernel
theorem dd_C_init_4 : decode cc_C_init 4 = .ok (.aload_n 0, 1) := by decide +kernel
theorem dd_C_init_5 : decode cc_C_init 5 = .ok (.bipush 8, 2) := by decide +kernel
theorem dd_C_init_7 : decode cc_C_init 7 = .ok (.newarray .int, 2) := by decide +kernel
theorem dd_C_init_9 : decode cc_C_init 9 = .ok (.putfield 9, 3) := by decide +kernel
theorem dd_C_init_12 : decode cc_C_init 12 = .ok (.aload_n 0, 1) := by decide +kernel
theorem dd_C_init_13 : decode cc_C_init 13 = .ok (.bipush 16, 2) := by decide +kernel
theorem dd_C_init_15 : decode cc_C_init 15 = .ok (.newarray .int, 2) := by decide +kernel
theorem dd_C_init_17 : decode cc_C_init 17 = .ok (.putfield 15, 3) := by decide +kernel
theorem dd_C_init_20 : decode cc_C_init 20 = .ok (.aload_n 0, 1) := by decide +kernel
theorem dd_C_init_21 : decode cc_C_init 21 = .ok (.bipush 16, 2) := by decide +kernel
theorem dd_C_init_23 : decode cc_C_init 23 = .ok (.newarray .int, 2) := by decide +kernel
theorem dd_C_init_25 : decode cc_C_init 25 = .ok (.putfield 18, 3) := by decide +kernel
theorem dd_C_init_28 : decode cc_C_init 28 = .ok (.aload_n 0, 1) := by decide +kernel
theorem dd_C_init_29 : decode cc_C_init 29 = .ok (.bipush 16, 2) := by decide +kernel
theorem dd_C_init_31 : decode cc_C_init 31 = .ok (.newarray .long, 2) := by decide +kernel
theorem dd_C_init_33 : decode cc_C_init 33 = .ok (.putfield 21, 3) := by decide +kernel
theorem dd_C_init_36 : decode cc_C_init 36 = .ok (.aload_n 0, 1) := by decide +kernel
theorem dd_C_init_37 : decode cc_C_init 37 = .ok (.bipush 16, 2) := by decide +kernel
theorem dd_C_init_39 : decode cc_C_init 39 = .ok (.newarray .int, 2) := by decide +kernel
theorem dd_C_init_41 : decode cc_C_init 41 = .ok (.putfield 25, 3) := by decide +kernel
theorem dd_C_init_44 : decode cc_C_init 44 = .ok (.aload_n 0, 1) := by decide +kernel
theorem dd_C_init_45 : decode cc_C_init 45 = .ok (.bipush 16, 2) := by decide +kernel
theorem dd_C_init_47 : decode cc_C_init 47 = .ok (.newarray .int, 2) := by decide +kernel
theorem dd_C_init_49 : decode cc_C_init 49 = .ok (.putfield 28, 3) := by decide +kernel
theorem dd_C_init_52 : decode cc_C_init 52 = .ok (.return_, 1) := by decide +kernel
theorem dd_D_init_0 : decode cc_D_init 0 = .ok (.aload_n 0, 1) := by decide +kernel
theorem dd_D_init_1 : decode cc_D_init 1 = .ok (.invokespecial 3, 3) := by decide +kernel
theorem dd_D_init_4 : decode cc_D_init 4 = .ok (.aload_n 0, 1) := by decide +kernel
theorem dd_D_init_5 : decode cc_D_init 5 = .ok (.new 9, 3) := by decide +kernel
theorem dd_D_init_8 : decode cc_D_init 8 = .ok (.dup, 1) := by decide +kernel
theorem dd_D_init_9 : decode cc_D_init 9 = .ok (.sipush 4096, 3) := by decide +kernel
theorem dd_D_init_12 : decode cc_D_init 12 = .ok (.invokespecial 11, 3) := by decide +kernel
theorem dd_D_init_15 : decode cc_D_init 15 = .ok (.putfield 14, 3) := by decide +kernel
theorem dd_D_init_18 : decode cc_D_init 18 = .ok (.aload_n 0, 1) := by decide +kernel
theorem dd_D_init_19 : decode cc_D_init 19 = .ok (.iconst 0, 1) := by decide +kernel
theorem dd_D_init_20 : decode cc_D_init 20 = .ok (.putfield 20, 3) := by decide +kernel
theorem dd_D_init_23 : decode cc_D_init 23 = .ok (.aload_n 0, 1) := by decide +kernel
theorem dd_D_init_24 : decode cc_D_init 24 = .ok (.iconst (-1), 1) := by decide +kernel
theorem dd_D_init_25 : decode cc_D_init 25 = .ok (.putfield 24, 3) := by decide +kernel
theorem dd_D_init_28 : decode cc_D_init 28 = .ok (.aload_n 0, 1) := by decide +kernel
theorem dd_D_init_29 : decode cc_D_init 29 = .ok (.iconst 0, 1) := by decide +kernel
theorem dd_D_init_30 : decode cc_D_init 30 = .ok (.putfield 27, 3) := by decide +kernel
theorem dd_D_init_33 : decode cc_D_init 33 = .ok (.aload_n 0, 1) := by decide +kernel
theorem dd_D_init_34 : decode cc_D_init 34 = .ok (.iconst (-1), 1) := by decide +kernel
theorem dd_D_init_35 : decode cc_D_init 35 = .ok (.putfield 30, 3) := by decide +kernel
theorem dd_D_init_38 : decode cc_D_init 38 = .ok (.return_, 1) := by decide +kernel
theorem dd_X_init_0 : decode cc_X_init 0 = .ok (.aload_n 0, 1) := by decide +kernel
theorem dd_X_init_1 : decode cc_X_init 1 = .ok (.invokespecial 1, 3) := by decide +kernel
theorem dd_X_init_4 : decode cc_X_init 4 = .ok (.aload_n 0, 1) := by decide +kernel
theorem dd_X_init_5 : decode cc_X_init 5 = .ok (.new 7, 3) := by decide +kernel
theorem dd_X_init_8 : decode cc_X_init 8 = .ok (.dup, 1) := by decide +kernel
theorem dd_X_init_9 : decode cc_X_init 9 = .ok (.sipush 4096, 3) := by decide +kernel
theorem dd_X_init_12 : decode cc_X_init 12 = .ok (.invokespecial 11, 3) := by decide +kernel
theorem dd_X_init_15 : decode cc_X_init 15 = .ok (.putfield 14, 3) := by decide +kernel
theorem dd_X_init_18 : decode cc_X_init 18 = .ok (.aload_n 0, 1) := by decide +kernel
theorem dd_X_init_19 : decode cc_X_init 19 = .ok (.new 18, 3) := by decide +kernel
theorem dd_X_init_22 : decode cc_X_init 22 = .ok (.dup, 1) := by decide +kernel
theorem dd_X_init_23 : decode cc_X_init 23 = .ok (.invokespecial 20, 3) := by decide +kernel
theorem dd_X_init_26 : decode cc_X_init 26 = .ok (.putfield 21, 3) := by decide +kernel
theorem dd_X_init_29 : decode cc_X_init 29 = .ok (.aload_n 0, 1) := by decide +kernel
theorem dd_X_init_30 : decode cc_X_init 30 = .ok (.aload_n 0, 1) := by decide +kernel
theorem dd_X_init_31 : decode cc_X_init 31 = .ok (.getfield 21, 3) := by decide +kernel
theorem dd_X_init_34 : decode cc_X_init 34 = .ok (.getfield 25, 3) := by decide +kernel
theorem dd_X_init_37 : decode cc_X_init 37 = .ok (.putfield 28, 3) := by decide +kernel
theorem dd_X_init_40 : decode cc_X_init 40 = .ok (.aload_n 0, 1) := by decide +kernel
theorem dd_X_init_41 : decode cc_X_init 41 = .ok (.new 7, 3) := by decide +kernel
theorem dd_X_init_44 : decode cc_X_init 44 = .ok (.dup, 1) := by decide +kernel
theorem dd_X_init_45 : decode cc_X_init 45 = .ok (.sipush 320, 3) := by decide +kernel
theorem dd_X_init_48 : decode cc_X_init 48 = .ok (.invokespecial 11, 3) := by decide +kernel
theorem dd_X_init_51 : decode cc_X_init 51 = .ok (.putfield 31, 3) := by decide +kernel
theorem dd_X_init_54 : decode cc_X_init 54 = .ok (.aload_n 0, 1) := by decide +kernel
theorem dd_X_init_55 : decode cc_X_init 55 = .ok (.new 34, 3) := by decide +kernel
theorem dd_X_init_58 : decode cc_X_init 58 = .ok (.dup, 1) := by decide +kernel
theorem dd_X_init_59 : decode cc_X_init 59 = .ok (.invokespecial 36, 3) := by decide +kernel
theorem dd_X_init_62 : decode cc_X_init 62 = .ok (.putfield 37, 3) := by decide +kernel
theorem dd_X_init_65 : decode cc_X_init 65 = .ok (.aload_n 0, 1) := by decide +kernel
theorem dd_X_init_66 : decode cc_X_init 66 = .ok (.new 34, 3) := by decide +kernel
theorem dd_X_init_69 : decode cc_X_init 69 = .ok (.dup, 1) := by decide +kernel
theorem dd_X_init_70 : decode cc_X_init 70 = .ok (.invokespecial 36, 3) := by decide +kernel
theorem dd_X_init_73 : decode cc_X_init 73 = .ok (.putfield 41, 3) := by decide +kernel
theorem dd_X_init_76 : decode cc_X_init 76 = .ok (.aload_n 0, 1) := by decide +kernel
theorem dd_X_init_77 : decode cc_X_init 77 = .ok (.iconst 0, 1) := by decide +kernel
theorem dd_X_init_78 : decode cc_X_init 78 = .ok (.putfield 44, 3) := by decide +kernel
theorem dd_X_init_81 : decode cc_X_init 81 = .ok (.aload_n 0, 1) := by decide +kernel
theorem dd_X_init_82 : decode cc_X_init 82 = .ok (.iconst 0, 1) := by decide +kernel
theorem dd_X_init_83 : decode cc_X_init 83 = .ok (.putfield 48, 3) := by decide +kernel
theorem dd_X_init_86 : decode cc_X_init 86 = .ok (.return_, 1) := by decide +kernel
end
section
theorem dd_M_init_0 : decode cc_M_init 0 = .ok (.aload_n 0, 1) := by decide +kernel
theorem dd_M_init_1 : decode cc_M_init 1 = .ok (.invokespecial 1, 3) := by decide +kernel
theorem dd_M_init_4 : decode cc_M_init 4 = .ok (.aload_n 0, 1) := by decide +kernel
theorem dd_M_init_5 : decode cc_M_init 5 = .ok (.bipush 8, 2) := by decide +kernel
theorem dd_M_init_7 : decode cc_M_init 7 = .ok (.newarray .int, 2) := by decide +kernel
theorem dd_M_init_9 : decode cc_M_init 9 = .ok (.putfield 7, 3) := by decide +kernel
theorem dd_M_init_12 : decode cc_M_init 12 = .ok (.aload_n 0, 1) := by decide +kernel
theorem dd_M_init_13 : decode cc_M_init 13 = .ok (.bipush 16, 2) := by decide +kernel
theorem dd_M_init_15 : decode cc_M_init 15 = .ok (.newarray .int, 2) := by decide +kernel
theorem dd_M_init_17 : decode cc_M_init 17 = .ok (.putfield 13, 3) := by decide +kernel
theorem dd_M_init_20 : decode cc_M_init 20 = .ok (.aload_n 0, 1) := by decide +kernel
theorem dd_M_init_21 : decode cc_M_init 21 = .ok (.bipush 16, 2) := by decide +kernel
theorem dd_M_init_23 : decode cc_M_init 23 = .ok (.newarray .int, 2) := by decide +kernel
theorem dd_M_init_25 : decode cc_M_init 25 = .ok (.putfield 16, 3) := by decide +kernel
theorem dd_M_init_28 : decode cc_M_init 28 = .ok (.aload_n 0, 1) := by decide +kernel
theorem dd_M_init_29 : decode cc_M_init 29 = .ok (.bipush 16, 2) := by decide +kernel
theorem dd_M_init_31 : decode cc_M_init 31 = .ok (.newarray .long, 2) := by decide +kernel
theorem dd_M_init_33 : decode cc_M_init 33 = .ok (.putfield 19, 3) := by decide +kernel
theorem dd_M_init_36 : decode cc_M_init 36 = .ok (.aload_n 0, 1) := by decide +kernel
theorem dd_M_init_37 : decode cc_M_init 37 = .ok (.bipush 16, 2) := by decide +kernel
theorem dd_M_init_39 : decode cc_M_init 39 = .ok (.newarray .int, 2) := by decide +kernel
theorem dd_M_init_41 : decode cc_M_init 41 = .ok (.putfield 23, 3) := by decide +kernel
theorem dd_M_init_44 : decode cc_M_init 44 = .ok (.aload_n 0, 1) := by decide +kernel
theorem dd_M_init_45 : decode cc_M_init 45 = .ok (.bipush 16, 2) := by decide +kernel
theorem dd_M_init_47 : decode cc_M_init 47 = .ok (.newarray .int, 2) := by decide +kernel
theorem dd_M_init_49 : decode cc_M_init 49 = .ok (.putfield 26, 3) := by decide +kernel
theorem dd_M_init_52 : decode cc_M_init 52 = .ok (.aload_n 0, 1) := by decide +kernel
theorem dd_M_init_53 : decode cc_M_init 53 = .ok (.bipush 8, 2) := by decide +kernel
theorem dd_M_init_55 : decode cc_M_init 55 = .ok (.newarray .int, 2) := by decide +kernel
theorem dd_M_init_57 : decode cc_M_init 57 = .ok (.putfield 29, 3) := by decide +kernel
theorem dd_M_init_60 : decode cc_M_init 60 = .ok (.aload_n 0, 1) := by decide +kernel
theorem dd_M_init_61 : decode cc_M_init 61 = .ok (.bipush 16, 2) := by decide +kernel
theorem dd_M_init_63 : decode cc_M_init 63 = .ok (.newarray .int, 2) := by decide +kernel
theorem dd_M_init_65 : decode cc_M_init 65 = .ok (.putfield 32, 3) := by decide +kernel
theorem dd_M_init_68 : decode cc_M_init 68 = .ok (.aload_n 0, 1) := by decide +kernel
theorem dd_M_init_69 : decode cc_M_init 69 = .ok (.bipush 16, 2) := by decide +kernel
theorem dd_M_init_71 : decode cc_M_init 71 = .ok (.newarray .int, 2) := by decide +kernel
theorem dd_M_init_73 : decode cc_M_init 73 = .ok (.putfield 35, 3) := by decide +kernel
theorem dd_M_init_76 : decode cc_M_init 76 = .ok (.aload_n 0, 1) := by decide +kernel
theorem dd_M_init_77 : decode cc_M_init 77 = .ok (.bipush 16, 2) := by decide +kernel
theorem dd_M_init_79 : decode cc_M_init 79 = .ok (.newarray .long, 2) := by decide +kernel
theorem dd_M_init_81 : decode cc_M_init 81 = .ok (.putfield 38, 3) := by decide +kernel
theorem dd_M_init_84 : decode cc_M_init 84 = .ok (.aload_n 0, 1) := by decide +kernel
theorem dd_M_init_85 : decode cc_M_init 85 = .ok (.bipush 16, 2) := by decide +kernel
theorem dd_M_init_87 : decode cc_M_init 87 = .ok (.newarray .int, 2) := by decide +kernel
theorem dd_M_init_89 : decode cc_M_init 89 = .ok (.putfield 41, 3) := by decide +kernel
theorem dd_M_init_92 : decode cc_M_init 92 = .ok (.aload_n 0, 1) := by decide +kernel
theorem dd_M_init_93 : decode cc_M_init 93 = .ok (.bipush 16, 2) := by decide +kernel
theorem dd_M_init_95 : decode cc_M_init 95 = .ok (.newarray .int, 2) := by decide +kernel
theorem dd_M_init_97 : decode cc_M_init 97 = .ok (.putfield 44, 3) := by decide +kernel
theorem dd_M_init_100 : decode cc_M_init 100 = .ok (.aload_n 0, 1) := by decide +kernel
theorem dd_M_init_101 : decode cc_M_init 101 = .ok (.sipush 4096, 3) := by decide +kernel
theorem dd_M_init_104 : decode cc_M_init 104 = .ok (.newarray .byte, 2) := by decide +kernel
theorem dd_M_init_106 : decode cc_M_init 106 = .ok (.putfield 47, 3) := by decide +kernel
theorem dd_M_init_109 : decode cc_M_init 109 = .ok (.aload_n 0, 1) := by decide +kernel
theorem dd_M_init_110 : decode cc_M_init 110 = .ok (.sipush 4096, 3) := by decide +kernel
theorem dd_M_init_113 : decode cc_M_init 113 = .ok (.newarray .byte, 2) := by decide +kernel
theorem dd_M_init_115 : decode cc_M_init 115 = .ok (.putfield 51, 3) := by decide +kernel
theorem dd_M_init_118 : decode cc_M_init 118 = .ok (.aload_n 0, 1) := by decide +kernel
theorem dd_M_init_119 : decode cc_M_init 119 = .ok (.iconst (-1), 1) := by decide +kernel
theorem dd_M_init_120 : decode cc_M_init 120 = .ok (.putfield 54, 3) := by decide +kernel
theorem dd_M_init_123 : decode cc_M_init 123 = .ok (.aload_n 0, 1) := by decide +kernel
theorem dd_M_init_124 : decode cc_M_init 124 = .ok (.sipush 1400, 3) := by decide +kernel
theorem dd_M_init_127 : decode cc_M_init 127 = .ok (.newarray .byte, 2) := by decide +kernel
theorem dd_M_init_129 : decode cc_M_init 129 = .ok (.putfield 58, 3) := by decide +kernel
theorem dd_M_init_132 : decode cc_M_init 132 = .ok (.return_, 1) := by decide +kernel
end
section
theorem dd_W_law_0 : decode cc_W_law 0 = .ok (.new 8, 3) := by decide +kernel
theorem dd_W_law_3 : decode cc_W_law 3 = .ok (.dup, 1) := by decide +kernel
theorem dd_W_law_4 : decode cc_W_law 4 = .ok (.invokespecial 40, 3) := by decide +kernel
theorem dd_W_law_7 : decode cc_W_law 7 = .ok (.astore_n 1, 1) := by decide +kernel
theorem dd_W_law_8 : decode cc_W_law 8 = .ok (.new 41, 3) := by decide +kernel
theorem dd_W_law_11 : decode cc_W_law 11 = .ok (.dup, 1) := by decide +kernel
theorem dd_W_law_12 : decode cc_W_law 12 = .ok (.invokespecial 43, 3) := by decide +kernel
theorem dd_W_law_15 : decode cc_W_law 15 = .ok (.astore_n 2, 1) := by decide +kernel
theorem dd_W_law_16 : decode cc_W_law 16 = .ok (.iconst 1, 1) := by decide +kernel
theorem dd_W_law_17 : decode cc_W_law 17 = .ok (.newarray .long, 2) := by decide +kernel
theorem dd_W_law_19 : decode cc_W_law 19 = .ok (.astore_n 3, 1) := by decide +kernel
theorem dd_W_law_20 : decode cc_W_law 20 = .ok (.iconst 0, 1) := by decide +kernel
theorem dd_W_law_21 : decode cc_W_law 21 = .ok (.istore 4, 2) := by decide +kernel
theorem dd_W_law_23 : decode cc_W_law 23 = .ok (.iload 4, 2) := by decide +kernel
theorem dd_W_law_25 : decode cc_W_law 25 = .ok (.aload_n 0, 1) := by decide +kernel
theorem dd_W_law_26 : decode cc_W_law 26 = .ok (.arraylength, 1) := by decide +kernel
theorem dd_W_law_27 : decode cc_W_law 27 = .ok (.bipush 7, 2) := by decide +kernel
theorem dd_W_law_29 : decode cc_W_law 29 = .ok (.isub, 1) := by decide +kernel
theorem dd_W_law_30 : decode cc_W_law 30 = .ok (.if_icmp .gt 609, 3) := by decide +kernel
theorem dd_W_law_639 : decode cc_W_law 639 = .ok (.iconst 1, 1) := by decide +kernel
theorem dd_W_law_640 : decode cc_W_law 640 = .ok (.ireturn, 1) := by decide +kernel
end
section
theorem qq_1 : (Cond.initialized "ChangeCodec") ∈ gw := gw_at 1 (by decide +kernel) rfl
theorem qq_2 : (Cond.initialized "ChangeCodec$Bytes") ∈ gw := gw_at 2 (by decide +kernel) rfl
theorem qq_3 : (Cond.initialized "ChangeCodec$Reader") ∈ gw := gw_at 3 (by decide +kernel) rfl
theorem qq_4 : (Cond.initialized "ChangeCodec$Change") ∈ gw := gw_at 4 (by decide +kernel) rfl
theorem qq_5 : (Cond.initialized "ChangeCodecModel") ∈ gw := gw_at 5 (by decide +kernel) rfl
theorem qq_17 : (Cond.classLink "ChangeCodecLaw" 8 "ChangeCodec") ∈ gw := gw_at 17 (by decide +kernel) rfl
theorem qq_18 : (Cond.instantiable "ChangeCodec" 8) ∈ gw := gw_at 18 (by decide +kernel) rfl
theorem qq_19 : (Cond.methodLink "ChangeCodecLaw" 40 ⟨"ChangeCodec", "<init>", "()V"⟩) ∈ gw := gw_at 19 (by decide +kernel) rfl
theorem qq_20 : (Cond.instanceMethod ⟨"ChangeCodec", "<init>", "()V"⟩) ∈ gw := gw_at 20 (by decide +kernel) rfl
set_option maxRecDepth 100000 in
theorem qq_21 : (Cond.code ⟨"ChangeCodec", "<init>", "()V"⟩ prog_1_method_1_code 1 (Option.none : Option FieldType)) ∈ gw := gw_at 21 rfl rfl
theorem qq_22 : (Cond.methodLink "ChangeCodec" 1 ⟨"java/lang/Object", "<init>", "()V"⟩) ∈ gw := gw_at 22 (by decide +kernel) rfl
theorem qq_23 : (Cond.instanceMethod ⟨"java/lang/Object", "<init>", "()V"⟩) ∈ gw := gw_at 23 (by decide +kernel) rfl
set_option maxRecDepth 100000 in
theorem qq_24 : (Cond.code ⟨"java/lang/Object", "<init>", "()V"⟩ object_method_1_code 1 (Option.none : Option FieldType)) ∈ gw := gw_at 24 rfl rfl
theorem qq_25 : (Cond.classLink "ChangeCodec" 7 "ChangeCodec$Bytes") ∈ gw := gw_at 25 (by decide +kernel) rfl
theorem qq_26 : (Cond.instantiable "ChangeCodec$Bytes" 2) ∈ gw := gw_at 26 (by decide +kernel) rfl
theorem qq_27 : (Cond.methodLink "ChangeCodec" 11 ⟨"ChangeCodec$Bytes", "<init>", "(I)V"⟩) ∈ gw := gw_at 27 (by decide +kernel) rfl
theorem qq_28 : (Cond.instanceMethod ⟨"ChangeCodec$Bytes", "<init>", "(I)V"⟩) ∈ gw := gw_at 28 (by decide +kernel) rfl
set_option maxRecDepth 100000 in
theorem qq_29 : (Cond.code ⟨"ChangeCodec$Bytes", "<init>", "(I)V"⟩ prog_2_method_1_code 2 (Option.none : Option FieldType)) ∈ gw := gw_at 29 rfl rfl
theorem qq_30 : (Cond.methodLink "ChangeCodec$Bytes" 3 ⟨"java/lang/Object", "<init>", "()V"⟩) ∈ gw := gw_at 30 (by decide +kernel) rfl
theorem qq_31 : (Cond.fieldLink "ChangeCodec$Bytes" 9 "ChangeCodec$Bytes" "cells" "[B") ∈ gw := gw_at 31 (by decide +kernel) rfl
theorem qq_33 : (Cond.fieldLink "ChangeCodec$Bytes" 15 "ChangeCodec$Bytes" "used" "I") ∈ gw := gw_at 33 (by decide +kernel) rfl
theorem qq_41 : (Cond.arrayClass FieldType.byte) ∈ gw := gw_at 41 (by decide +kernel) rfl
theorem qq_42 : (Cond.classLink "ChangeCodec" 18 "ChangeCodec$Reader") ∈ gw := gw_at 42 (by decide +kernel) rfl
theorem qq_43 : (Cond.instantiable "ChangeCodec$Reader" 5) ∈ gw := gw_at 43 (by decide +kernel) rfl
theorem qq_44 : (Cond.methodLink "ChangeCodec" 20 ⟨"ChangeCodec$Reader", "<init>", "()V"⟩) ∈ gw := gw_at 44 (by decide +kernel) rfl
theorem qq_45 : (Cond.instanceMethod ⟨"ChangeCodec$Reader", "<init>", "()V"⟩) ∈ gw := gw_at 45 (by decide +kernel) rfl
set_option maxRecDepth 100000 in
theorem qq_46 : (Cond.code ⟨"ChangeCodec$Reader", "<init>", "()V"⟩ prog_4_method_1_code 1 (Option.none : Option FieldType)) ∈ gw := gw_at 46 rfl rfl
theorem qq_47 : (Cond.methodLink "ChangeCodec$Reader" 3 ⟨"java/lang/Object", "<init>", "()V"⟩) ∈ gw := gw_at 47 (by decide +kernel) rfl
theorem qq_48 : (Cond.classLink "ChangeCodec$Reader" 9 "ChangeCodec$Bytes") ∈ gw := gw_at 48 (by decide +kernel) rfl
theorem qq_49 : (Cond.methodLink "ChangeCodec$Reader" 11 ⟨"ChangeCodec$Bytes", "<init>", "(I)V"⟩) ∈ gw := gw_at 49 (by decide +kernel) rfl
theorem qq_50 : (Cond.fieldLink "ChangeCodec$Reader" 14 "ChangeCodec$Reader" "source" "LChangeCodec$Bytes;") ∈ gw := gw_at 50 (by decide +kernel) rfl
theorem qq_51 : (Cond.fieldLink "ChangeCodec" 25 "ChangeCodec$Reader" "source" "LChangeCodec$Bytes;") ∈ gw := gw_at 51 (by decide +kernel) rfl
theorem qq_52 : (Cond.fieldLink "ChangeCodec$Reader" 20 "ChangeCodec$Reader" "here" "I") ∈ gw := gw_at 52 (by decide +kernel) rfl
theorem qq_54 : (Cond.fieldLink "ChangeCodec$Reader" 24 "ChangeCodec$Reader" "end" "I") ∈ gw := gw_at 54 (by decide +kernel) rfl
theorem qq_55 : (Cond.fieldLink "ChangeCodec$Reader" 27 "ChangeCodec$Reader" "fault" "I") ∈ gw := gw_at 55 (by decide +kernel) rfl
theorem qq_57 : (Cond.fieldLink "ChangeCodec$Reader" 30 "ChangeCodec$Reader" "place" "I") ∈ gw := gw_at 57 (by decide +kernel) rfl
theorem qq_70 : (Cond.classLink "ChangeCodec" 34 "ChangeCodec$Change") ∈ gw := gw_at 70 (by decide +kernel) rfl
theorem qq_71 : (Cond.instantiable "ChangeCodec$Change" 10) ∈ gw := gw_at 71 (by decide +kernel) rfl
theorem qq_72 : (Cond.methodLink "ChangeCodec" 36 ⟨"ChangeCodec$Change", "<init>", "()V"⟩) ∈ gw := gw_at 72 (by decide +kernel) rfl
theorem qq_73 : (Cond.instanceMethod ⟨"ChangeCodec$Change", "<init>", "()V"⟩) ∈ gw := gw_at 73 (by decide +kernel) rfl
set_option maxRecDepth 100000 in
theorem qq_74 : (Cond.code ⟨"ChangeCodec$Change", "<init>", "()V"⟩ prog_3_method_1_code 1 (Option.none : Option FieldType)) ∈ gw := gw_at 74 rfl rfl
theorem qq_75 : (Cond.methodLink "ChangeCodec$Change" 3 ⟨"java/lang/Object", "<init>", "()V"⟩) ∈ gw := gw_at 75 (by decide +kernel) rfl
theorem qq_86 : (Cond.fieldLink "ChangeCodec$Change" 9 "ChangeCodec$Change" "clock" "[I") ∈ gw := gw_at 86 (by decide +kernel) rfl
theorem qq_89 : (Cond.fieldLink "ChangeCodec$Change" 15 "ChangeCodec$Change" "types" "[I") ∈ gw := gw_at 89 (by decide +kernel) rfl
theorem qq_91 : (Cond.fieldLink "ChangeCodec$Change" 18 "ChangeCodec$Change" "objects" "[I") ∈ gw := gw_at 91 (by decide +kernel) rfl
theorem qq_93 : (Cond.fieldLink "ChangeCodec$Change" 21 "ChangeCodec$Change" "keys" "[J") ∈ gw := gw_at 93 (by decide +kernel) rfl
theorem qq_95 : (Cond.fieldLink "ChangeCodec$Change" 25 "ChangeCodec$Change" "kinds" "[I") ∈ gw := gw_at 95 (by decide +kernel) rfl
theorem qq_97 : (Cond.fieldLink "ChangeCodec$Change" 28 "ChangeCodec$Change" "values" "[I") ∈ gw := gw_at 97 (by decide +kernel) rfl
theorem qq_120 : (Cond.arrayClass FieldType.int) ∈ gw := gw_at 120 (by decide +kernel) rfl
theorem qq_121 : (Cond.arrayClass FieldType.long) ∈ gw := gw_at 121 (by decide +kernel) rfl
theorem qq_122 : (Cond.fieldLink "ChangeCodec" 14 "ChangeCodec" "written" "LChangeCodec$Bytes;") ∈ gw := gw_at 122 (by decide +kernel) rfl
theorem qq_123 : (Cond.fieldLink "ChangeCodec" 28 "ChangeCodec" "given" "LChangeCodec$Bytes;") ∈ gw := gw_at 123 (by decide +kernel) rfl
theorem qq_124 : (Cond.fieldLink "ChangeCodec" 31 "ChangeCodec" "body" "LChangeCodec$Bytes;") ∈ gw := gw_at 124 (by decide +kernel) rfl
theorem qq_125 : (Cond.fieldLink "ChangeCodec" 21 "ChangeCodec" "reader" "LChangeCodec$Reader;") ∈ gw := gw_at 125 (by decide +kernel) rfl
theorem qq_126 : (Cond.fieldLink "ChangeCodec" 37 "ChangeCodec" "change" "LChangeCodec$Change;") ∈ gw := gw_at 126 (by decide +kernel) rfl
theorem qq_127 : (Cond.fieldLink "ChangeCodec" 41 "ChangeCodec" "draft" "LChangeCodec$Change;") ∈ gw := gw_at 127 (by decide +kernel) rfl
theorem qq_128 : (Cond.fieldLink "ChangeCodec" 44 "ChangeCodec" "begun" "Z") ∈ gw := gw_at 128 (by decide +kernel) rfl
theorem qq_129 : (Cond.fieldLink "ChangeCodec" 48 "ChangeCodec" "at" "I") ∈ gw := gw_at 129 (by decide +kernel) rfl
theorem qq_573 : (Cond.classLink "ChangeCodecLaw" 41 "ChangeCodecModel") ∈ gw := gw_at 573 (by decide +kernel) rfl
theorem qq_574 : (Cond.instantiable "ChangeCodecModel" 33) ∈ gw := gw_at 574 (by decide +kernel) rfl
theorem qq_575 : (Cond.methodLink "ChangeCodecLaw" 43 ⟨"ChangeCodecModel", "<init>", "()V"⟩) ∈ gw := gw_at 575 (by decide +kernel) rfl
theorem qq_576 : (Cond.instanceMethod ⟨"ChangeCodecModel", "<init>", "()V"⟩) ∈ gw := gw_at 576 (by decide +kernel) rfl
set_option maxRecDepth 100000 in
theorem qq_577 : (Cond.code ⟨"ChangeCodecModel", "<init>", "()V"⟩ prog_7_method_1_code 1 (Option.none : Option FieldType)) ∈ gw := gw_at 577 rfl rfl
theorem qq_578 : (Cond.methodLink "ChangeCodecModel" 1 ⟨"java/lang/Object", "<init>", "()V"⟩) ∈ gw := gw_at 578 (by decide +kernel) rfl
theorem qq_584 : (Cond.fieldLink "ChangeCodecModel" 7 "ChangeCodecModel" "clock" "[I") ∈ gw := gw_at 584 (by decide +kernel) rfl
theorem qq_586 : (Cond.fieldLink "ChangeCodecModel" 13 "ChangeCodecModel" "types" "[I") ∈ gw := gw_at 586 (by decide +kernel) rfl
theorem qq_587 : (Cond.fieldLink "ChangeCodecModel" 16 "ChangeCodecModel" "objects" "[I") ∈ gw := gw_at 587 (by decide +kernel) rfl
theorem qq_588 : (Cond.fieldLink "ChangeCodecModel" 19 "ChangeCodecModel" "keys" "[J") ∈ gw := gw_at 588 (by decide +kernel) rfl
theorem qq_589 : (Cond.fieldLink "ChangeCodecModel" 23 "ChangeCodecModel" "kinds" "[I") ∈ gw := gw_at 589 (by decide +kernel) rfl
theorem qq_590 : (Cond.fieldLink "ChangeCodecModel" 26 "ChangeCodecModel" "values" "[I") ∈ gw := gw_at 590 (by decide +kernel) rfl
theorem qq_594 : (Cond.fieldLink "ChangeCodecModel" 29 "ChangeCodecModel" "newClock" "[I") ∈ gw := gw_at 594 (by decide +kernel) rfl
theorem qq_596 : (Cond.fieldLink "ChangeCodecModel" 32 "ChangeCodecModel" "newTypes" "[I") ∈ gw := gw_at 596 (by decide +kernel) rfl
theorem qq_597 : (Cond.fieldLink "ChangeCodecModel" 35 "ChangeCodecModel" "newObjects" "[I") ∈ gw := gw_at 597 (by decide +kernel) rfl
theorem qq_598 : (Cond.fieldLink "ChangeCodecModel" 38 "ChangeCodecModel" "newKeys" "[J") ∈ gw := gw_at 598 (by decide +kernel) rfl
theorem qq_599 : (Cond.fieldLink "ChangeCodecModel" 41 "ChangeCodecModel" "newKinds" "[I") ∈ gw := gw_at 599 (by decide +kernel) rfl
theorem qq_600 : (Cond.fieldLink "ChangeCodecModel" 44 "ChangeCodecModel" "newValues" "[I") ∈ gw := gw_at 600 (by decide +kernel) rfl
theorem qq_601 : (Cond.fieldLink "ChangeCodecModel" 47 "ChangeCodecModel" "output" "[B") ∈ gw := gw_at 601 (by decide +kernel) rfl
theorem qq_603 : (Cond.fieldLink "ChangeCodecModel" 51 "ChangeCodecModel" "input" "[B") ∈ gw := gw_at 603 (by decide +kernel) rfl
theorem qq_607 : (Cond.fieldLink "ChangeCodecModel" 54 "ChangeCodecModel" "place" "I") ∈ gw := gw_at 607 (by decide +kernel) rfl
theorem qq_608 : (Cond.fieldLink "ChangeCodecModel" 58 "ChangeCodecModel" "body" "[B") ∈ gw := gw_at 608 (by decide +kernel) rfl
end
section
set_option maxHeartbeats 4000000 in
set_option maxRecDepth 100000 in
/-- Bytes(k): a row of k bytes, all 0, none used -/
theorem cb_B_init (l : Launch) (dC : Nat → ClassId) (dI : Nat → Nat → Nat) (cB cI cJ : ClassId) (sz : Nat) (h0 k : Nat) (hk : k ≤ 4096) : Met l yy_B_init (Cond.code yy_B_init cc_B_init 2 none :: gw) { frames := 1, cells := 1, slots := k, locals := 12 } (va_Pc [.ref h0, .int (nI k)] (ks_pre dC dI [(cB, .byte), (cI, .int), (cJ, .long)] [(h0, .inr (2, [.null, .int 0]))] sz)) (va_Qv (fun (u : Nat) => True) (fun (u : Nat) => ks_post dC dI [(cB, .byte), (cI, .int), (cJ, .long)] (va_A [(h0, .inr (2, [.null, .int 0]))] sz) [(h0, .inr (2, [.ref u, .int 0])), (u, .inl (cB, k, .inl (fun _ => 0)))]) (va_A [(h0, .inr (2, [.null, .int 0]))] sz)) 1 k (va_A [(h0, .inr (2, [.null, .int 0]))] sz) := by
  refine Met.ofW (cc := cc_B_init) (maxL := 2) (ret := none) (by decide) rfl ?_
  intro p e s m args below meth c s₁ B hml hv
  obtain ⟨rfl, hsz, hP, hK, hD0⟩ := hv
  have hx := B.exec
  have hb := B.bytes
  have hr := B.returns
  have hw : ∀ w ∈ gw, w.before _ s = true := fun w h => atoms_spec (ws := (Cond.code yy_B_init cc_B_init 2 none :: gw)) B.pre w (List.mem_cons_of_mem _ h)
  have hown : s.vm.findClass RR_B = some m.cls := findClass_of_methodNamed B.named
  have hlocks := B.notSynchronized
  have hin : meth.name = "<init>" := (name_of_methodNamed B.named B.method).1
  subst hsz
  have hD := hD0.self (sz := s.heap.size)
  generalize hAe : va_A [(h0, .inr (2, [.null, .int 0]))] s.heap.size = A at hD ⊢
  have hA : ∀ q : Nat, s.heap.size ≤ q → A q := fun q h => by rw [← hAe]; exact Or.inr h
  have hS : va_S A s.heap s.heap [] := va_S.rf
  have hP : va_P (dC, dI) vcl [(h0, .inr (2, [.null, .int 0]))] s.heap := hP
  have hl := lv_entry ([.ref h0, .int (nI k)]) (n := 2) (Nat.le_of_ble_eq_true rfl)
  rw [lg_entry_eq]
  generalize (lg_sl ([.ref h0, .int (nI k)]) ++ List.replicate (2 - (lg_sl ([.ref h0, .int (nI k)])).length) Slot.unset).toArray = ls at hl ⊢
  have hl : lv_has ls 2 [(0, .ref h0), (1, .int (nI k))] := hl
  refine lv_aload_n hx hb dd_B_init_0 rfl (lv_at hl 0 rfl) ?_
  refine W.objInit hx hb hown (hw _ qq_30) (hw _ qq_23) (hw _ qq_24) rfl (by rw [hml]; exact hl.1) rfl dd_B_init_1 (Nat.le_of_ble_eq_true rfl) (Nat.le_of_ble_eq_true rfl) ?_
  refine W.eq (g2 := F0 m 4 ls []) rfl ?_
  refine lv_aload_n hx hb dd_B_init_4 rfl (lv_at hl 0 rfl) ?_
  refine lv_iload_n hx hb dd_B_init_5 rfl (lv_at hl 1 rfl) ?_
  refine lv_if_lt (tgt := 13) hx hb dd_B_init_6 (by decide) (fun c_1 => ?_) (fun c_1 => ?_)
  · exact absurd c_1 (nI_pos (by omega))
  · refine lv_iload_n hx hb dd_B_init_9 rfl (lv_at hl 1 rfl) ?_
    refine lv_goto (tgt := 14) hx hb dd_B_init_10 (by decide) ?_
    refine va_newa (atype := .byte) (ty := .byte) (N' := k) (a0 := (k, .inl (fun _ => 0))) hx hb (hw _ qq_41) rfl hK hP hD hS hA (fun _ => rfl) (nI_pos (by omega)) (nI_clamp (by omega)) (by first | decide | (simp only [componentBytes]; omega)) (by first | exact Nat.le_of_ble_eq_true rfl | (simp only [headSpec]; omega)) (by first | exact Nat.le_of_ble_eq_true rfl | (simp only [headSpec]; omega)) dd_B_init_14 (fun q_2 cA_3 H hK hP hD hS => ?_)
    obtain rfl : cB = cA_3 := ks_eqB hK 0 3 rfl rfl
    have hK : va_K (dC, dI) vcl [(cB, .byte), (cI, .int), (cJ, .long)] s := hK.sub [0, 1, 2] rfl
    have hP : va_P (dC, dI) vcl [(h0, .inr (2, [.null, .int 0])), (q_2, .inl (cB, k, .inl (fun _ => 0)))] H := hP
    have hD : va_D A [(h0, .inr (2, [.null, .int 0])), (q_2, .inl (cB, k, .inl (fun _ => 0)))] := hD
    refine W.widen (k := 1) (n := k) (by first | exact Nat.le_refl _ | omega) (by first | exact Nat.le_refl _ | omega) ?_
    refine va_putF (D := (dC, dI)) (ci := 2) (v := .ref q_2) (ty := .array .byte) (C := RR_B) (T := TT_B) (N := 2) hx hb hw hh_B ty_B ty_B_ok nm_B hown hK hP hD hS 0 rfl rfl 0 (by decide) (hw _ qq_31) (fun _ h9 => h9) rfl hin rfl (by decide +kernel) rfl rfl (Nat.le_of_ble_eq_true rfl) dd_B_init_16 (fun H locs hP hD hS => ?_)
    have hP : va_P (dC, dI) vcl [(h0, .inr (2, [.ref q_2, .int 0])), (q_2, .inl (cB, k, .inl (fun _ => 0)))] H := hP
    have hD : va_D A [(h0, .inr (2, [.ref q_2, .int 0])), (q_2, .inl (cB, k, .inl (fun _ => 0)))] := hD
    refine lv_aload_n hx hb dd_B_init_19 rfl (lv_at hl 0 rfl) ?_
    refine lv_iconst (v := 0) hx hb dd_B_init_20 (by decide) ?_
    refine va_put (D := (dC, dI)) (ci := 2) (v := .int 0) (ty := .int) (C := RR_B) (T := TT_B) (N := 2) hx hb hw hh_B ty_B ty_B_ok nm_B hown hK hP hD hS 0 rfl rfl 1 (by decide) (hw _ qq_33) (fun _ h9 => h9) rfl (by decide +kernel) rfl rfl (Nat.le_of_ble_eq_true rfl) dd_B_init_21 (fun H locs hP hD hS => ?_)
    have hP : va_P (dC, dI) vcl [(h0, .inr (2, [.ref q_2, .int 0])), (q_2, .inl (cB, k, .inl (fun _ => 0)))] H := hP
    have hD : va_D A [(h0, .inr (2, [.ref q_2, .int 0])), (q_2, .inl (cB, k, .inl (fun _ => 0)))] := hD
    have hP9 := hP.sub (ws' := [(h0, .inr (2, [.ref q_2, .int 0])), (q_2, .inl (cB, k, .inl (fun _ => 0)))]) [0, 1] rfl
    have hD9 := hD.sub (ws' := [(h0, .inr (2, [.ref q_2, .int 0])), (q_2, .inl (cB, k, .inl (fun _ => 0)))]) [0, 1] (by decide) rfl
    refine W.widen (k := 1) (n := k) (by first | exact Nat.le_refl _ | omega) (by first | exact Nat.le_refl _ | omega) ?_
    exact W.vret hx hb hr (fun t ht hW => ⟨⟨q_2, rfl, trivial, by rw [ht]; exact hP9, va_K.moved hW.alike hK, hD9⟩, hS.F ht⟩) hS.2.2 dd_B_init_24

set_option maxHeartbeats 4000000 in
set_option maxRecDepth 100000 in
/-- Change(): six rows, all 0 -/
theorem cb_C_init (l : Launch) (dC : Nat → ClassId) (dI : Nat → Nat → Nat) (cB cI cJ : ClassId) (sz : Nat) (h0 : Nat) : Met l yy_C_init (Cond.code yy_C_init cc_C_init 1 none :: gw) { frames := 1, cells := 6, slots := 88, locals := 12 } (va_Pc [.ref h0] (ks_pre dC dI [(cB, .byte), (cI, .int), (cJ, .long)] [(h0, .inr (3, [.int 0, .int 0, .int 0, .int 0, .null, .null, .null, .null, .null, .null]))] sz)) (va_Qv (fun (u : Nat → Nat) => True) (fun (u : Nat → Nat) => ks_post dC dI [(cB, .byte), (cI, .int), (cJ, .long)] (va_A [(h0, .inr (3, [.int 0, .int 0, .int 0, .int 0, .null, .null, .null, .null, .null, .null]))] sz) [(h0, .inr (3, [.int 0, .int 0, .int 0, .int 0, .ref (u 0), .ref (u 1), .ref (u 2), .ref (u 3), .ref (u 4), .ref (u 5)])), ((u 0), .inl (cI, 8, .inl (fun _ => 0))), ((u 1), .inl (cI, 16, .inl (fun _ => 0))), ((u 2), .inl (cI, 16, .inl (fun _ => 0))), ((u 3), .inl (cJ, 16, .inr (.inl (fun _ => 0)))), ((u 4), .inl (cI, 16, .inl (fun _ => 0))), ((u 5), .inl (cI, 16, .inl (fun _ => 0)))]) (va_A [(h0, .inr (3, [.int 0, .int 0, .int 0, .int 0, .null, .null, .null, .null, .null, .null]))] sz)) 6 88 (va_A [(h0, .inr (3, [.int 0, .int 0, .int 0, .int 0, .null, .null, .null, .null, .null, .null]))] sz) := by
  refine Met.ofW (cc := cc_C_init) (maxL := 1) (ret := none) (by decide) rfl ?_
  intro p e s m args below meth c s₁ B hml hv
  obtain ⟨rfl, hsz, hP, hK, hD0⟩ := hv
  have hx := B.exec
  have hb := B.bytes
  have hr := B.returns
  have hw : ∀ w ∈ gw, w.before _ s = true := fun w h => atoms_spec (ws := (Cond.code yy_C_init cc_C_init 1 none :: gw)) B.pre w (List.mem_cons_of_mem _ h)
  have hown : s.vm.findClass RR_C = some m.cls := findClass_of_methodNamed B.named
  have hlocks := B.notSynchronized
  have hin : meth.name = "<init>" := (name_of_methodNamed B.named B.method).1
  subst hsz
  have hD := hD0.self (sz := s.heap.size)
  generalize hAe : va_A [(h0, .inr (3, [.int 0, .int 0, .int 0, .int 0, .null, .null, .null, .null, .null, .null]))] s.heap.size = A at hD ⊢
  have hA : ∀ q : Nat, s.heap.size ≤ q → A q := fun q h => by rw [← hAe]; exact Or.inr h
  have hS : va_S A s.heap s.heap [] := va_S.rf
  have hP : va_P (dC, dI) vcl [(h0, .inr (3, [.int 0, .int 0, .int 0, .int 0, .null, .null, .null, .null, .null, .null]))] s.heap := hP
  have hl := lv_entry ([.ref h0]) (n := 1) (Nat.le_of_ble_eq_true rfl)
  rw [lg_entry_eq]
  generalize (lg_sl ([.ref h0]) ++ List.replicate (1 - (lg_sl ([.ref h0])).length) Slot.unset).toArray = ls at hl ⊢
  have hl : lv_has ls 1 [(0, .ref h0)] := hl
  refine lv_aload_n hx hb dd_C_init_0 rfl (lv_at hl 0 rfl) ?_
  refine W.objInit hx hb hown (hw _ qq_75) (hw _ qq_23) (hw _ qq_24) rfl (by rw [hml]; exact hl.1) rfl dd_C_init_1 (Nat.le_of_ble_eq_true rfl) (Nat.le_of_ble_eq_true rfl) ?_
  refine W.eq (g2 := F0 m 4 ls []) rfl ?_
  refine lv_aload_n hx hb dd_C_init_4 rfl (lv_at hl 0 rfl) ?_
  refine lv_bipush (v := 8) hx hb dd_C_init_5 (by decide) ?_
  refine va_newa (atype := .int) (ty := .int) (N' := 8) (a0 := (8, .inl (fun _ => 0))) hx hb (hw _ qq_120) rfl hK hP hD hS hA (fun _ => rfl) (by decide) (by decide) (by first | decide | (simp only [componentBytes]; omega)) (by first | exact Nat.le_of_ble_eq_true rfl | (simp only [headSpec]; omega)) (by first | exact Nat.le_of_ble_eq_true rfl | (simp only [headSpec]; omega)) dd_C_init_7 (fun q_1 cA_2 H hK hP hD hS => ?_)
  obtain rfl : cI = cA_2 := ks_eqI hK 1 3 rfl rfl
  have hK : va_K (dC, dI) vcl [(cB, .byte), (cI, .int), (cJ, .long)] s := hK.sub [0, 1, 2] rfl
  have hP : va_P (dC, dI) vcl [(h0, .inr (3, [.int 0, .int 0, .int 0, .int 0, .null, .null, .null, .null, .null, .null])), (q_1, .inl (cI, 8, .inl (fun _ => 0)))] H := hP
  have hD : va_D A [(h0, .inr (3, [.int 0, .int 0, .int 0, .int 0, .null, .null, .null, .null, .null, .null])), (q_1, .inl (cI, 8, .inl (fun _ => 0)))] := hD
  refine W.widen (k := 1) (n := 8) (by first | exact Nat.le_refl _ | omega) (by first | exact Nat.le_refl _ | omega) ?_
  refine va_putF (D := (dC, dI)) (ci := 3) (v := .ref q_1) (ty := .array .int) (C := RR_C) (T := TT_C) (N := 10) hx hb hw hh_C ty_C ty_C_ok nm_C hown hK hP hD hS 0 rfl rfl 4 (by decide) (hw _ qq_86) (fun _ h9 => h9) rfl hin rfl (by decide +kernel) rfl rfl (Nat.le_of_ble_eq_true rfl) dd_C_init_9 (fun H locs hP hD hS => ?_)
  have hP : va_P (dC, dI) vcl [(h0, .inr (3, [.int 0, .int 0, .int 0, .int 0, .ref q_1, .null, .null, .null, .null, .null])), (q_1, .inl (cI, 8, .inl (fun _ => 0)))] H := hP
  have hD : va_D A [(h0, .inr (3, [.int 0, .int 0, .int 0, .int 0, .ref q_1, .null, .null, .null, .null, .null])), (q_1, .inl (cI, 8, .inl (fun _ => 0)))] := hD
  refine lv_aload_n hx hb dd_C_init_12 rfl (lv_at hl 0 rfl) ?_
  refine lv_bipush (v := 16) hx hb dd_C_init_13 (by decide) ?_
  refine va_newa (atype := .int) (ty := .int) (N' := 16) (a0 := (16, .inl (fun _ => 0))) hx hb (hw _ qq_120) rfl hK hP hD hS hA (fun _ => rfl) (by decide) (by decide) (by first | decide | (simp only [componentBytes]; omega)) (by first | exact Nat.le_of_ble_eq_true rfl | (simp only [headSpec]; omega)) (by first | exact Nat.le_of_ble_eq_true rfl | (simp only [headSpec]; omega)) dd_C_init_15 (fun q_3 cA_4 H hK hP hD hS => ?_)
  obtain rfl : cI = cA_4 := ks_eqI hK 1 3 rfl rfl
  have hK : va_K (dC, dI) vcl [(cB, .byte), (cI, .int), (cJ, .long)] s := hK.sub [0, 1, 2] rfl
  have hP : va_P (dC, dI) vcl [(h0, .inr (3, [.int 0, .int 0, .int 0, .int 0, .ref q_1, .null, .null, .null, .null, .null])), (q_1, .inl (cI, 8, .inl (fun _ => 0))), (q_3, .inl (cI, 16, .inl (fun _ => 0)))] H := hP
  have hD : va_D A [(h0, .inr (3, [.int 0, .int 0, .int 0, .int 0, .ref q_1, .null, .null, .null, .null, .null])), (q_1, .inl (cI, 8, .inl (fun _ => 0))), (q_3, .inl (cI, 16, .inl (fun _ => 0)))] := hD
  refine W.widen (k := 2) (n := 24) (by first | exact Nat.le_refl _ | omega) (by first | exact Nat.le_refl _ | omega) ?_
  refine va_putF (D := (dC, dI)) (ci := 3) (v := .ref q_3) (ty := .array .int) (C := RR_C) (T := TT_C) (N := 10) hx hb hw hh_C ty_C ty_C_ok nm_C hown hK hP hD hS 0 rfl rfl 5 (by decide) (hw _ qq_89) (fun _ h9 => h9) rfl hin rfl (by decide +kernel) rfl rfl (Nat.le_of_ble_eq_true rfl) dd_C_init_17 (fun H locs hP hD hS => ?_)
  have hP : va_P (dC, dI) vcl [(h0, .inr (3, [.int 0, .int 0, .int 0, .int 0, .ref q_1, .ref q_3, .null, .null, .null, .null])), (q_1, .inl (cI, 8, .inl (fun _ => 0))), (q_3, .inl (cI, 16, .inl (fun _ => 0)))] H := hP
  have hD : va_D A [(h0, .inr (3, [.int 0, .int 0, .int 0, .int 0, .ref q_1, .ref q_3, .null, .null, .null, .null])), (q_1, .inl (cI, 8, .inl (fun _ => 0))), (q_3, .inl (cI, 16, .inl (fun _ => 0)))] := hD
  refine lv_aload_n hx hb dd_C_init_20 rfl (lv_at hl 0 rfl) ?_
  refine lv_bipush (v := 16) hx hb dd_C_init_21 (by decide) ?_
  refine va_newa (atype := .int) (ty := .int) (N' := 16) (a0 := (16, .inl (fun _ => 0))) hx hb (hw _ qq_120) rfl hK hP hD hS hA (fun _ => rfl) (by decide) (by decide) (by first | decide | (simp only [componentBytes]; omega)) (by first | exact Nat.le_of_ble_eq_true rfl | (simp only [headSpec]; omega)) (by first | exact Nat.le_of_ble_eq_true rfl | (simp only [headSpec]; omega)) dd_C_init_23 (fun q_5 cA_6 H hK hP hD hS => ?_)
  obtain rfl : cI = cA_6 := ks_eqI hK 1 3 rfl rfl
  have hK : va_K (dC, dI) vcl [(cB, .byte), (cI, .int), (cJ, .long)] s := hK.sub [0, 1, 2] rfl
  have hP : va_P (dC, dI) vcl [(h0, .inr (3, [.int 0, .int 0, .int 0, .int 0, .ref q_1, .ref q_3, .null, .null, .null, .null])), (q_1, .inl (cI, 8, .inl (fun _ => 0))), (q_3, .inl (cI, 16, .inl (fun _ => 0))), (q_5, .inl (cI, 16, .inl (fun _ => 0)))] H := hP
  have hD : va_D A [(h0, .inr (3, [.int 0, .int 0, .int 0, .int 0, .ref q_1, .ref q_3, .null, .null, .null, .null])), (q_1, .inl (cI, 8, .inl (fun _ => 0))), (q_3, .inl (cI, 16, .inl (fun _ => 0))), (q_5, .inl (cI, 16, .inl (fun _ => 0)))] := hD
  refine W.widen (k := 3) (n := 40) (by first | exact Nat.le_refl _ | omega) (by first | exact Nat.le_refl _ | omega) ?_
  refine va_putF (D := (dC, dI)) (ci := 3) (v := .ref q_5) (ty := .array .int) (C := RR_C) (T := TT_C) (N := 10) hx hb hw hh_C ty_C ty_C_ok nm_C hown hK hP hD hS 0 rfl rfl 6 (by decide) (hw _ qq_91) (fun _ h9 => h9) rfl hin rfl (by decide +kernel) rfl rfl (Nat.le_of_ble_eq_true rfl) dd_C_init_25 (fun H locs hP hD hS => ?_)
  have hP : va_P (dC, dI) vcl [(h0, .inr (3, [.int 0, .int 0, .int 0, .int 0, .ref q_1, .ref q_3, .ref q_5, .null, .null, .null])), (q_1, .inl (cI, 8, .inl (fun _ => 0))), (q_3, .inl (cI, 16, .inl (fun _ => 0))), (q_5, .inl (cI, 16, .inl (fun _ => 0)))] H := hP
  have hD : va_D A [(h0, .inr (3, [.int 0, .int 0, .int 0, .int 0, .ref q_1, .ref q_3, .ref q_5, .null, .null, .null])), (q_1, .inl (cI, 8, .inl (fun _ => 0))), (q_3, .inl (cI, 16, .inl (fun _ => 0))), (q_5, .inl (cI, 16, .inl (fun _ => 0)))] := hD
  refine lv_aload_n hx hb dd_C_init_28 rfl (lv_at hl 0 rfl) ?_
  refine lv_bipush (v := 16) hx hb dd_C_init_29 (by decide) ?_
  refine va_newa (atype := .long) (ty := .long) (N' := 16) (a0 := (16, .inr (.inl (fun _ => 0)))) hx hb (hw _ qq_121) rfl hK hP hD hS hA (fun _ => rfl) (by decide) (by decide) (by first | decide | (simp only [componentBytes]; omega)) (by first | exact Nat.le_of_ble_eq_true rfl | (simp only [headSpec]; omega)) (by first | exact Nat.le_of_ble_eq_true rfl | (simp only [headSpec]; omega)) dd_C_init_31 (fun q_7 cA_8 H hK hP hD hS => ?_)
  obtain rfl : cJ = cA_8 := ks_eqJ hK 2 3 rfl rfl
  have hK : va_K (dC, dI) vcl [(cB, .byte), (cI, .int), (cJ, .long)] s := hK.sub [0, 1, 2] rfl
  have hP : va_P (dC, dI) vcl [(h0, .inr (3, [.int 0, .int 0, .int 0, .int 0, .ref q_1, .ref q_3, .ref q_5, .null, .null, .null])), (q_1, .inl (cI, 8, .inl (fun _ => 0))), (q_3, .inl (cI, 16, .inl (fun _ => 0))), (q_5, .inl (cI, 16, .inl (fun _ => 0))), (q_7, .inl (cJ, 16, .inr (.inl (fun _ => 0))))] H := hP
  have hD : va_D A [(h0, .inr (3, [.int 0, .int 0, .int 0, .int 0, .ref q_1, .ref q_3, .ref q_5, .null, .null, .null])), (q_1, .inl (cI, 8, .inl (fun _ => 0))), (q_3, .inl (cI, 16, .inl (fun _ => 0))), (q_5, .inl (cI, 16, .inl (fun _ => 0))), (q_7, .inl (cJ, 16, .inr (.inl (fun _ => 0))))] := hD
  refine W.widen (k := 4) (n := 56) (by first | exact Nat.le_refl _ | omega) (by first | exact Nat.le_refl _ | omega) ?_
  refine va_putF (D := (dC, dI)) (ci := 3) (v := .ref q_7) (ty := .array .long) (C := RR_C) (T := TT_C) (N := 10) hx hb hw hh_C ty_C ty_C_ok nm_C hown hK hP hD hS 0 rfl rfl 7 (by decide) (hw _ qq_93) (fun _ h9 => h9) rfl hin rfl (by decide +kernel) rfl rfl (Nat.le_of_ble_eq_true rfl) dd_C_init_33 (fun H locs hP hD hS => ?_)
  have hP : va_P (dC, dI) vcl [(h0, .inr (3, [.int 0, .int 0, .int 0, .int 0, .ref q_1, .ref q_3, .ref q_5, .ref q_7, .null, .null])), (q_1, .inl (cI, 8, .inl (fun _ => 0))), (q_3, .inl (cI, 16, .inl (fun _ => 0))), (q_5, .inl (cI, 16, .inl (fun _ => 0))), (q_7, .inl (cJ, 16, .inr (.inl (fun _ => 0))))] H := hP
  have hD : va_D A [(h0, .inr (3, [.int 0, .int 0, .int 0, .int 0, .ref q_1, .ref q_3, .ref q_5, .ref q_7, .null, .null])), (q_1, .inl (cI, 8, .inl (fun _ => 0))), (q_3, .inl (cI, 16, .inl (fun _ => 0))), (q_5, .inl (cI, 16, .inl (fun _ => 0))), (q_7, .inl (cJ, 16, .inr (.inl (fun _ => 0))))] := hD
  refine lv_aload_n hx hb dd_C_init_36 rfl (lv_at hl 0 rfl) ?_
  refine lv_bipush (v := 16) hx hb dd_C_init_37 (by decide) ?_
  refine va_newa (atype := .int) (ty := .int) (N' := 16) (a0 := (16, .inl (fun _ => 0))) hx hb (hw _ qq_120) rfl hK hP hD hS hA (fun _ => rfl) (by decide) (by decide) (by first | decide | (simp only [componentBytes]; omega)) (by first | exact Nat.le_of_ble_eq_true rfl | (simp only [headSpec]; omega)) (by first | exact Nat.le_of_ble_eq_true rfl | (simp only [headSpec]; omega)) dd_C_init_39 (fun q_9 cA_10 H hK hP hD hS => ?_)
  obtain rfl : cI = cA_10 := ks_eqI hK 1 3 rfl rfl
  have hK : va_K (dC, dI) vcl [(cB, .byte), (cI, .int), (cJ, .long)] s := hK.sub [0, 1, 2] rfl
  have hP : va_P (dC, dI) vcl [(h0, .inr (3, [.int 0, .int 0, .int 0, .int 0, .ref q_1, .ref q_3, .ref q_5, .ref q_7, .null, .null])), (q_1, .inl (cI, 8, .inl (fun _ => 0))), (q_3, .inl (cI, 16, .inl (fun _ => 0))), (q_5, .inl (cI, 16, .inl (fun _ => 0))), (q_7, .inl (cJ, 16, .inr (.inl (fun _ => 0)))), (q_9, .inl (cI, 16, .inl (fun _ => 0)))] H := hP
  have hD : va_D A [(h0, .inr (3, [.int 0, .int 0, .int 0, .int 0, .ref q_1, .ref q_3, .ref q_5, .ref q_7, .null, .null])), (q_1, .inl (cI, 8, .inl (fun _ => 0))), (q_3, .inl (cI, 16, .inl (fun _ => 0))), (q_5, .inl (cI, 16, .inl (fun _ => 0))), (q_7, .inl (cJ, 16, .inr (.inl (fun _ => 0)))), (q_9, .inl (cI, 16, .inl (fun _ => 0)))] := hD
  refine W.widen (k := 5) (n := 72) (by first | exact Nat.le_refl _ | omega) (by first | exact Nat.le_refl _ | omega) ?_
  refine va_putF (D := (dC, dI)) (ci := 3) (v := .ref q_9) (ty := .array .int) (C := RR_C) (T := TT_C) (N := 10) hx hb hw hh_C ty_C ty_C_ok nm_C hown hK hP hD hS 0 rfl rfl 8 (by decide) (hw _ qq_95) (fun _ h9 => h9) rfl hin rfl (by decide +kernel) rfl rfl (Nat.le_of_ble_eq_true rfl) dd_C_init_41 (fun H locs hP hD hS => ?_)
  have hP : va_P (dC, dI) vcl [(h0, .inr (3, [.int 0, .int 0, .int 0, .int 0, .ref q_1, .ref q_3, .ref q_5, .ref q_7, .ref q_9, .null])), (q_1, .inl (cI, 8, .inl (fun _ => 0))), (q_3, .inl (cI, 16, .inl (fun _ => 0))), (q_5, .inl (cI, 16, .inl (fun _ => 0))), (q_7, .inl (cJ, 16, .inr (.inl (fun _ => 0)))), (q_9, .inl (cI, 16, .inl (fun _ => 0)))] H := hP
  have hD : va_D A [(h0, .inr (3, [.int 0, .int 0, .int 0, .int 0, .ref q_1, .ref q_3, .ref q_5, .ref q_7, .ref q_9, .null])), (q_1, .inl (cI, 8, .inl (fun _ => 0))), (q_3, .inl (cI, 16, .inl (fun _ => 0))), (q_5, .inl (cI, 16, .inl (fun _ => 0))), (q_7, .inl (cJ, 16, .inr (.inl (fun _ => 0)))), (q_9, .inl (cI, 16, .inl (fun _ => 0)))] := hD
  refine lv_aload_n hx hb dd_C_init_44 rfl (lv_at hl 0 rfl) ?_
  refine lv_bipush (v := 16) hx hb dd_C_init_45 (by decide) ?_
  refine va_newa (atype := .int) (ty := .int) (N' := 16) (a0 := (16, .inl (fun _ => 0))) hx hb (hw _ qq_120) rfl hK hP hD hS hA (fun _ => rfl) (by decide) (by decide) (by first | decide | (simp only [componentBytes]; omega)) (by first | exact Nat.le_of_ble_eq_true rfl | (simp only [headSpec]; omega)) (by first | exact Nat.le_of_ble_eq_true rfl | (simp only [headSpec]; omega)) dd_C_init_47 (fun q_11 cA_12 H hK hP hD hS => ?_)
  obtain rfl : cI = cA_12 := ks_eqI hK 1 3 rfl rfl
  have hK : va_K (dC, dI) vcl [(cB, .byte), (cI, .int), (cJ, .long)] s := hK.sub [0, 1, 2] rfl
  have hP : va_P (dC, dI) vcl [(h0, .inr (3, [.int 0, .int 0, .int 0, .int 0, .ref q_1, .ref q_3, .ref q_5, .ref q_7, .ref q_9, .null])), (q_1, .inl (cI, 8, .inl (fun _ => 0))), (q_3, .inl (cI, 16, .inl (fun _ => 0))), (q_5, .inl (cI, 16, .inl (fun _ => 0))), (q_7, .inl (cJ, 16, .inr (.inl (fun _ => 0)))), (q_9, .inl (cI, 16, .inl (fun _ => 0))), (q_11, .inl (cI, 16, .inl (fun _ => 0)))] H := hP
  have hD : va_D A [(h0, .inr (3, [.int 0, .int 0, .int 0, .int 0, .ref q_1, .ref q_3, .ref q_5, .ref q_7, .ref q_9, .null])), (q_1, .inl (cI, 8, .inl (fun _ => 0))), (q_3, .inl (cI, 16, .inl (fun _ => 0))), (q_5, .inl (cI, 16, .inl (fun _ => 0))), (q_7, .inl (cJ, 16, .inr (.inl (fun _ => 0)))), (q_9, .inl (cI, 16, .inl (fun _ => 0))), (q_11, .inl (cI, 16, .inl (fun _ => 0)))] := hD
  refine W.widen (k := 6) (n := 88) (by first | exact Nat.le_refl _ | omega) (by first | exact Nat.le_refl _ | omega) ?_
  refine va_putF (D := (dC, dI)) (ci := 3) (v := .ref q_11) (ty := .array .int) (C := RR_C) (T := TT_C) (N := 10) hx hb hw hh_C ty_C ty_C_ok nm_C hown hK hP hD hS 0 rfl rfl 9 (by decide) (hw _ qq_97) (fun _ h9 => h9) rfl hin rfl (by decide +kernel) rfl rfl (Nat.le_of_ble_eq_true rfl) dd_C_init_49 (fun H locs hP hD hS => ?_)
  have hP : va_P (dC, dI) vcl [(h0, .inr (3, [.int 0, .int 0, .int 0, .int 0, .ref q_1, .ref q_3, .ref q_5, .ref q_7, .ref q_9, .ref q_11])), (q_1, .inl (cI, 8, .inl (fun _ => 0))), (q_3, .inl (cI, 16, .inl (fun _ => 0))), (q_5, .inl (cI, 16, .inl (fun _ => 0))), (q_7, .inl (cJ, 16, .inr (.inl (fun _ => 0)))), (q_9, .inl (cI, 16, .inl (fun _ => 0))), (q_11, .inl (cI, 16, .inl (fun _ => 0)))] H := hP
  have hD : va_D A [(h0, .inr (3, [.int 0, .int 0, .int 0, .int 0, .ref q_1, .ref q_3, .ref q_5, .ref q_7, .ref q_9, .ref q_11])), (q_1, .inl (cI, 8, .inl (fun _ => 0))), (q_3, .inl (cI, 16, .inl (fun _ => 0))), (q_5, .inl (cI, 16, .inl (fun _ => 0))), (q_7, .inl (cJ, 16, .inr (.inl (fun _ => 0)))), (q_9, .inl (cI, 16, .inl (fun _ => 0))), (q_11, .inl (cI, 16, .inl (fun _ => 0)))] := hD
  have hP9 := hP.sub (ws' := [(h0, .inr (3, [.int 0, .int 0, .int 0, .int 0, .ref q_1, .ref q_3, .ref q_5, .ref q_7, .ref q_9, .ref q_11])), (q_1, .inl (cI, 8, .inl (fun _ => 0))), (q_3, .inl (cI, 16, .inl (fun _ => 0))), (q_5, .inl (cI, 16, .inl (fun _ => 0))), (q_7, .inl (cJ, 16, .inr (.inl (fun _ => 0)))), (q_9, .inl (cI, 16, .inl (fun _ => 0))), (q_11, .inl (cI, 16, .inl (fun _ => 0)))]) [0, 1, 2, 3, 4, 5, 6] rfl
  have hD9 := hD.sub (ws' := [(h0, .inr (3, [.int 0, .int 0, .int 0, .int 0, .ref q_1, .ref q_3, .ref q_5, .ref q_7, .ref q_9, .ref q_11])), (q_1, .inl (cI, 8, .inl (fun _ => 0))), (q_3, .inl (cI, 16, .inl (fun _ => 0))), (q_5, .inl (cI, 16, .inl (fun _ => 0))), (q_7, .inl (cJ, 16, .inr (.inl (fun _ => 0)))), (q_9, .inl (cI, 16, .inl (fun _ => 0))), (q_11, .inl (cI, 16, .inl (fun _ => 0)))]) [0, 1, 2, 3, 4, 5, 6] (by decide) rfl
  refine W.widen (k := 6) (n := 88) (by first | exact Nat.le_refl _ | omega) (by first | exact Nat.le_refl _ | omega) ?_
  exact W.vret hx hb hr (fun t ht hW => ⟨⟨(fun j => match j with | 0 => q_1 | 1 => q_3 | 2 => q_5 | 3 => q_7 | 4 => q_9 | _ => q_11), rfl, trivial, by rw [ht]; exact hP9, va_K.moved hW.alike hK, hD9⟩, hS.F ht⟩) hS.2.2 dd_C_init_52

set_option maxHeartbeats 4000000 in
set_option maxRecDepth 100000 in
/-- Reader(): a row of 4096 bytes, nothing read -/
theorem cb_D_init (l : Launch) (dC : Nat → ClassId) (dI : Nat → Nat → Nat) (cB cI cJ : ClassId) (sz : Nat) (h0 : Nat) : Met l yy_D_init (Cond.code yy_D_init cc_D_init 1 none :: gw) { frames := 2, cells := 2, slots := 4098, locals := 33 } (va_Pc [.ref h0] (ks_pre dC dI [(cB, .byte), (cI, .int), (cJ, .long)] [(h0, .inr (4, [.null, .int 0, .int 0, .int 0, .int 0]))] sz)) (va_Qv (fun (u : Nat → Nat) => True) (fun (u : Nat → Nat) => ks_post dC dI [(cB, .byte), (cI, .int), (cJ, .long)] (va_A [(h0, .inr (4, [.null, .int 0, .int 0, .int 0, .int 0]))] sz) [(h0, .inr (4, [.ref (u 0), .int 0, .int (-1), .int 0, .int (-1)])), ((u 0), .inr (2, [.ref (u 1), .int 0])), ((u 1), .inl (cB, 4096, .inl (fun _ => 0)))]) (va_A [(h0, .inr (4, [.null, .int 0, .int 0, .int 0, .int 0]))] sz)) 2 4098 (va_A [(h0, .inr (4, [.null, .int 0, .int 0, .int 0, .int 0]))] sz) := by
  refine Met.ofW (cc := cc_D_init) (maxL := 1) (ret := none) (by decide) rfl ?_
  intro p e s m args below meth c s₁ B hml hv
  obtain ⟨rfl, hsz, hP, hK, hD0⟩ := hv
  have hx := B.exec
  have hb := B.bytes
  have hr := B.returns
  have hw : ∀ w ∈ gw, w.before _ s = true := fun w h => atoms_spec (ws := (Cond.code yy_D_init cc_D_init 1 none :: gw)) B.pre w (List.mem_cons_of_mem _ h)
  have hown : s.vm.findClass RR_D = some m.cls := findClass_of_methodNamed B.named
  have hlocks := B.notSynchronized
  have hin : meth.name = "<init>" := (name_of_methodNamed B.named B.method).1
  subst hsz
  have hD := hD0.self (sz := s.heap.size)
  generalize hAe : va_A [(h0, .inr (4, [.null, .int 0, .int 0, .int 0, .int 0]))] s.heap.size = A at hD ⊢
  have hA : ∀ q : Nat, s.heap.size ≤ q → A q := fun q h => by rw [← hAe]; exact Or.inr h
  have hS : va_S A s.heap s.heap [] := va_S.rf
  have hP : va_P (dC, dI) vcl [(h0, .inr (4, [.null, .int 0, .int 0, .int 0, .int 0]))] s.heap := hP
  have hl := lv_entry ([.ref h0]) (n := 1) (Nat.le_of_ble_eq_true rfl)
  rw [lg_entry_eq]
  generalize (lg_sl ([.ref h0]) ++ List.replicate (1 - (lg_sl ([.ref h0])).length) Slot.unset).toArray = ls at hl ⊢
  have hl : lv_has ls 1 [(0, .ref h0)] := hl
  refine lv_aload_n hx hb dd_D_init_0 rfl (lv_at hl 0 rfl) ?_
  refine W.objInit hx hb hown (hw _ qq_47) (hw _ qq_23) (hw _ qq_24) rfl (by rw [hml]; exact hl.1) rfl dd_D_init_1 (Nat.le_of_ble_eq_true rfl) (Nat.le_of_ble_eq_true rfl) ?_
  refine W.eq (g2 := F0 m 4 ls []) rfl ?_
  refine lv_aload_n hx hb dd_D_init_4 rfl (lv_at hl 0 rfl) ?_
  refine va_new (ci := 2) (fs := [.null, .int 0]) (C := RR_B) (T := TT_B) (N := 2) hx hb hw hh_B ty_B ty_B_ok hown (hw _ qq_48) (hw _ qq_26) (hw _ qq_2) hK hP hD hS hA rfl (by decide +kernel) (by first | exact Nat.le_of_ble_eq_true rfl | (simp only [headSpec]; omega)) (by first | exact Nat.le_of_ble_eq_true rfl | (simp only [headSpec]; omega)) dd_D_init_5 (fun q_1 H hP hD hS => ?_)
  have hP : va_P (dC, dI) vcl [(h0, .inr (4, [.null, .int 0, .int 0, .int 0, .int 0])), (q_1, .inr (2, [.null, .int 0]))] H := hP
  have hD : va_D A [(h0, .inr (4, [.null, .int 0, .int 0, .int 0, .int 0])), (q_1, .inr (2, [.null, .int 0]))] := hD
  refine W.widen (k := 1) (n := 2) (by first | exact Nat.le_refl _ | omega) (by first | exact Nat.le_refl _ | omega) ?_
  refine lv_dup hx hb dd_D_init_8 rfl ?_
  refine lv_sipush (v := 4096) hx hb dd_D_init_9 (by decide) ?_
  have hPc := hP.sub (ws' := [(q_1, .inr (2, [.null, .int 0]))]) [1] rfl
  have hDc := hD.sub (ws' := [(q_1, .inr (2, [.null, .int 0]))]) [1] (by decide) rfl
  have hFc := va_free (wc := [(q_1, .inr (2, [.null, .int 0]))]) hD hS hA [1] rfl
  refine va_callv (va_runI (As := [.int 4096]) (rest := [.ref q_1, .ref h0]) ⟨hx, hb, hml, hown, hw⟩ (cb_B_init l dC dI cB cI cJ H.size q_1 4096 (by decide)) (kw_I 1 hw qq_49 qq_2 qq_29 qq_28 rfl rfl rfl (by decide +kernel) ⟨Nat.le_of_ble_eq_true rfl, Nat.le_of_ble_eq_true rfl⟩) ⟨fun a U g mk q => by obtain ⟨q0, q1, qP, qK, qD⟩ := q; exact ⟨q0, q1, qP, va_K.moved (u := U) (U := U.calling g mk a) (Vm.Alike.refl U.vm) qK, qD⟩, fun U hU hW => ⟨rfl, by rw [hU], by rw [hU]; exact hPc, va_K.moved hW.alike hK, hDc.weaken (fun _ _ _ _ => trivial)⟩⟩ rfl rfl hl.1 rfl (lv_room (Nat.le_of_ble_eq_true rfl)) dd_D_init_12 ⟨by first | exact Nat.le_of_ble_eq_true rfl | (simp only [headSpec]; omega), by first | exact Nat.le_of_ble_eq_true rfl | (simp only [headSpec]; omega)⟩) hS (fun q _ h => hFc q h) hFc (fun u_2 t H1 locs ht hvm hq_3 hB hz1 hk1 hS => ?_)
  obtain ⟨hP1, hK1, hD1⟩ := hB
  rw [ht] at hP1
  obtain ⟨hP, hD⟩ := va_join (wr := [(h0, .inr (4, [.null, .int 0, .int 0, .int 0, .int 0]))]) (w1 := [(q_1, .inr (2, [.ref u_2, .int 0])), (u_2, .inl (cB, 4096, .inl (fun _ => 0)))]) hP hD [1] [0] rfl rfl (by decide) (by decide) hk1 hFc hP1 hD1
  clear hP1 hK1 hD1 ht hvm hz1 hk1 hPc hDc hFc
  generalize H1 = H at hP hS ⊢
  have hP : va_P (dC, dI) vcl [(h0, .inr (4, [.null, .int 0, .int 0, .int 0, .int 0])), (q_1, .inr (2, [.ref u_2, .int 0])), (u_2, .inl (cB, 4096, .inl (fun _ => 0)))] H := hP
  have hD : va_D A [(h0, .inr (4, [.null, .int 0, .int 0, .int 0, .int 0])), (q_1, .inr (2, [.ref u_2, .int 0])), (u_2, .inl (cB, 4096, .inl (fun _ => 0)))] := hD
  refine W.widen (k := 2) (n := 4098) (by first | exact Nat.le_refl _ | omega) (by first | exact Nat.le_refl _ | omega) ?_
  refine va_putF (D := (dC, dI)) (ci := 4) (v := .ref q_1) (ty := .object "ChangeCodec$Bytes") (C := RR_D) (T := TT_D) (N := 5) hx hb hw hh_D ty_D ty_D_ok nm_D hown hK hP hD hS 0 rfl rfl 0 (by decide) (hw _ qq_50) (fun _ h9 => h9) rfl hin rfl (by decide +kernel) rfl rfl (Nat.le_of_ble_eq_true rfl) dd_D_init_15 (fun H locs hP hD hS => ?_)
  have hP : va_P (dC, dI) vcl [(h0, .inr (4, [.ref q_1, .int 0, .int 0, .int 0, .int 0])), (q_1, .inr (2, [.ref u_2, .int 0])), (u_2, .inl (cB, 4096, .inl (fun _ => 0)))] H := hP
  have hD : va_D A [(h0, .inr (4, [.ref q_1, .int 0, .int 0, .int 0, .int 0])), (q_1, .inr (2, [.ref u_2, .int 0])), (u_2, .inl (cB, 4096, .inl (fun _ => 0)))] := hD
  refine lv_aload_n hx hb dd_D_init_18 rfl (lv_at hl 0 rfl) ?_
  refine lv_iconst (v := 0) hx hb dd_D_init_19 (by decide) ?_
  refine va_put (D := (dC, dI)) (ci := 4) (v := .int 0) (ty := .int) (C := RR_D) (T := TT_D) (N := 5) hx hb hw hh_D ty_D ty_D_ok nm_D hown hK hP hD hS 0 rfl rfl 1 (by decide) (hw _ qq_52) (fun _ h9 => h9) rfl (by decide +kernel) rfl rfl (Nat.le_of_ble_eq_true rfl) dd_D_init_20 (fun H locs hP hD hS => ?_)
  have hP : va_P (dC, dI) vcl [(h0, .inr (4, [.ref q_1, .int 0, .int 0, .int 0, .int 0])), (q_1, .inr (2, [.ref u_2, .int 0])), (u_2, .inl (cB, 4096, .inl (fun _ => 0)))] H := hP
  have hD : va_D A [(h0, .inr (4, [.ref q_1, .int 0, .int 0, .int 0, .int 0])), (q_1, .inr (2, [.ref u_2, .int 0])), (u_2, .inl (cB, 4096, .inl (fun _ => 0)))] := hD
  refine lv_aload_n hx hb dd_D_init_23 rfl (lv_at hl 0 rfl) ?_
  refine lv_iconst (v := -1) hx hb dd_D_init_24 (by decide) ?_
  refine va_put (D := (dC, dI)) (ci := 4) (v := .int (-1)) (ty := .int) (C := RR_D) (T := TT_D) (N := 5) hx hb hw hh_D ty_D ty_D_ok nm_D hown hK hP hD hS 0 rfl rfl 2 (by decide) (hw _ qq_54) (fun _ h9 => h9) rfl (by decide +kernel) rfl rfl (Nat.le_of_ble_eq_true rfl) dd_D_init_25 (fun H locs hP hD hS => ?_)
  have hP : va_P (dC, dI) vcl [(h0, .inr (4, [.ref q_1, .int 0, .int (-1), .int 0, .int 0])), (q_1, .inr (2, [.ref u_2, .int 0])), (u_2, .inl (cB, 4096, .inl (fun _ => 0)))] H := hP
  have hD : va_D A [(h0, .inr (4, [.ref q_1, .int 0, .int (-1), .int 0, .int 0])), (q_1, .inr (2, [.ref u_2, .int 0])), (u_2, .inl (cB, 4096, .inl (fun _ => 0)))] := hD
  refine lv_aload_n hx hb dd_D_init_28 rfl (lv_at hl 0 rfl) ?_
  refine lv_iconst (v := 0) hx hb dd_D_init_29 (by decide) ?_
  refine va_put (D := (dC, dI)) (ci := 4) (v := .int 0) (ty := .int) (C := RR_D) (T := TT_D) (N := 5) hx hb hw hh_D ty_D ty_D_ok nm_D hown hK hP hD hS 0 rfl rfl 3 (by decide) (hw _ qq_55) (fun _ h9 => h9) rfl (by decide +kernel) rfl rfl (Nat.le_of_ble_eq_true rfl) dd_D_init_30 (fun H locs hP hD hS => ?_)
  have hP : va_P (dC, dI) vcl [(h0, .inr (4, [.ref q_1, .int 0, .int (-1), .int 0, .int 0])), (q_1, .inr (2, [.ref u_2, .int 0])), (u_2, .inl (cB, 4096, .inl (fun _ => 0)))] H := hP
  have hD : va_D A [(h0, .inr (4, [.ref q_1, .int 0, .int (-1), .int 0, .int 0])), (q_1, .inr (2, [.ref u_2, .int 0])), (u_2, .inl (cB, 4096, .inl (fun _ => 0)))] := hD
  refine lv_aload_n hx hb dd_D_init_33 rfl (lv_at hl 0 rfl) ?_
  refine lv_iconst (v := -1) hx hb dd_D_init_34 (by decide) ?_
  refine va_put (D := (dC, dI)) (ci := 4) (v := .int (-1)) (ty := .int) (C := RR_D) (T := TT_D) (N := 5) hx hb hw hh_D ty_D ty_D_ok nm_D hown hK hP hD hS 0 rfl rfl 4 (by decide) (hw _ qq_57) (fun _ h9 => h9) rfl (by decide +kernel) rfl rfl (Nat.le_of_ble_eq_true rfl) dd_D_init_35 (fun H locs hP hD hS => ?_)
  have hP : va_P (dC, dI) vcl [(h0, .inr (4, [.ref q_1, .int 0, .int (-1), .int 0, .int (-1)])), (q_1, .inr (2, [.ref u_2, .int 0])), (u_2, .inl (cB, 4096, .inl (fun _ => 0)))] H := hP
  have hD : va_D A [(h0, .inr (4, [.ref q_1, .int 0, .int (-1), .int 0, .int (-1)])), (q_1, .inr (2, [.ref u_2, .int 0])), (u_2, .inl (cB, 4096, .inl (fun _ => 0)))] := hD
  have hP9 := hP.sub (ws' := [(h0, .inr (4, [.ref q_1, .int 0, .int (-1), .int 0, .int (-1)])), (q_1, .inr (2, [.ref u_2, .int 0])), (u_2, .inl (cB, 4096, .inl (fun _ => 0)))]) [0, 1, 2] rfl
  have hD9 := hD.sub (ws' := [(h0, .inr (4, [.ref q_1, .int 0, .int (-1), .int 0, .int (-1)])), (q_1, .inr (2, [.ref u_2, .int 0])), (u_2, .inl (cB, 4096, .inl (fun _ => 0)))]) [0, 1, 2] (by decide) rfl
  refine W.widen (k := 2) (n := 4098) (by first | exact Nat.le_refl _ | omega) (by first | exact Nat.le_refl _ | omega) ?_
  exact W.vret hx hb hr (fun t ht hW => ⟨⟨(fun j => match j with | 0 => q_1 | _ => u_2), rfl, trivial, by rw [ht]; exact hP9, va_K.moved hW.alike hK, hD9⟩, hS.F ht⟩) hS.2.2 dd_D_init_38

set_option maxHeartbeats 4000000 in
set_option maxRecDepth 100000 in
/-- ChangeCodec(): nothing written, nothing given, no change -/
theorem cb_X_init (l : Launch) (dC : Nat → ClassId) (dI : Nat → Nat → Nat) (cB cI cJ : ClassId) (sz : Nat) (h0 : Nat) : Met l yy_X_init (Cond.code yy_X_init cc_X_init 1 none :: gw) { frames := 3, cells := 21, slots := 8719, locals := 53 } (va_Pc [.ref h0] (ks_pre dC dI [(cB, .byte), (cI, .int), (cJ, .long)] [(h0, .inr (0, [.null, .null, .null, .null, .null, .null, .int 0, .int 0]))] sz)) (va_Qv (fun (u : Nat → Nat) => True) (fun (u : Nat → Nat) => ks_post dC dI [(cB, .byte), (cI, .int), (cJ, .long)] (va_A [(h0, .inr (0, [.null, .null, .null, .null, .null, .null, .int 0, .int 0]))] sz) [(h0, .inr (0, [.ref (u 0), .ref (u 2), .ref (u 4), .ref (u 6), .ref (u 7), .ref (u 14), .int 0, .int 0])), ((u 0), .inr (2, [.ref (u 1), .int 0])), ((u 1), .inl (cB, 4096, .inl (fun _ => 0))), ((u 2), .inr (2, [.ref (u 3), .int 0])), ((u 3), .inl (cB, 4096, .inl (fun _ => 0))), ((u 4), .inr (2, [.ref (u 5), .int 0])), ((u 5), .inl (cB, 320, .inl (fun _ => 0))), ((u 6), .inr (4, [.ref (u 2), .int 0, .int (-1), .int 0, .int (-1)])), ((u 7), .inr (3, [.int 0, .int 0, .int 0, .int 0, .ref (u 8), .ref (u 9), .ref (u 10), .ref (u 11), .ref (u 12), .ref (u 13)])), ((u 8), .inl (cI, 8, .inl (fun _ => 0))), ((u 9), .inl (cI, 16, .inl (fun _ => 0))), ((u 10), .inl (cI, 16, .inl (fun _ => 0))), ((u 11), .inl (cJ, 16, .inr (.inl (fun _ => 0)))), ((u 12), .inl (cI, 16, .inl (fun _ => 0))), ((u 13), .inl (cI, 16, .inl (fun _ => 0))), ((u 14), .inr (3, [.int 0, .int 0, .int 0, .int 0, .ref (u 15), .ref (u 16), .ref (u 17), .ref (u 18), .ref (u 19), .ref (u 20)])), ((u 15), .inl (cI, 8, .inl (fun _ => 0))), ((u 16), .inl (cI, 16, .inl (fun _ => 0))), ((u 17), .inl (cI, 16, .inl (fun _ => 0))), ((u 18), .inl (cJ, 16, .inr (.inl (fun _ => 0)))), ((u 19), .inl (cI, 16, .inl (fun _ => 0))), ((u 20), .inl (cI, 16, .inl (fun _ => 0)))]) (va_A [(h0, .inr (0, [.null, .null, .null, .null, .null, .null, .int 0, .int 0]))] sz)) 21 8719 (va_A [(h0, .inr (0, [.null, .null, .null, .null, .null, .null, .int 0, .int 0]))] sz) := by
  refine Met.ofW (cc := cc_X_init) (maxL := 1) (ret := none) (by decide) rfl ?_
  intro p e s m args below meth c s₁ B hml hv
  obtain ⟨rfl, hsz, hP, hK, hD0⟩ := hv
  have hx := B.exec
  have hb := B.bytes
  have hr := B.returns
  have hw : ∀ w ∈ gw, w.before _ s = true := fun w h => atoms_spec (ws := (Cond.code yy_X_init cc_X_init 1 none :: gw)) B.pre w (List.mem_cons_of_mem _ h)
  have hown : s.vm.findClass RR_X = some m.cls := findClass_of_methodNamed B.named
  have hlocks := B.notSynchronized
  have hin : meth.name = "<init>" := (name_of_methodNamed B.named B.method).1
  subst hsz
  have hD := hD0.self (sz := s.heap.size)
  generalize hAe : va_A [(h0, .inr (0, [.null, .null, .null, .null, .null, .null, .int 0, .int 0]))] s.heap.size = A at hD ⊢
  have hA : ∀ q : Nat, s.heap.size ≤ q → A q := fun q h => by rw [← hAe]; exact Or.inr h
  have hS : va_S A s.heap s.heap [] := va_S.rf
  have hP : va_P (dC, dI) vcl [(h0, .inr (0, [.null, .null, .null, .null, .null, .null, .int 0, .int 0]))] s.heap := hP
  have hl := lv_entry ([.ref h0]) (n := 1) (Nat.le_of_ble_eq_true rfl)
  rw [lg_entry_eq]
  generalize (lg_sl ([.ref h0]) ++ List.replicate (1 - (lg_sl ([.ref h0])).length) Slot.unset).toArray = ls at hl ⊢
  have hl : lv_has ls 1 [(0, .ref h0)] := hl
  refine lv_aload_n hx hb dd_X_init_0 rfl (lv_at hl 0 rfl) ?_
  refine W.objInit hx hb hown (hw _ qq_22) (hw _ qq_23) (hw _ qq_24) rfl (by rw [hml]; exact hl.1) rfl dd_X_init_1 (Nat.le_of_ble_eq_true rfl) (Nat.le_of_ble_eq_true rfl) ?_
  refine W.eq (g2 := F0 m 4 ls []) rfl ?_
  refine lv_aload_n hx hb dd_X_init_4 rfl (lv_at hl 0 rfl) ?_
  refine va_new (ci := 2) (fs := [.null, .int 0]) (C := RR_B) (T := TT_B) (N := 2) hx hb hw hh_B ty_B ty_B_ok hown (hw _ qq_25) (hw _ qq_26) (hw _ qq_2) hK hP hD hS hA rfl (by decide +kernel) (by first | exact Nat.le_of_ble_eq_true rfl | (simp only [headSpec]; omega)) (by first | exact Nat.le_of_ble_eq_true rfl | (simp only [headSpec]; omega)) dd_X_init_5 (fun q_1 H hP hD hS => ?_)
  have hP : va_P (dC, dI) vcl [(h0, .inr (0, [.null, .null, .null, .null, .null, .null, .int 0, .int 0])), (q_1, .inr (2, [.null, .int 0]))] H := hP
  have hD : va_D A [(h0, .inr (0, [.null, .null, .null, .null, .null, .null, .int 0, .int 0])), (q_1, .inr (2, [.null, .int 0]))] := hD
  refine W.widen (k := 1) (n := 2) (by first | exact Nat.le_refl _ | omega) (by first | exact Nat.le_refl _ | omega) ?_
  refine lv_dup hx hb dd_X_init_8 rfl ?_
  refine lv_sipush (v := 4096) hx hb dd_X_init_9 (by decide) ?_
  have hPc := hP.sub (ws' := [(q_1, .inr (2, [.null, .int 0]))]) [1] rfl
  have hDc := hD.sub (ws' := [(q_1, .inr (2, [.null, .int 0]))]) [1] (by decide) rfl
  have hFc := va_free (wc := [(q_1, .inr (2, [.null, .int 0]))]) hD hS hA [1] rfl
  refine va_callv (va_runI (As := [.int 4096]) (rest := [.ref q_1, .ref h0]) ⟨hx, hb, hml, hown, hw⟩ (cb_B_init l dC dI cB cI cJ H.size q_1 4096 (by decide)) (kw_I 1 hw qq_27 qq_2 qq_29 qq_28 rfl rfl rfl (by decide +kernel) ⟨Nat.le_of_ble_eq_true rfl, Nat.le_of_ble_eq_true rfl⟩) ⟨fun a U g mk q => by obtain ⟨q0, q1, qP, qK, qD⟩ := q; exact ⟨q0, q1, qP, va_K.moved (u := U) (U := U.calling g mk a) (Vm.Alike.refl U.vm) qK, qD⟩, fun U hU hW => ⟨rfl, by rw [hU], by rw [hU]; exact hPc, va_K.moved hW.alike hK, hDc.weaken (fun _ _ _ _ => trivial)⟩⟩ rfl rfl hl.1 rfl (lv_room (Nat.le_of_ble_eq_true rfl)) dd_X_init_12 ⟨by first | exact Nat.le_of_ble_eq_true rfl | (simp only [headSpec]; omega), by first | exact Nat.le_of_ble_eq_true rfl | (simp only [headSpec]; omega)⟩) hS (fun q _ h => hFc q h) hFc (fun u_2 t H1 locs ht hvm hq_3 hB hz1 hk1 hS => ?_)
  obtain ⟨hP1, hK1, hD1⟩ := hB
  rw [ht] at hP1
  obtain ⟨hP, hD⟩ := va_join (wr := [(h0, .inr (0, [.null, .null, .null, .null, .null, .null, .int 0, .int 0]))]) (w1 := [(q_1, .inr (2, [.ref u_2, .int 0])), (u_2, .inl (cB, 4096, .inl (fun _ => 0)))]) hP hD [1] [0] rfl rfl (by decide) (by decide) hk1 hFc hP1 hD1
  clear hP1 hK1 hD1 ht hvm hz1 hk1 hPc hDc hFc
  generalize H1 = H at hP hS ⊢
  have hP : va_P (dC, dI) vcl [(h0, .inr (0, [.null, .null, .null, .null, .null, .null, .int 0, .int 0])), (q_1, .inr (2, [.ref u_2, .int 0])), (u_2, .inl (cB, 4096, .inl (fun _ => 0)))] H := hP
  have hD : va_D A [(h0, .inr (0, [.null, .null, .null, .null, .null, .null, .int 0, .int 0])), (q_1, .inr (2, [.ref u_2, .int 0])), (u_2, .inl (cB, 4096, .inl (fun _ => 0)))] := hD
  refine W.widen (k := 2) (n := 4098) (by first | exact Nat.le_refl _ | omega) (by first | exact Nat.le_refl _ | omega) ?_
  refine va_putF (D := (dC, dI)) (ci := 0) (v := .ref q_1) (ty := .object "ChangeCodec$Bytes") (C := RR_X) (T := TT_X) (N := 8) hx hb hw hh_X ty_X ty_X_ok nm_X hown hK hP hD hS 0 rfl rfl 0 (by decide) (hw _ qq_122) (fun _ h9 => h9) rfl hin rfl (by decide +kernel) rfl rfl (Nat.le_of_ble_eq_true rfl) dd_X_init_15 (fun H locs hP hD hS => ?_)
  have hP : va_P (dC, dI) vcl [(h0, .inr (0, [.ref q_1, .null, .null, .null, .null, .null, .int 0, .int 0])), (q_1, .inr (2, [.ref u_2, .int 0])), (u_2, .inl (cB, 4096, .inl (fun _ => 0)))] H := hP
  have hD : va_D A [(h0, .inr (0, [.ref q_1, .null, .null, .null, .null, .null, .int 0, .int 0])), (q_1, .inr (2, [.ref u_2, .int 0])), (u_2, .inl (cB, 4096, .inl (fun _ => 0)))] := hD
  refine lv_aload_n hx hb dd_X_init_18 rfl (lv_at hl 0 rfl) ?_
  refine va_new (ci := 4) (fs := [.null, .int 0, .int 0, .int 0, .int 0]) (C := RR_D) (T := TT_D) (N := 5) hx hb hw hh_D ty_D ty_D_ok hown (hw _ qq_42) (hw _ qq_43) (hw _ qq_3) hK hP hD hS hA rfl (by decide +kernel) (by first | exact Nat.le_of_ble_eq_true rfl | (simp only [headSpec]; omega)) (by first | exact Nat.le_of_ble_eq_true rfl | (simp only [headSpec]; omega)) dd_X_init_19 (fun q_4 H hP hD hS => ?_)
  have hP : va_P (dC, dI) vcl [(h0, .inr (0, [.ref q_1, .null, .null, .null, .null, .null, .int 0, .int 0])), (q_1, .inr (2, [.ref u_2, .int 0])), (u_2, .inl (cB, 4096, .inl (fun _ => 0))), (q_4, .inr (4, [.null, .int 0, .int 0, .int 0, .int 0]))] H := hP
  have hD : va_D A [(h0, .inr (0, [.ref q_1, .null, .null, .null, .null, .null, .int 0, .int 0])), (q_1, .inr (2, [.ref u_2, .int 0])), (u_2, .inl (cB, 4096, .inl (fun _ => 0))), (q_4, .inr (4, [.null, .int 0, .int 0, .int 0, .int 0]))] := hD
  refine W.widen (k := 3) (n := 4103) (by first | exact Nat.le_refl _ | omega) (by first | exact Nat.le_refl _ | omega) ?_
  refine lv_dup hx hb dd_X_init_22 rfl ?_
  have hPc := hP.sub (ws' := [(q_4, .inr (4, [.null, .int 0, .int 0, .int 0, .int 0]))]) [3] rfl
  have hDc := hD.sub (ws' := [(q_4, .inr (4, [.null, .int 0, .int 0, .int 0, .int 0]))]) [3] (by decide) rfl
  have hFc := va_free (wc := [(q_4, .inr (4, [.null, .int 0, .int 0, .int 0, .int 0]))]) hD hS hA [3] rfl
  refine va_callv (va_runI (As := []) (rest := [.ref q_4, .ref h0]) ⟨hx, hb, hml, hown, hw⟩ (cb_D_init l dC dI cB cI cJ H.size q_4) (kw_I 0 hw qq_44 qq_3 qq_46 qq_45 rfl rfl rfl (by decide +kernel) ⟨Nat.le_of_ble_eq_true rfl, Nat.le_of_ble_eq_true rfl⟩) ⟨fun a U g mk q => by obtain ⟨q0, q1, qP, qK, qD⟩ := q; exact ⟨q0, q1, qP, va_K.moved (u := U) (U := U.calling g mk a) (Vm.Alike.refl U.vm) qK, qD⟩, fun U hU hW => ⟨rfl, by rw [hU], by rw [hU]; exact hPc, va_K.moved hW.alike hK, hDc.weaken (fun _ _ _ _ => trivial)⟩⟩ rfl rfl hl.1 rfl (lv_room (Nat.le_of_ble_eq_true rfl)) dd_X_init_23 ⟨by first | exact Nat.le_of_ble_eq_true rfl | (simp only [headSpec]; omega), by first | exact Nat.le_of_ble_eq_true rfl | (simp only [headSpec]; omega)⟩) hS (fun q _ h => hFc q h) hFc (fun u_5 t H1 locs ht hvm hq_6 hB hz1 hk1 hS => ?_)
  obtain ⟨hP1, hK1, hD1⟩ := hB
  rw [ht] at hP1
  obtain ⟨hP, hD⟩ := va_join (wr := [(h0, .inr (0, [.ref q_1, .null, .null, .null, .null, .null, .int 0, .int 0])), (q_1, .inr (2, [.ref u_2, .int 0])), (u_2, .inl (cB, 4096, .inl (fun _ => 0)))]) (w1 := [(q_4, .inr (4, [.ref (u_5 0), .int 0, .int (-1), .int 0, .int (-1)])), ((u_5 0), .inr (2, [.ref (u_5 1), .int 0])), ((u_5 1), .inl (cB, 4096, .inl (fun _ => 0)))]) hP hD [3] [0, 1, 2] rfl rfl (by decide) (by decide) hk1 hFc hP1 hD1
  clear hP1 hK1 hD1 ht hvm hz1 hk1 hPc hDc hFc
  generalize H1 = H at hP hS ⊢
  have hP : va_P (dC, dI) vcl [(h0, .inr (0, [.ref q_1, .null, .null, .null, .null, .null, .int 0, .int 0])), (q_1, .inr (2, [.ref u_2, .int 0])), (u_2, .inl (cB, 4096, .inl (fun _ => 0))), (q_4, .inr (4, [.ref (u_5 0), .int 0, .int (-1), .int 0, .int (-1)])), ((u_5 0), .inr (2, [.ref (u_5 1), .int 0])), ((u_5 1), .inl (cB, 4096, .inl (fun _ => 0)))] H := hP
  have hD : va_D A [(h0, .inr (0, [.ref q_1, .null, .null, .null, .null, .null, .int 0, .int 0])), (q_1, .inr (2, [.ref u_2, .int 0])), (u_2, .inl (cB, 4096, .inl (fun _ => 0))), (q_4, .inr (4, [.ref (u_5 0), .int 0, .int (-1), .int 0, .int (-1)])), ((u_5 0), .inr (2, [.ref (u_5 1), .int 0])), ((u_5 1), .inl (cB, 4096, .inl (fun _ => 0)))] := hD
  refine W.widen (k := 5) (n := 8201) (by first | exact Nat.le_refl _ | omega) (by first | exact Nat.le_refl _ | omega) ?_
  refine va_putF (D := (dC, dI)) (ci := 0) (v := .ref q_4) (ty := .object "ChangeCodec$Reader") (C := RR_X) (T := TT_X) (N := 8) hx hb hw hh_X ty_X ty_X_ok nm_X hown hK hP hD hS 0 rfl rfl 3 (by decide) (hw _ qq_125) (fun _ h9 => h9) rfl hin rfl (by decide +kernel) rfl rfl (Nat.le_of_ble_eq_true rfl) dd_X_init_26 (fun H locs hP hD hS => ?_)
  have hP : va_P (dC, dI) vcl [(h0, .inr (0, [.ref q_1, .null, .null, .ref q_4, .null, .null, .int 0, .int 0])), (q_1, .inr (2, [.ref u_2, .int 0])), (u_2, .inl (cB, 4096, .inl (fun _ => 0))), (q_4, .inr (4, [.ref (u_5 0), .int 0, .int (-1), .int 0, .int (-1)])), ((u_5 0), .inr (2, [.ref (u_5 1), .int 0])), ((u_5 1), .inl (cB, 4096, .inl (fun _ => 0)))] H := hP
  have hD : va_D A [(h0, .inr (0, [.ref q_1, .null, .null, .ref q_4, .null, .null, .int 0, .int 0])), (q_1, .inr (2, [.ref u_2, .int 0])), (u_2, .inl (cB, 4096, .inl (fun _ => 0))), (q_4, .inr (4, [.ref (u_5 0), .int 0, .int (-1), .int 0, .int (-1)])), ((u_5 0), .inr (2, [.ref (u_5 1), .int 0])), ((u_5 1), .inl (cB, 4096, .inl (fun _ => 0)))] := hD
  refine lv_aload_n hx hb dd_X_init_29 rfl (lv_at hl 0 rfl) ?_
  refine lv_aload_n hx hb dd_X_init_30 rfl (lv_at hl 0 rfl) ?_
  refine va_get (D := (dC, dI)) (ci := 0) (v := .ref q_4) (C := RR_X) (T := TT_X) (N := 8) hx hb hw hh_X hown hK hP 0 rfl rfl 3 (by decide) (hw _ qq_125) (fun _ h9 => h9) rfl dd_X_init_31 ?_
  refine va_get (D := (dC, dI)) (ci := 4) (v := .ref (u_5 0)) (C := RR_D) (T := TT_D) (N := 5) hx hb hw hh_D hown hK hP 3 rfl rfl 0 (by decide) (hw _ qq_51) (fun _ h9 => h9) rfl dd_X_init_34 ?_
  refine va_putF (D := (dC, dI)) (ci := 0) (v := .ref (u_5 0)) (ty := .object "ChangeCodec$Bytes") (C := RR_X) (T := TT_X) (N := 8) hx hb hw hh_X ty_X ty_X_ok nm_X hown hK hP hD hS 0 rfl rfl 1 (by decide) (hw _ qq_123) (fun _ h9 => h9) rfl hin rfl (by decide +kernel) rfl rfl (Nat.le_of_ble_eq_true rfl) dd_X_init_37 (fun H locs hP hD hS => ?_)
  have hP : va_P (dC, dI) vcl [(h0, .inr (0, [.ref q_1, .ref (u_5 0), .null, .ref q_4, .null, .null, .int 0, .int 0])), (q_1, .inr (2, [.ref u_2, .int 0])), (u_2, .inl (cB, 4096, .inl (fun _ => 0))), (q_4, .inr (4, [.ref (u_5 0), .int 0, .int (-1), .int 0, .int (-1)])), ((u_5 0), .inr (2, [.ref (u_5 1), .int 0])), ((u_5 1), .inl (cB, 4096, .inl (fun _ => 0)))] H := hP
  have hD : va_D A [(h0, .inr (0, [.ref q_1, .ref (u_5 0), .null, .ref q_4, .null, .null, .int 0, .int 0])), (q_1, .inr (2, [.ref u_2, .int 0])), (u_2, .inl (cB, 4096, .inl (fun _ => 0))), (q_4, .inr (4, [.ref (u_5 0), .int 0, .int (-1), .int 0, .int (-1)])), ((u_5 0), .inr (2, [.ref (u_5 1), .int 0])), ((u_5 1), .inl (cB, 4096, .inl (fun _ => 0)))] := hD
  refine lv_aload_n hx hb dd_X_init_40 rfl (lv_at hl 0 rfl) ?_
  refine va_new (ci := 2) (fs := [.null, .int 0]) (C := RR_B) (T := TT_B) (N := 2) hx hb hw hh_B ty_B ty_B_ok hown (hw _ qq_25) (hw _ qq_26) (hw _ qq_2) hK hP hD hS hA rfl (by decide +kernel) (by first | exact Nat.le_of_ble_eq_true rfl | (simp only [headSpec]; omega)) (by first | exact Nat.le_of_ble_eq_true rfl | (simp only [headSpec]; omega)) dd_X_init_41 (fun q_7 H hP hD hS => ?_)
  have hP : va_P (dC, dI) vcl [(h0, .inr (0, [.ref q_1, .ref (u_5 0), .null, .ref q_4, .null, .null, .int 0, .int 0])), (q_1, .inr (2, [.ref u_2, .int 0])), (u_2, .inl (cB, 4096, .inl (fun _ => 0))), (q_4, .inr (4, [.ref (u_5 0), .int 0, .int (-1), .int 0, .int (-1)])), ((u_5 0), .inr (2, [.ref (u_5 1), .int 0])), ((u_5 1), .inl (cB, 4096, .inl (fun _ => 0))), (q_7, .inr (2, [.null, .int 0]))] H := hP
  have hD : va_D A [(h0, .inr (0, [.ref q_1, .ref (u_5 0), .null, .ref q_4, .null, .null, .int 0, .int 0])), (q_1, .inr (2, [.ref u_2, .int 0])), (u_2, .inl (cB, 4096, .inl (fun _ => 0))), (q_4, .inr (4, [.ref (u_5 0), .int 0, .int (-1), .int 0, .int (-1)])), ((u_5 0), .inr (2, [.ref (u_5 1), .int 0])), ((u_5 1), .inl (cB, 4096, .inl (fun _ => 0))), (q_7, .inr (2, [.null, .int 0]))] := hD
  refine W.widen (k := 6) (n := 8203) (by first | exact Nat.le_refl _ | omega) (by first | exact Nat.le_refl _ | omega) ?_
  refine lv_dup hx hb dd_X_init_44 rfl ?_
  refine lv_sipush (v := 320) hx hb dd_X_init_45 (by decide) ?_
  have hPc := hP.sub (ws' := [(q_7, .inr (2, [.null, .int 0]))]) [6] rfl
  have hDc := hD.sub (ws' := [(q_7, .inr (2, [.null, .int 0]))]) [6] (by decide) rfl
  have hFc := va_free (wc := [(q_7, .inr (2, [.null, .int 0]))]) hD hS hA [6] rfl
  refine va_callv (va_runI (As := [.int 320]) (rest := [.ref q_7, .ref h0]) ⟨hx, hb, hml, hown, hw⟩ (cb_B_init l dC dI cB cI cJ H.size q_7 320 (by decide)) (kw_I 1 hw qq_27 qq_2 qq_29 qq_28 rfl rfl rfl (by decide +kernel) ⟨Nat.le_of_ble_eq_true rfl, Nat.le_of_ble_eq_true rfl⟩) ⟨fun a U g mk q => by obtain ⟨q0, q1, qP, qK, qD⟩ := q; exact ⟨q0, q1, qP, va_K.moved (u := U) (U := U.calling g mk a) (Vm.Alike.refl U.vm) qK, qD⟩, fun U hU hW => ⟨rfl, by rw [hU], by rw [hU]; exact hPc, va_K.moved hW.alike hK, hDc.weaken (fun _ _ _ _ => trivial)⟩⟩ rfl rfl hl.1 rfl (lv_room (Nat.le_of_ble_eq_true rfl)) dd_X_init_48 ⟨by first | exact Nat.le_of_ble_eq_true rfl | (simp only [headSpec]; omega), by first | exact Nat.le_of_ble_eq_true rfl | (simp only [headSpec]; omega)⟩) hS (fun q _ h => hFc q h) hFc (fun u_8 t H1 locs ht hvm hq_9 hB hz1 hk1 hS => ?_)
  obtain ⟨hP1, hK1, hD1⟩ := hB
  rw [ht] at hP1
  obtain ⟨hP, hD⟩ := va_join (wr := [(h0, .inr (0, [.ref q_1, .ref (u_5 0), .null, .ref q_4, .null, .null, .int 0, .int 0])), (q_1, .inr (2, [.ref u_2, .int 0])), (u_2, .inl (cB, 4096, .inl (fun _ => 0))), (q_4, .inr (4, [.ref (u_5 0), .int 0, .int (-1), .int 0, .int (-1)])), ((u_5 0), .inr (2, [.ref (u_5 1), .int 0])), ((u_5 1), .inl (cB, 4096, .inl (fun _ => 0)))]) (w1 := [(q_7, .inr (2, [.ref u_8, .int 0])), (u_8, .inl (cB, 320, .inl (fun _ => 0)))]) hP hD [6] [0, 1, 2, 3, 4, 5] rfl rfl (by decide) (by decide) hk1 hFc hP1 hD1
  clear hP1 hK1 hD1 ht hvm hz1 hk1 hPc hDc hFc
  generalize H1 = H at hP hS ⊢
  have hP : va_P (dC, dI) vcl [(h0, .inr (0, [.ref q_1, .ref (u_5 0), .null, .ref q_4, .null, .null, .int 0, .int 0])), (q_1, .inr (2, [.ref u_2, .int 0])), (u_2, .inl (cB, 4096, .inl (fun _ => 0))), (q_4, .inr (4, [.ref (u_5 0), .int 0, .int (-1), .int 0, .int (-1)])), ((u_5 0), .inr (2, [.ref (u_5 1), .int 0])), ((u_5 1), .inl (cB, 4096, .inl (fun _ => 0))), (q_7, .inr (2, [.ref u_8, .int 0])), (u_8, .inl (cB, 320, .inl (fun _ => 0)))] H := hP
  have hD : va_D A [(h0, .inr (0, [.ref q_1, .ref (u_5 0), .null, .ref q_4, .null, .null, .int 0, .int 0])), (q_1, .inr (2, [.ref u_2, .int 0])), (u_2, .inl (cB, 4096, .inl (fun _ => 0))), (q_4, .inr (4, [.ref (u_5 0), .int 0, .int (-1), .int 0, .int (-1)])), ((u_5 0), .inr (2, [.ref (u_5 1), .int 0])), ((u_5 1), .inl (cB, 4096, .inl (fun _ => 0))), (q_7, .inr (2, [.ref u_8, .int 0])), (u_8, .inl (cB, 320, .inl (fun _ => 0)))] := hD
  refine W.widen (k := 7) (n := 8523) (by first | exact Nat.le_refl _ | omega) (by first | exact Nat.le_refl _ | omega) ?_
  refine va_putF (D := (dC, dI)) (ci := 0) (v := .ref q_7) (ty := .object "ChangeCodec$Bytes") (C := RR_X) (T := TT_X) (N := 8) hx hb hw hh_X ty_X ty_X_ok nm_X hown hK hP hD hS 0 rfl rfl 2 (by decide) (hw _ qq_124) (fun _ h9 => h9) rfl hin rfl (by decide +kernel) rfl rfl (Nat.le_of_ble_eq_true rfl) dd_X_init_51 (fun H locs hP hD hS => ?_)
  have hP : va_P (dC, dI) vcl [(h0, .inr (0, [.ref q_1, .ref (u_5 0), .ref q_7, .ref q_4, .null, .null, .int 0, .int 0])), (q_1, .inr (2, [.ref u_2, .int 0])), (u_2, .inl (cB, 4096, .inl (fun _ => 0))), (q_4, .inr (4, [.ref (u_5 0), .int 0, .int (-1), .int 0, .int (-1)])), ((u_5 0), .inr (2, [.ref (u_5 1), .int 0])), ((u_5 1), .inl (cB, 4096, .inl (fun _ => 0))), (q_7, .inr (2, [.ref u_8, .int 0])), (u_8, .inl (cB, 320, .inl (fun _ => 0)))] H := hP
  have hD : va_D A [(h0, .inr (0, [.ref q_1, .ref (u_5 0), .ref q_7, .ref q_4, .null, .null, .int 0, .int 0])), (q_1, .inr (2, [.ref u_2, .int 0])), (u_2, .inl (cB, 4096, .inl (fun _ => 0))), (q_4, .inr (4, [.ref (u_5 0), .int 0, .int (-1), .int 0, .int (-1)])), ((u_5 0), .inr (2, [.ref (u_5 1), .int 0])), ((u_5 1), .inl (cB, 4096, .inl (fun _ => 0))), (q_7, .inr (2, [.ref u_8, .int 0])), (u_8, .inl (cB, 320, .inl (fun _ => 0)))] := hD
  refine lv_aload_n hx hb dd_X_init_54 rfl (lv_at hl 0 rfl) ?_
  refine va_new (ci := 3) (fs := [.int 0, .int 0, .int 0, .int 0, .null, .null, .null, .null, .null, .null]) (C := RR_C) (T := TT_C) (N := 10) hx hb hw hh_C ty_C ty_C_ok hown (hw _ qq_70) (hw _ qq_71) (hw _ qq_4) hK hP hD hS hA rfl (by decide +kernel) (by first | exact Nat.le_of_ble_eq_true rfl | (simp only [headSpec]; omega)) (by first | exact Nat.le_of_ble_eq_true rfl | (simp only [headSpec]; omega)) dd_X_init_55 (fun q_10 H hP hD hS => ?_)
  have hP : va_P (dC, dI) vcl [(h0, .inr (0, [.ref q_1, .ref (u_5 0), .ref q_7, .ref q_4, .null, .null, .int 0, .int 0])), (q_1, .inr (2, [.ref u_2, .int 0])), (u_2, .inl (cB, 4096, .inl (fun _ => 0))), (q_4, .inr (4, [.ref (u_5 0), .int 0, .int (-1), .int 0, .int (-1)])), ((u_5 0), .inr (2, [.ref (u_5 1), .int 0])), ((u_5 1), .inl (cB, 4096, .inl (fun _ => 0))), (q_7, .inr (2, [.ref u_8, .int 0])), (u_8, .inl (cB, 320, .inl (fun _ => 0))), (q_10, .inr (3, [.int 0, .int 0, .int 0, .int 0, .null, .null, .null, .null, .null, .null]))] H := hP
  have hD : va_D A [(h0, .inr (0, [.ref q_1, .ref (u_5 0), .ref q_7, .ref q_4, .null, .null, .int 0, .int 0])), (q_1, .inr (2, [.ref u_2, .int 0])), (u_2, .inl (cB, 4096, .inl (fun _ => 0))), (q_4, .inr (4, [.ref (u_5 0), .int 0, .int (-1), .int 0, .int (-1)])), ((u_5 0), .inr (2, [.ref (u_5 1), .int 0])), ((u_5 1), .inl (cB, 4096, .inl (fun _ => 0))), (q_7, .inr (2, [.ref u_8, .int 0])), (u_8, .inl (cB, 320, .inl (fun _ => 0))), (q_10, .inr (3, [.int 0, .int 0, .int 0, .int 0, .null, .null, .null, .null, .null, .null]))] := hD
  refine W.widen (k := 8) (n := 8533) (by first | exact Nat.le_refl _ | omega) (by first | exact Nat.le_refl _ | omega) ?_
  refine lv_dup hx hb dd_X_init_58 rfl ?_
  have hPc := hP.sub (ws' := [(q_10, .inr (3, [.int 0, .int 0, .int 0, .int 0, .null, .null, .null, .null, .null, .null]))]) [8] rfl
  have hDc := hD.sub (ws' := [(q_10, .inr (3, [.int 0, .int 0, .int 0, .int 0, .null, .null, .null, .null, .null, .null]))]) [8] (by decide) rfl
  have hFc := va_free (wc := [(q_10, .inr (3, [.int 0, .int 0, .int 0, .int 0, .null, .null, .null, .null, .null, .null]))]) hD hS hA [8] rfl
  refine va_callv (va_runI (As := []) (rest := [.ref q_10, .ref h0]) ⟨hx, hb, hml, hown, hw⟩ (cb_C_init l dC dI cB cI cJ H.size q_10) (kw_I 0 hw qq_72 qq_4 qq_74 qq_73 rfl rfl rfl (by decide +kernel) ⟨Nat.le_of_ble_eq_true rfl, Nat.le_of_ble_eq_true rfl⟩) ⟨fun a U g mk q => by obtain ⟨q0, q1, qP, qK, qD⟩ := q; exact ⟨q0, q1, qP, va_K.moved (u := U) (U := U.calling g mk a) (Vm.Alike.refl U.vm) qK, qD⟩, fun U hU hW => ⟨rfl, by rw [hU], by rw [hU]; exact hPc, va_K.moved hW.alike hK, hDc.weaken (fun _ _ _ _ => trivial)⟩⟩ rfl rfl hl.1 rfl (lv_room (Nat.le_of_ble_eq_true rfl)) dd_X_init_59 ⟨by first | exact Nat.le_of_ble_eq_true rfl | (simp only [headSpec]; omega), by first | exact Nat.le_of_ble_eq_true rfl | (simp only [headSpec]; omega)⟩) hS (fun q _ h => hFc q h) hFc (fun u_11 t H1 locs ht hvm hq_12 hB hz1 hk1 hS => ?_)
  obtain ⟨hP1, hK1, hD1⟩ := hB
  rw [ht] at hP1
  obtain ⟨hP, hD⟩ := va_join (wr := [(h0, .inr (0, [.ref q_1, .ref (u_5 0), .ref q_7, .ref q_4, .null, .null, .int 0, .int 0])), (q_1, .inr (2, [.ref u_2, .int 0])), (u_2, .inl (cB, 4096, .inl (fun _ => 0))), (q_4, .inr (4, [.ref (u_5 0), .int 0, .int (-1), .int 0, .int (-1)])), ((u_5 0), .inr (2, [.ref (u_5 1), .int 0])), ((u_5 1), .inl (cB, 4096, .inl (fun _ => 0))), (q_7, .inr (2, [.ref u_8, .int 0])), (u_8, .inl (cB, 320, .inl (fun _ => 0)))]) (w1 := [(q_10, .inr (3, [.int 0, .int 0, .int 0, .int 0, .ref (u_11 0), .ref (u_11 1), .ref (u_11 2), .ref (u_11 3), .ref (u_11 4), .ref (u_11 5)])), ((u_11 0), .inl (cI, 8, .inl (fun _ => 0))), ((u_11 1), .inl (cI, 16, .inl (fun _ => 0))), ((u_11 2), .inl (cI, 16, .inl (fun _ => 0))), ((u_11 3), .inl (cJ, 16, .inr (.inl (fun _ => 0)))), ((u_11 4), .inl (cI, 16, .inl (fun _ => 0))), ((u_11 5), .inl (cI, 16, .inl (fun _ => 0)))]) hP hD [8] [0, 1, 2, 3, 4, 5, 6, 7] rfl rfl (by decide) (by decide) hk1 hFc hP1 hD1
  clear hP1 hK1 hD1 ht hvm hz1 hk1 hPc hDc hFc
  generalize H1 = H at hP hS ⊢
  have hP : va_P (dC, dI) vcl [(h0, .inr (0, [.ref q_1, .ref (u_5 0), .ref q_7, .ref q_4, .null, .null, .int 0, .int 0])), (q_1, .inr (2, [.ref u_2, .int 0])), (u_2, .inl (cB, 4096, .inl (fun _ => 0))), (q_4, .inr (4, [.ref (u_5 0), .int 0, .int (-1), .int 0, .int (-1)])), ((u_5 0), .inr (2, [.ref (u_5 1), .int 0])), ((u_5 1), .inl (cB, 4096, .inl (fun _ => 0))), (q_7, .inr (2, [.ref u_8, .int 0])), (u_8, .inl (cB, 320, .inl (fun _ => 0))), (q_10, .inr (3, [.int 0, .int 0, .int 0, .int 0, .ref (u_11 0), .ref (u_11 1), .ref (u_11 2), .ref (u_11 3), .ref (u_11 4), .ref (u_11 5)])), ((u_11 0), .inl (cI, 8, .inl (fun _ => 0))), ((u_11 1), .inl (cI, 16, .inl (fun _ => 0))), ((u_11 2), .inl (cI, 16, .inl (fun _ => 0))), ((u_11 3), .inl (cJ, 16, .inr (.inl (fun _ => 0)))), ((u_11 4), .inl (cI, 16, .inl (fun _ => 0))), ((u_11 5), .inl (cI, 16, .inl (fun _ => 0)))] H := hP
  have hD : va_D A [(h0, .inr (0, [.ref q_1, .ref (u_5 0), .ref q_7, .ref q_4, .null, .null, .int 0, .int 0])), (q_1, .inr (2, [.ref u_2, .int 0])), (u_2, .inl (cB, 4096, .inl (fun _ => 0))), (q_4, .inr (4, [.ref (u_5 0), .int 0, .int (-1), .int 0, .int (-1)])), ((u_5 0), .inr (2, [.ref (u_5 1), .int 0])), ((u_5 1), .inl (cB, 4096, .inl (fun _ => 0))), (q_7, .inr (2, [.ref u_8, .int 0])), (u_8, .inl (cB, 320, .inl (fun _ => 0))), (q_10, .inr (3, [.int 0, .int 0, .int 0, .int 0, .ref (u_11 0), .ref (u_11 1), .ref (u_11 2), .ref (u_11 3), .ref (u_11 4), .ref (u_11 5)])), ((u_11 0), .inl (cI, 8, .inl (fun _ => 0))), ((u_11 1), .inl (cI, 16, .inl (fun _ => 0))), ((u_11 2), .inl (cI, 16, .inl (fun _ => 0))), ((u_11 3), .inl (cJ, 16, .inr (.inl (fun _ => 0)))), ((u_11 4), .inl (cI, 16, .inl (fun _ => 0))), ((u_11 5), .inl (cI, 16, .inl (fun _ => 0)))] := hD
  refine W.widen (k := 14) (n := 8621) (by first | exact Nat.le_refl _ | omega) (by first | exact Nat.le_refl _ | omega) ?_
  refine va_put (D := (dC, dI)) (ci := 0) (v := .ref q_10) (ty := .object "ChangeCodec$Change") (C := RR_X) (T := TT_X) (N := 8) hx hb hw hh_X ty_X ty_X_ok nm_X hown hK hP hD hS 0 rfl rfl 4 (by decide) (hw _ qq_126) (fun _ h9 => h9) rfl (by decide +kernel) rfl rfl (Nat.le_of_ble_eq_true rfl) dd_X_init_62 (fun H locs hP hD hS => ?_)
  have hP : va_P (dC, dI) vcl [(h0, .inr (0, [.ref q_1, .ref (u_5 0), .ref q_7, .ref q_4, .ref q_10, .null, .int 0, .int 0])), (q_1, .inr (2, [.ref u_2, .int 0])), (u_2, .inl (cB, 4096, .inl (fun _ => 0))), (q_4, .inr (4, [.ref (u_5 0), .int 0, .int (-1), .int 0, .int (-1)])), ((u_5 0), .inr (2, [.ref (u_5 1), .int 0])), ((u_5 1), .inl (cB, 4096, .inl (fun _ => 0))), (q_7, .inr (2, [.ref u_8, .int 0])), (u_8, .inl (cB, 320, .inl (fun _ => 0))), (q_10, .inr (3, [.int 0, .int 0, .int 0, .int 0, .ref (u_11 0), .ref (u_11 1), .ref (u_11 2), .ref (u_11 3), .ref (u_11 4), .ref (u_11 5)])), ((u_11 0), .inl (cI, 8, .inl (fun _ => 0))), ((u_11 1), .inl (cI, 16, .inl (fun _ => 0))), ((u_11 2), .inl (cI, 16, .inl (fun _ => 0))), ((u_11 3), .inl (cJ, 16, .inr (.inl (fun _ => 0)))), ((u_11 4), .inl (cI, 16, .inl (fun _ => 0))), ((u_11 5), .inl (cI, 16, .inl (fun _ => 0)))] H := hP
  have hD : va_D A [(h0, .inr (0, [.ref q_1, .ref (u_5 0), .ref q_7, .ref q_4, .ref q_10, .null, .int 0, .int 0])), (q_1, .inr (2, [.ref u_2, .int 0])), (u_2, .inl (cB, 4096, .inl (fun _ => 0))), (q_4, .inr (4, [.ref (u_5 0), .int 0, .int (-1), .int 0, .int (-1)])), ((u_5 0), .inr (2, [.ref (u_5 1), .int 0])), ((u_5 1), .inl (cB, 4096, .inl (fun _ => 0))), (q_7, .inr (2, [.ref u_8, .int 0])), (u_8, .inl (cB, 320, .inl (fun _ => 0))), (q_10, .inr (3, [.int 0, .int 0, .int 0, .int 0, .ref (u_11 0), .ref (u_11 1), .ref (u_11 2), .ref (u_11 3), .ref (u_11 4), .ref (u_11 5)])), ((u_11 0), .inl (cI, 8, .inl (fun _ => 0))), ((u_11 1), .inl (cI, 16, .inl (fun _ => 0))), ((u_11 2), .inl (cI, 16, .inl (fun _ => 0))), ((u_11 3), .inl (cJ, 16, .inr (.inl (fun _ => 0)))), ((u_11 4), .inl (cI, 16, .inl (fun _ => 0))), ((u_11 5), .inl (cI, 16, .inl (fun _ => 0)))] := hD
  refine lv_aload_n hx hb dd_X_init_65 rfl (lv_at hl 0 rfl) ?_
  refine va_new (ci := 3) (fs := [.int 0, .int 0, .int 0, .int 0, .null, .null, .null, .null, .null, .null]) (C := RR_C) (T := TT_C) (N := 10) hx hb hw hh_C ty_C ty_C_ok hown (hw _ qq_70) (hw _ qq_71) (hw _ qq_4) hK hP hD hS hA rfl (by decide +kernel) (by first | exact Nat.le_of_ble_eq_true rfl | (simp only [headSpec]; omega)) (by first | exact Nat.le_of_ble_eq_true rfl | (simp only [headSpec]; omega)) dd_X_init_66 (fun q_13 H hP hD hS => ?_)
  have hP : va_P (dC, dI) vcl [(h0, .inr (0, [.ref q_1, .ref (u_5 0), .ref q_7, .ref q_4, .ref q_10, .null, .int 0, .int 0])), (q_1, .inr (2, [.ref u_2, .int 0])), (u_2, .inl (cB, 4096, .inl (fun _ => 0))), (q_4, .inr (4, [.ref (u_5 0), .int 0, .int (-1), .int 0, .int (-1)])), ((u_5 0), .inr (2, [.ref (u_5 1), .int 0])), ((u_5 1), .inl (cB, 4096, .inl (fun _ => 0))), (q_7, .inr (2, [.ref u_8, .int 0])), (u_8, .inl (cB, 320, .inl (fun _ => 0))), (q_10, .inr (3, [.int 0, .int 0, .int 0, .int 0, .ref (u_11 0), .ref (u_11 1), .ref (u_11 2), .ref (u_11 3), .ref (u_11 4), .ref (u_11 5)])), ((u_11 0), .inl (cI, 8, .inl (fun _ => 0))), ((u_11 1), .inl (cI, 16, .inl (fun _ => 0))), ((u_11 2), .inl (cI, 16, .inl (fun _ => 0))), ((u_11 3), .inl (cJ, 16, .inr (.inl (fun _ => 0)))), ((u_11 4), .inl (cI, 16, .inl (fun _ => 0))), ((u_11 5), .inl (cI, 16, .inl (fun _ => 0))), (q_13, .inr (3, [.int 0, .int 0, .int 0, .int 0, .null, .null, .null, .null, .null, .null]))] H := hP
  have hD : va_D A [(h0, .inr (0, [.ref q_1, .ref (u_5 0), .ref q_7, .ref q_4, .ref q_10, .null, .int 0, .int 0])), (q_1, .inr (2, [.ref u_2, .int 0])), (u_2, .inl (cB, 4096, .inl (fun _ => 0))), (q_4, .inr (4, [.ref (u_5 0), .int 0, .int (-1), .int 0, .int (-1)])), ((u_5 0), .inr (2, [.ref (u_5 1), .int 0])), ((u_5 1), .inl (cB, 4096, .inl (fun _ => 0))), (q_7, .inr (2, [.ref u_8, .int 0])), (u_8, .inl (cB, 320, .inl (fun _ => 0))), (q_10, .inr (3, [.int 0, .int 0, .int 0, .int 0, .ref (u_11 0), .ref (u_11 1), .ref (u_11 2), .ref (u_11 3), .ref (u_11 4), .ref (u_11 5)])), ((u_11 0), .inl (cI, 8, .inl (fun _ => 0))), ((u_11 1), .inl (cI, 16, .inl (fun _ => 0))), ((u_11 2), .inl (cI, 16, .inl (fun _ => 0))), ((u_11 3), .inl (cJ, 16, .inr (.inl (fun _ => 0)))), ((u_11 4), .inl (cI, 16, .inl (fun _ => 0))), ((u_11 5), .inl (cI, 16, .inl (fun _ => 0))), (q_13, .inr (3, [.int 0, .int 0, .int 0, .int 0, .null, .null, .null, .null, .null, .null]))] := hD
  refine W.widen (k := 15) (n := 8631) (by first | exact Nat.le_refl _ | omega) (by first | exact Nat.le_refl _ | omega) ?_
  refine lv_dup hx hb dd_X_init_69 rfl ?_
  have hPc := hP.sub (ws' := [(q_13, .inr (3, [.int 0, .int 0, .int 0, .int 0, .null, .null, .null, .null, .null, .null]))]) [15] rfl
  have hDc := hD.sub (ws' := [(q_13, .inr (3, [.int 0, .int 0, .int 0, .int 0, .null, .null, .null, .null, .null, .null]))]) [15] (by decide) rfl
  have hFc := va_free (wc := [(q_13, .inr (3, [.int 0, .int 0, .int 0, .int 0, .null, .null, .null, .null, .null, .null]))]) hD hS hA [15] rfl
  refine va_callv (va_runI (As := []) (rest := [.ref q_13, .ref h0]) ⟨hx, hb, hml, hown, hw⟩ (cb_C_init l dC dI cB cI cJ H.size q_13) (kw_I 0 hw qq_72 qq_4 qq_74 qq_73 rfl rfl rfl (by decide +kernel) ⟨Nat.le_of_ble_eq_true rfl, Nat.le_of_ble_eq_true rfl⟩) ⟨fun a U g mk q => by obtain ⟨q0, q1, qP, qK, qD⟩ := q; exact ⟨q0, q1, qP, va_K.moved (u := U) (U := U.calling g mk a) (Vm.Alike.refl U.vm) qK, qD⟩, fun U hU hW => ⟨rfl, by rw [hU], by rw [hU]; exact hPc, va_K.moved hW.alike hK, hDc.weaken (fun _ _ _ _ => trivial)⟩⟩ rfl rfl hl.1 rfl (lv_room (Nat.le_of_ble_eq_true rfl)) dd_X_init_70 ⟨by first | exact Nat.le_of_ble_eq_true rfl | (simp only [headSpec]; omega), by first | exact Nat.le_of_ble_eq_true rfl | (simp only [headSpec]; omega)⟩) hS (fun q _ h => hFc q h) hFc (fun u_14 t H1 locs ht hvm hq_15 hB hz1 hk1 hS => ?_)
  obtain ⟨hP1, hK1, hD1⟩ := hB
  rw [ht] at hP1
  obtain ⟨hP, hD⟩ := va_join (wr := [(h0, .inr (0, [.ref q_1, .ref (u_5 0), .ref q_7, .ref q_4, .ref q_10, .null, .int 0, .int 0])), (q_1, .inr (2, [.ref u_2, .int 0])), (u_2, .inl (cB, 4096, .inl (fun _ => 0))), (q_4, .inr (4, [.ref (u_5 0), .int 0, .int (-1), .int 0, .int (-1)])), ((u_5 0), .inr (2, [.ref (u_5 1), .int 0])), ((u_5 1), .inl (cB, 4096, .inl (fun _ => 0))), (q_7, .inr (2, [.ref u_8, .int 0])), (u_8, .inl (cB, 320, .inl (fun _ => 0))), (q_10, .inr (3, [.int 0, .int 0, .int 0, .int 0, .ref (u_11 0), .ref (u_11 1), .ref (u_11 2), .ref (u_11 3), .ref (u_11 4), .ref (u_11 5)])), ((u_11 0), .inl (cI, 8, .inl (fun _ => 0))), ((u_11 1), .inl (cI, 16, .inl (fun _ => 0))), ((u_11 2), .inl (cI, 16, .inl (fun _ => 0))), ((u_11 3), .inl (cJ, 16, .inr (.inl (fun _ => 0)))), ((u_11 4), .inl (cI, 16, .inl (fun _ => 0))), ((u_11 5), .inl (cI, 16, .inl (fun _ => 0)))]) (w1 := [(q_13, .inr (3, [.int 0, .int 0, .int 0, .int 0, .ref (u_14 0), .ref (u_14 1), .ref (u_14 2), .ref (u_14 3), .ref (u_14 4), .ref (u_14 5)])), ((u_14 0), .inl (cI, 8, .inl (fun _ => 0))), ((u_14 1), .inl (cI, 16, .inl (fun _ => 0))), ((u_14 2), .inl (cI, 16, .inl (fun _ => 0))), ((u_14 3), .inl (cJ, 16, .inr (.inl (fun _ => 0)))), ((u_14 4), .inl (cI, 16, .inl (fun _ => 0))), ((u_14 5), .inl (cI, 16, .inl (fun _ => 0)))]) hP hD [15] [0, 1, 2, 3, 4, 5, 6, 7, 8, 9, 10, 11, 12, 13, 14] rfl rfl (by decide) (by decide) hk1 hFc hP1 hD1
  clear hP1 hK1 hD1 ht hvm hz1 hk1 hPc hDc hFc
  generalize H1 = H at hP hS ⊢
  have hP : va_P (dC, dI) vcl [(h0, .inr (0, [.ref q_1, .ref (u_5 0), .ref q_7, .ref q_4, .ref q_10, .null, .int 0, .int 0])), (q_1, .inr (2, [.ref u_2, .int 0])), (u_2, .inl (cB, 4096, .inl (fun _ => 0))), (q_4, .inr (4, [.ref (u_5 0), .int 0, .int (-1), .int 0, .int (-1)])), ((u_5 0), .inr (2, [.ref (u_5 1), .int 0])), ((u_5 1), .inl (cB, 4096, .inl (fun _ => 0))), (q_7, .inr (2, [.ref u_8, .int 0])), (u_8, .inl (cB, 320, .inl (fun _ => 0))), (q_10, .inr (3, [.int 0, .int 0, .int 0, .int 0, .ref (u_11 0), .ref (u_11 1), .ref (u_11 2), .ref (u_11 3), .ref (u_11 4), .ref (u_11 5)])), ((u_11 0), .inl (cI, 8, .inl (fun _ => 0))), ((u_11 1), .inl (cI, 16, .inl (fun _ => 0))), ((u_11 2), .inl (cI, 16, .inl (fun _ => 0))), ((u_11 3), .inl (cJ, 16, .inr (.inl (fun _ => 0)))), ((u_11 4), .inl (cI, 16, .inl (fun _ => 0))), ((u_11 5), .inl (cI, 16, .inl (fun _ => 0))), (q_13, .inr (3, [.int 0, .int 0, .int 0, .int 0, .ref (u_14 0), .ref (u_14 1), .ref (u_14 2), .ref (u_14 3), .ref (u_14 4), .ref (u_14 5)])), ((u_14 0), .inl (cI, 8, .inl (fun _ => 0))), ((u_14 1), .inl (cI, 16, .inl (fun _ => 0))), ((u_14 2), .inl (cI, 16, .inl (fun _ => 0))), ((u_14 3), .inl (cJ, 16, .inr (.inl (fun _ => 0)))), ((u_14 4), .inl (cI, 16, .inl (fun _ => 0))), ((u_14 5), .inl (cI, 16, .inl (fun _ => 0)))] H := hP
  have hD : va_D A [(h0, .inr (0, [.ref q_1, .ref (u_5 0), .ref q_7, .ref q_4, .ref q_10, .null, .int 0, .int 0])), (q_1, .inr (2, [.ref u_2, .int 0])), (u_2, .inl (cB, 4096, .inl (fun _ => 0))), (q_4, .inr (4, [.ref (u_5 0), .int 0, .int (-1), .int 0, .int (-1)])), ((u_5 0), .inr (2, [.ref (u_5 1), .int 0])), ((u_5 1), .inl (cB, 4096, .inl (fun _ => 0))), (q_7, .inr (2, [.ref u_8, .int 0])), (u_8, .inl (cB, 320, .inl (fun _ => 0))), (q_10, .inr (3, [.int 0, .int 0, .int 0, .int 0, .ref (u_11 0), .ref (u_11 1), .ref (u_11 2), .ref (u_11 3), .ref (u_11 4), .ref (u_11 5)])), ((u_11 0), .inl (cI, 8, .inl (fun _ => 0))), ((u_11 1), .inl (cI, 16, .inl (fun _ => 0))), ((u_11 2), .inl (cI, 16, .inl (fun _ => 0))), ((u_11 3), .inl (cJ, 16, .inr (.inl (fun _ => 0)))), ((u_11 4), .inl (cI, 16, .inl (fun _ => 0))), ((u_11 5), .inl (cI, 16, .inl (fun _ => 0))), (q_13, .inr (3, [.int 0, .int 0, .int 0, .int 0, .ref (u_14 0), .ref (u_14 1), .ref (u_14 2), .ref (u_14 3), .ref (u_14 4), .ref (u_14 5)])), ((u_14 0), .inl (cI, 8, .inl (fun _ => 0))), ((u_14 1), .inl (cI, 16, .inl (fun _ => 0))), ((u_14 2), .inl (cI, 16, .inl (fun _ => 0))), ((u_14 3), .inl (cJ, 16, .inr (.inl (fun _ => 0)))), ((u_14 4), .inl (cI, 16, .inl (fun _ => 0))), ((u_14 5), .inl (cI, 16, .inl (fun _ => 0)))] := hD
  refine W.widen (k := 21) (n := 8719) (by first | exact Nat.le_refl _ | omega) (by first | exact Nat.le_refl _ | omega) ?_
  refine va_put (D := (dC, dI)) (ci := 0) (v := .ref q_13) (ty := .object "ChangeCodec$Change") (C := RR_X) (T := TT_X) (N := 8) hx hb hw hh_X ty_X ty_X_ok nm_X hown hK hP hD hS 0 rfl rfl 5 (by decide) (hw _ qq_127) (fun _ h9 => h9) rfl (by decide +kernel) rfl rfl (Nat.le_of_ble_eq_true rfl) dd_X_init_73 (fun H locs hP hD hS => ?_)
  have hP : va_P (dC, dI) vcl [(h0, .inr (0, [.ref q_1, .ref (u_5 0), .ref q_7, .ref q_4, .ref q_10, .ref q_13, .int 0, .int 0])), (q_1, .inr (2, [.ref u_2, .int 0])), (u_2, .inl (cB, 4096, .inl (fun _ => 0))), (q_4, .inr (4, [.ref (u_5 0), .int 0, .int (-1), .int 0, .int (-1)])), ((u_5 0), .inr (2, [.ref (u_5 1), .int 0])), ((u_5 1), .inl (cB, 4096, .inl (fun _ => 0))), (q_7, .inr (2, [.ref u_8, .int 0])), (u_8, .inl (cB, 320, .inl (fun _ => 0))), (q_10, .inr (3, [.int 0, .int 0, .int 0, .int 0, .ref (u_11 0), .ref (u_11 1), .ref (u_11 2), .ref (u_11 3), .ref (u_11 4), .ref (u_11 5)])), ((u_11 0), .inl (cI, 8, .inl (fun _ => 0))), ((u_11 1), .inl (cI, 16, .inl (fun _ => 0))), ((u_11 2), .inl (cI, 16, .inl (fun _ => 0))), ((u_11 3), .inl (cJ, 16, .inr (.inl (fun _ => 0)))), ((u_11 4), .inl (cI, 16, .inl (fun _ => 0))), ((u_11 5), .inl (cI, 16, .inl (fun _ => 0))), (q_13, .inr (3, [.int 0, .int 0, .int 0, .int 0, .ref (u_14 0), .ref (u_14 1), .ref (u_14 2), .ref (u_14 3), .ref (u_14 4), .ref (u_14 5)])), ((u_14 0), .inl (cI, 8, .inl (fun _ => 0))), ((u_14 1), .inl (cI, 16, .inl (fun _ => 0))), ((u_14 2), .inl (cI, 16, .inl (fun _ => 0))), ((u_14 3), .inl (cJ, 16, .inr (.inl (fun _ => 0)))), ((u_14 4), .inl (cI, 16, .inl (fun _ => 0))), ((u_14 5), .inl (cI, 16, .inl (fun _ => 0)))] H := hP
  have hD : va_D A [(h0, .inr (0, [.ref q_1, .ref (u_5 0), .ref q_7, .ref q_4, .ref q_10, .ref q_13, .int 0, .int 0])), (q_1, .inr (2, [.ref u_2, .int 0])), (u_2, .inl (cB, 4096, .inl (fun _ => 0))), (q_4, .inr (4, [.ref (u_5 0), .int 0, .int (-1), .int 0, .int (-1)])), ((u_5 0), .inr (2, [.ref (u_5 1), .int 0])), ((u_5 1), .inl (cB, 4096, .inl (fun _ => 0))), (q_7, .inr (2, [.ref u_8, .int 0])), (u_8, .inl (cB, 320, .inl (fun _ => 0))), (q_10, .inr (3, [.int 0, .int 0, .int 0, .int 0, .ref (u_11 0), .ref (u_11 1), .ref (u_11 2), .ref (u_11 3), .ref (u_11 4), .ref (u_11 5)])), ((u_11 0), .inl (cI, 8, .inl (fun _ => 0))), ((u_11 1), .inl (cI, 16, .inl (fun _ => 0))), ((u_11 2), .inl (cI, 16, .inl (fun _ => 0))), ((u_11 3), .inl (cJ, 16, .inr (.inl (fun _ => 0)))), ((u_11 4), .inl (cI, 16, .inl (fun _ => 0))), ((u_11 5), .inl (cI, 16, .inl (fun _ => 0))), (q_13, .inr (3, [.int 0, .int 0, .int 0, .int 0, .ref (u_14 0), .ref (u_14 1), .ref (u_14 2), .ref (u_14 3), .ref (u_14 4), .ref (u_14 5)])), ((u_14 0), .inl (cI, 8, .inl (fun _ => 0))), ((u_14 1), .inl (cI, 16, .inl (fun _ => 0))), ((u_14 2), .inl (cI, 16, .inl (fun _ => 0))), ((u_14 3), .inl (cJ, 16, .inr (.inl (fun _ => 0)))), ((u_14 4), .inl (cI, 16, .inl (fun _ => 0))), ((u_14 5), .inl (cI, 16, .inl (fun _ => 0)))] := hD
  refine lv_aload_n hx hb dd_X_init_76 rfl (lv_at hl 0 rfl) ?_
  refine lv_iconst (v := 0) hx hb dd_X_init_77 (by decide) ?_
  refine va_put (D := (dC, dI)) (ci := 0) (v := .int 0) (ty := .boolean) (C := RR_X) (T := TT_X) (N := 8) hx hb hw hh_X ty_X ty_X_ok nm_X hown hK hP hD hS 0 rfl rfl 6 (by decide) (hw _ qq_128) (fun _ h9 => h9) rfl (by decide +kernel) rfl rfl (Nat.le_of_ble_eq_true rfl) dd_X_init_78 (fun H locs hP hD hS => ?_)
  have hP : va_P (dC, dI) vcl [(h0, .inr (0, [.ref q_1, .ref (u_5 0), .ref q_7, .ref q_4, .ref q_10, .ref q_13, .int 0, .int 0])), (q_1, .inr (2, [.ref u_2, .int 0])), (u_2, .inl (cB, 4096, .inl (fun _ => 0))), (q_4, .inr (4, [.ref (u_5 0), .int 0, .int (-1), .int 0, .int (-1)])), ((u_5 0), .inr (2, [.ref (u_5 1), .int 0])), ((u_5 1), .inl (cB, 4096, .inl (fun _ => 0))), (q_7, .inr (2, [.ref u_8, .int 0])), (u_8, .inl (cB, 320, .inl (fun _ => 0))), (q_10, .inr (3, [.int 0, .int 0, .int 0, .int 0, .ref (u_11 0), .ref (u_11 1), .ref (u_11 2), .ref (u_11 3), .ref (u_11 4), .ref (u_11 5)])), ((u_11 0), .inl (cI, 8, .inl (fun _ => 0))), ((u_11 1), .inl (cI, 16, .inl (fun _ => 0))), ((u_11 2), .inl (cI, 16, .inl (fun _ => 0))), ((u_11 3), .inl (cJ, 16, .inr (.inl (fun _ => 0)))), ((u_11 4), .inl (cI, 16, .inl (fun _ => 0))), ((u_11 5), .inl (cI, 16, .inl (fun _ => 0))), (q_13, .inr (3, [.int 0, .int 0, .int 0, .int 0, .ref (u_14 0), .ref (u_14 1), .ref (u_14 2), .ref (u_14 3), .ref (u_14 4), .ref (u_14 5)])), ((u_14 0), .inl (cI, 8, .inl (fun _ => 0))), ((u_14 1), .inl (cI, 16, .inl (fun _ => 0))), ((u_14 2), .inl (cI, 16, .inl (fun _ => 0))), ((u_14 3), .inl (cJ, 16, .inr (.inl (fun _ => 0)))), ((u_14 4), .inl (cI, 16, .inl (fun _ => 0))), ((u_14 5), .inl (cI, 16, .inl (fun _ => 0)))] H := hP
  have hD : va_D A [(h0, .inr (0, [.ref q_1, .ref (u_5 0), .ref q_7, .ref q_4, .ref q_10, .ref q_13, .int 0, .int 0])), (q_1, .inr (2, [.ref u_2, .int 0])), (u_2, .inl (cB, 4096, .inl (fun _ => 0))), (q_4, .inr (4, [.ref (u_5 0), .int 0, .int (-1), .int 0, .int (-1)])), ((u_5 0), .inr (2, [.ref (u_5 1), .int 0])), ((u_5 1), .inl (cB, 4096, .inl (fun _ => 0))), (q_7, .inr (2, [.ref u_8, .int 0])), (u_8, .inl (cB, 320, .inl (fun _ => 0))), (q_10, .inr (3, [.int 0, .int 0, .int 0, .int 0, .ref (u_11 0), .ref (u_11 1), .ref (u_11 2), .ref (u_11 3), .ref (u_11 4), .ref (u_11 5)])), ((u_11 0), .inl (cI, 8, .inl (fun _ => 0))), ((u_11 1), .inl (cI, 16, .inl (fun _ => 0))), ((u_11 2), .inl (cI, 16, .inl (fun _ => 0))), ((u_11 3), .inl (cJ, 16, .inr (.inl (fun _ => 0)))), ((u_11 4), .inl (cI, 16, .inl (fun _ => 0))), ((u_11 5), .inl (cI, 16, .inl (fun _ => 0))), (q_13, .inr (3, [.int 0, .int 0, .int 0, .int 0, .ref (u_14 0), .ref (u_14 1), .ref (u_14 2), .ref (u_14 3), .ref (u_14 4), .ref (u_14 5)])), ((u_14 0), .inl (cI, 8, .inl (fun _ => 0))), ((u_14 1), .inl (cI, 16, .inl (fun _ => 0))), ((u_14 2), .inl (cI, 16, .inl (fun _ => 0))), ((u_14 3), .inl (cJ, 16, .inr (.inl (fun _ => 0)))), ((u_14 4), .inl (cI, 16, .inl (fun _ => 0))), ((u_14 5), .inl (cI, 16, .inl (fun _ => 0)))] := hD
  refine lv_aload_n hx hb dd_X_init_81 rfl (lv_at hl 0 rfl) ?_
  refine lv_iconst (v := 0) hx hb dd_X_init_82 (by decide) ?_
  refine va_put (D := (dC, dI)) (ci := 0) (v := .int 0) (ty := .int) (C := RR_X) (T := TT_X) (N := 8) hx hb hw hh_X ty_X ty_X_ok nm_X hown hK hP hD hS 0 rfl rfl 7 (by decide) (hw _ qq_129) (fun _ h9 => h9) rfl (by decide +kernel) rfl rfl (Nat.le_of_ble_eq_true rfl) dd_X_init_83 (fun H locs hP hD hS => ?_)
  have hP : va_P (dC, dI) vcl [(h0, .inr (0, [.ref q_1, .ref (u_5 0), .ref q_7, .ref q_4, .ref q_10, .ref q_13, .int 0, .int 0])), (q_1, .inr (2, [.ref u_2, .int 0])), (u_2, .inl (cB, 4096, .inl (fun _ => 0))), (q_4, .inr (4, [.ref (u_5 0), .int 0, .int (-1), .int 0, .int (-1)])), ((u_5 0), .inr (2, [.ref (u_5 1), .int 0])), ((u_5 1), .inl (cB, 4096, .inl (fun _ => 0))), (q_7, .inr (2, [.ref u_8, .int 0])), (u_8, .inl (cB, 320, .inl (fun _ => 0))), (q_10, .inr (3, [.int 0, .int 0, .int 0, .int 0, .ref (u_11 0), .ref (u_11 1), .ref (u_11 2), .ref (u_11 3), .ref (u_11 4), .ref (u_11 5)])), ((u_11 0), .inl (cI, 8, .inl (fun _ => 0))), ((u_11 1), .inl (cI, 16, .inl (fun _ => 0))), ((u_11 2), .inl (cI, 16, .inl (fun _ => 0))), ((u_11 3), .inl (cJ, 16, .inr (.inl (fun _ => 0)))), ((u_11 4), .inl (cI, 16, .inl (fun _ => 0))), ((u_11 5), .inl (cI, 16, .inl (fun _ => 0))), (q_13, .inr (3, [.int 0, .int 0, .int 0, .int 0, .ref (u_14 0), .ref (u_14 1), .ref (u_14 2), .ref (u_14 3), .ref (u_14 4), .ref (u_14 5)])), ((u_14 0), .inl (cI, 8, .inl (fun _ => 0))), ((u_14 1), .inl (cI, 16, .inl (fun _ => 0))), ((u_14 2), .inl (cI, 16, .inl (fun _ => 0))), ((u_14 3), .inl (cJ, 16, .inr (.inl (fun _ => 0)))), ((u_14 4), .inl (cI, 16, .inl (fun _ => 0))), ((u_14 5), .inl (cI, 16, .inl (fun _ => 0)))] H := hP
  have hD : va_D A [(h0, .inr (0, [.ref q_1, .ref (u_5 0), .ref q_7, .ref q_4, .ref q_10, .ref q_13, .int 0, .int 0])), (q_1, .inr (2, [.ref u_2, .int 0])), (u_2, .inl (cB, 4096, .inl (fun _ => 0))), (q_4, .inr (4, [.ref (u_5 0), .int 0, .int (-1), .int 0, .int (-1)])), ((u_5 0), .inr (2, [.ref (u_5 1), .int 0])), ((u_5 1), .inl (cB, 4096, .inl (fun _ => 0))), (q_7, .inr (2, [.ref u_8, .int 0])), (u_8, .inl (cB, 320, .inl (fun _ => 0))), (q_10, .inr (3, [.int 0, .int 0, .int 0, .int 0, .ref (u_11 0), .ref (u_11 1), .ref (u_11 2), .ref (u_11 3), .ref (u_11 4), .ref (u_11 5)])), ((u_11 0), .inl (cI, 8, .inl (fun _ => 0))), ((u_11 1), .inl (cI, 16, .inl (fun _ => 0))), ((u_11 2), .inl (cI, 16, .inl (fun _ => 0))), ((u_11 3), .inl (cJ, 16, .inr (.inl (fun _ => 0)))), ((u_11 4), .inl (cI, 16, .inl (fun _ => 0))), ((u_11 5), .inl (cI, 16, .inl (fun _ => 0))), (q_13, .inr (3, [.int 0, .int 0, .int 0, .int 0, .ref (u_14 0), .ref (u_14 1), .ref (u_14 2), .ref (u_14 3), .ref (u_14 4), .ref (u_14 5)])), ((u_14 0), .inl (cI, 8, .inl (fun _ => 0))), ((u_14 1), .inl (cI, 16, .inl (fun _ => 0))), ((u_14 2), .inl (cI, 16, .inl (fun _ => 0))), ((u_14 3), .inl (cJ, 16, .inr (.inl (fun _ => 0)))), ((u_14 4), .inl (cI, 16, .inl (fun _ => 0))), ((u_14 5), .inl (cI, 16, .inl (fun _ => 0)))] := hD
  have hP9 := hP.sub (ws' := [(h0, .inr (0, [.ref q_1, .ref (u_5 0), .ref q_7, .ref q_4, .ref q_10, .ref q_13, .int 0, .int 0])), (q_1, .inr (2, [.ref u_2, .int 0])), (u_2, .inl (cB, 4096, .inl (fun _ => 0))), ((u_5 0), .inr (2, [.ref (u_5 1), .int 0])), ((u_5 1), .inl (cB, 4096, .inl (fun _ => 0))), (q_7, .inr (2, [.ref u_8, .int 0])), (u_8, .inl (cB, 320, .inl (fun _ => 0))), (q_4, .inr (4, [.ref (u_5 0), .int 0, .int (-1), .int 0, .int (-1)])), (q_10, .inr (3, [.int 0, .int 0, .int 0, .int 0, .ref (u_11 0), .ref (u_11 1), .ref (u_11 2), .ref (u_11 3), .ref (u_11 4), .ref (u_11 5)])), ((u_11 0), .inl (cI, 8, .inl (fun _ => 0))), ((u_11 1), .inl (cI, 16, .inl (fun _ => 0))), ((u_11 2), .inl (cI, 16, .inl (fun _ => 0))), ((u_11 3), .inl (cJ, 16, .inr (.inl (fun _ => 0)))), ((u_11 4), .inl (cI, 16, .inl (fun _ => 0))), ((u_11 5), .inl (cI, 16, .inl (fun _ => 0))), (q_13, .inr (3, [.int 0, .int 0, .int 0, .int 0, .ref (u_14 0), .ref (u_14 1), .ref (u_14 2), .ref (u_14 3), .ref (u_14 4), .ref (u_14 5)])), ((u_14 0), .inl (cI, 8, .inl (fun _ => 0))), ((u_14 1), .inl (cI, 16, .inl (fun _ => 0))), ((u_14 2), .inl (cI, 16, .inl (fun _ => 0))), ((u_14 3), .inl (cJ, 16, .inr (.inl (fun _ => 0)))), ((u_14 4), .inl (cI, 16, .inl (fun _ => 0))), ((u_14 5), .inl (cI, 16, .inl (fun _ => 0)))]) [0, 1, 2, 4, 5, 6, 7, 3, 8, 9, 10, 11, 12, 13, 14, 15, 16, 17, 18, 19, 20, 21] rfl
  have hD9 := hD.sub (ws' := [(h0, .inr (0, [.ref q_1, .ref (u_5 0), .ref q_7, .ref q_4, .ref q_10, .ref q_13, .int 0, .int 0])), (q_1, .inr (2, [.ref u_2, .int 0])), (u_2, .inl (cB, 4096, .inl (fun _ => 0))), ((u_5 0), .inr (2, [.ref (u_5 1), .int 0])), ((u_5 1), .inl (cB, 4096, .inl (fun _ => 0))), (q_7, .inr (2, [.ref u_8, .int 0])), (u_8, .inl (cB, 320, .inl (fun _ => 0))), (q_4, .inr (4, [.ref (u_5 0), .int 0, .int (-1), .int 0, .int (-1)])), (q_10, .inr (3, [.int 0, .int 0, .int 0, .int 0, .ref (u_11 0), .ref (u_11 1), .ref (u_11 2), .ref (u_11 3), .ref (u_11 4), .ref (u_11 5)])), ((u_11 0), .inl (cI, 8, .inl (fun _ => 0))), ((u_11 1), .inl (cI, 16, .inl (fun _ => 0))), ((u_11 2), .inl (cI, 16, .inl (fun _ => 0))), ((u_11 3), .inl (cJ, 16, .inr (.inl (fun _ => 0)))), ((u_11 4), .inl (cI, 16, .inl (fun _ => 0))), ((u_11 5), .inl (cI, 16, .inl (fun _ => 0))), (q_13, .inr (3, [.int 0, .int 0, .int 0, .int 0, .ref (u_14 0), .ref (u_14 1), .ref (u_14 2), .ref (u_14 3), .ref (u_14 4), .ref (u_14 5)])), ((u_14 0), .inl (cI, 8, .inl (fun _ => 0))), ((u_14 1), .inl (cI, 16, .inl (fun _ => 0))), ((u_14 2), .inl (cI, 16, .inl (fun _ => 0))), ((u_14 3), .inl (cJ, 16, .inr (.inl (fun _ => 0)))), ((u_14 4), .inl (cI, 16, .inl (fun _ => 0))), ((u_14 5), .inl (cI, 16, .inl (fun _ => 0)))]) [0, 1, 2, 4, 5, 6, 7, 3, 8, 9, 10, 11, 12, 13, 14, 15, 16, 17, 18, 19, 20, 21] (by decide) rfl
  refine W.widen (k := 21) (n := 8719) (by first | exact Nat.le_refl _ | omega) (by first | exact Nat.le_refl _ | omega) ?_
  exact W.vret hx hb hr (fun t ht hW => ⟨⟨(fun j => match j with | 0 => q_1 | 1 => u_2 | 2 => (u_5 0) | 3 => (u_5 1) | 4 => q_7 | 5 => u_8 | 6 => q_4 | 7 => q_10 | 8 => (u_11 0) | 9 => (u_11 1) | 10 => (u_11 2) | 11 => (u_11 3) | 12 => (u_11 4) | 13 => (u_11 5) | 14 => q_13 | 15 => (u_14 0) | 16 => (u_14 1) | 17 => (u_14 2) | 18 => (u_14 3) | 19 => (u_14 4) | _ => (u_14 5)), rfl, trivial, by rw [ht]; exact hP9, va_K.moved hW.alike hK, hD9⟩, hS.F ht⟩) hS.2.2 dd_X_init_86

set_option maxHeartbeats 4000000 in
set_option maxRecDepth 100000 in
/-- ChangeCodecModel() -/
theorem cb_M_init (l : Launch) (dC : Nat → ClassId) (dI : Nat → Nat → Nat) (cB cI cJ : ClassId) (sz : Nat) (h0 : Nat) : Met l yy_M_init (Cond.code yy_M_init cc_M_init 1 none :: gw) { frames := 1, cells := 15, slots := 9768, locals := 12 } (va_Pc [.ref h0] (ks_pre dC dI [(cB, .byte), (cI, .int), (cJ, .long)] [(h0, .inr (1, [.int 0, .int 0, .int 0, .int 0, .int 0, .null, .int 0, .null, .null, .null, .null, .null, .int 0, .int 0, .int 0, .null, .int 0, .null, .null, .null, .null, .null, .null, .int 0, .null, .int 0, .int 0, .int 0, .int 0, .null, .int 0, .int 0, .int 0]))] sz)) (va_Qv (fun (u : Nat → Nat) => True) (fun (u : Nat → Nat) => ks_post dC dI [(cB, .byte), (cI, .int), (cJ, .long)] (va_A [(h0, .inr (1, [.int 0, .int 0, .int 0, .int 0, .int 0, .null, .int 0, .null, .null, .null, .null, .null, .int 0, .int 0, .int 0, .null, .int 0, .null, .null, .null, .null, .null, .null, .int 0, .null, .int 0, .int 0, .int 0, .int 0, .null, .int 0, .int 0, .int 0]))] sz) [(h0, .inr (1, [.int 0, .int 0, .int 0, .int 0, .int 0, .ref (u 0), .int 0, .ref (u 1), .ref (u 2), .ref (u 3), .ref (u 4), .ref (u 5), .int 0, .int 0, .int 0, .ref (u 6), .int 0, .ref (u 7), .ref (u 8), .ref (u 9), .ref (u 10), .ref (u 11), .ref (u 12), .int 0, .ref (u 13), .int 0, .int 0, .int 0, .int (-1), .ref (u 14), .int 0, .int 0, .int 0])), ((u 0), .inl (cI, 8, .inl (fun _ => 0))), ((u 1), .inl (cI, 16, .inl (fun _ => 0))), ((u 2), .inl (cI, 16, .inl (fun _ => 0))), ((u 3), .inl (cJ, 16, .inr (.inl (fun _ => 0)))), ((u 4), .inl (cI, 16, .inl (fun _ => 0))), ((u 5), .inl (cI, 16, .inl (fun _ => 0))), ((u 6), .inl (cI, 8, .inl (fun _ => 0))), ((u 7), .inl (cI, 16, .inl (fun _ => 0))), ((u 8), .inl (cI, 16, .inl (fun _ => 0))), ((u 9), .inl (cJ, 16, .inr (.inl (fun _ => 0)))), ((u 10), .inl (cI, 16, .inl (fun _ => 0))), ((u 11), .inl (cI, 16, .inl (fun _ => 0))), ((u 12), .inl (cB, 4096, .inl (fun _ => 0))), ((u 13), .inl (cB, 4096, .inl (fun _ => 0))), ((u 14), .inl (cB, 1400, .inl (fun _ => 0)))]) (va_A [(h0, .inr (1, [.int 0, .int 0, .int 0, .int 0, .int 0, .null, .int 0, .null, .null, .null, .null, .null, .int 0, .int 0, .int 0, .null, .int 0, .null, .null, .null, .null, .null, .null, .int 0, .null, .int 0, .int 0, .int 0, .int 0, .null, .int 0, .int 0, .int 0]))] sz)) 15 9768 (va_A [(h0, .inr (1, [.int 0, .int 0, .int 0, .int 0, .int 0, .null, .int 0, .null, .null, .null, .null, .null, .int 0, .int 0, .int 0, .null, .int 0, .null, .null, .null, .null, .null, .null, .int 0, .null, .int 0, .int 0, .int 0, .int 0, .null, .int 0, .int 0, .int 0]))] sz) := by
  refine Met.ofW (cc := cc_M_init) (maxL := 1) (ret := none) (by decide) rfl ?_
  intro p e s m args below meth c s₁ B hml hv
  obtain ⟨rfl, hsz, hP, hK, hD0⟩ := hv
  have hx := B.exec
  have hb := B.bytes
  have hr := B.returns
  have hw : ∀ w ∈ gw, w.before _ s = true := fun w h => atoms_spec (ws := (Cond.code yy_M_init cc_M_init 1 none :: gw)) B.pre w (List.mem_cons_of_mem _ h)
  have hown : s.vm.findClass RR_M = some m.cls := findClass_of_methodNamed B.named
  have hlocks := B.notSynchronized
  have hin : meth.name = "<init>" := (name_of_methodNamed B.named B.method).1
  subst hsz
  have hD := hD0.self (sz := s.heap.size)
  generalize hAe : va_A [(h0, .inr (1, [.int 0, .int 0, .int 0, .int 0, .int 0, .null, .int 0, .null, .null, .null, .null, .null, .int 0, .int 0, .int 0, .null, .int 0, .null, .null, .null, .null, .null, .null, .int 0, .null, .int 0, .int 0, .int 0, .int 0, .null, .int 0, .int 0, .int 0]))] s.heap.size = A at hD ⊢
  have hA : ∀ q : Nat, s.heap.size ≤ q → A q := fun q h => by rw [← hAe]; exact Or.inr h
  have hS : va_S A s.heap s.heap [] := va_S.rf
  have hP : va_P (dC, dI) vcl [(h0, .inr (1, [.int 0, .int 0, .int 0, .int 0, .int 0, .null, .int 0, .null, .null, .null, .null, .null, .int 0, .int 0, .int 0, .null, .int 0, .null, .null, .null, .null, .null, .null, .int 0, .null, .int 0, .int 0, .int 0, .int 0, .null, .int 0, .int 0, .int 0]))] s.heap := hP
  have hl := lv_entry ([.ref h0]) (n := 1) (Nat.le_of_ble_eq_true rfl)
  rw [lg_entry_eq]
  generalize (lg_sl ([.ref h0]) ++ List.replicate (1 - (lg_sl ([.ref h0])).length) Slot.unset).toArray = ls at hl ⊢
  have hl : lv_has ls 1 [(0, .ref h0)] := hl
  refine lv_aload_n hx hb dd_M_init_0 rfl (lv_at hl 0 rfl) ?_
  refine W.objInit hx hb hown (hw _ qq_578) (hw _ qq_23) (hw _ qq_24) rfl (by rw [hml]; exact hl.1) rfl dd_M_init_1 (Nat.le_of_ble_eq_true rfl) (Nat.le_of_ble_eq_true rfl) ?_
  refine W.eq (g2 := F0 m 4 ls []) rfl ?_
  refine lv_aload_n hx hb dd_M_init_4 rfl (lv_at hl 0 rfl) ?_
  refine lv_bipush (v := 8) hx hb dd_M_init_5 (by decide) ?_
  refine va_newa (atype := .int) (ty := .int) (N' := 8) (a0 := (8, .inl (fun _ => 0))) hx hb (hw _ qq_120) rfl hK hP hD hS hA (fun _ => rfl) (by decide) (by decide) (by first | decide | (simp only [componentBytes]; omega)) (by first | exact Nat.le_of_ble_eq_true rfl | (simp only [headSpec]; omega)) (by first | exact Nat.le_of_ble_eq_true rfl | (simp only [headSpec]; omega)) dd_M_init_7 (fun q_1 cA_2 H hK hP hD hS => ?_)
  obtain rfl : cI = cA_2 := ks_eqI hK 1 3 rfl rfl
  have hK : va_K (dC, dI) vcl [(cB, .byte), (cI, .int), (cJ, .long)] s := hK.sub [0, 1, 2] rfl
  have hP : va_P (dC, dI) vcl [(h0, .inr (1, [.int 0, .int 0, .int 0, .int 0, .int 0, .null, .int 0, .null, .null, .null, .null, .null, .int 0, .int 0, .int 0, .null, .int 0, .null, .null, .null, .null, .null, .null, .int 0, .null, .int 0, .int 0, .int 0, .int 0, .null, .int 0, .int 0, .int 0])), (q_1, .inl (cI, 8, .inl (fun _ => 0)))] H := hP
  have hD : va_D A [(h0, .inr (1, [.int 0, .int 0, .int 0, .int 0, .int 0, .null, .int 0, .null, .null, .null, .null, .null, .int 0, .int 0, .int 0, .null, .int 0, .null, .null, .null, .null, .null, .null, .int 0, .null, .int 0, .int 0, .int 0, .int 0, .null, .int 0, .int 0, .int 0])), (q_1, .inl (cI, 8, .inl (fun _ => 0)))] := hD
  refine W.widen (k := 1) (n := 8) (by first | exact Nat.le_refl _ | omega) (by first | exact Nat.le_refl _ | omega) ?_
  refine va_putF (D := (dC, dI)) (ci := 1) (v := .ref q_1) (ty := .array .int) (C := RR_M) (T := TT_M) (N := 33) hx hb hw hh_M ty_M ty_M_ok nm_M hown hK hP hD hS 0 rfl rfl 5 (by decide) (hw _ qq_584) (fun _ h9 => h9) rfl hin rfl (by decide +kernel) rfl rfl (Nat.le_of_ble_eq_true rfl) dd_M_init_9 (fun H locs hP hD hS => ?_)
  have hP : va_P (dC, dI) vcl [(h0, .inr (1, [.int 0, .int 0, .int 0, .int 0, .int 0, .ref q_1, .int 0, .null, .null, .null, .null, .null, .int 0, .int 0, .int 0, .null, .int 0, .null, .null, .null, .null, .null, .null, .int 0, .null, .int 0, .int 0, .int 0, .int 0, .null, .int 0, .int 0, .int 0])), (q_1, .inl (cI, 8, .inl (fun _ => 0)))] H := hP
  have hD : va_D A [(h0, .inr (1, [.int 0, .int 0, .int 0, .int 0, .int 0, .ref q_1, .int 0, .null, .null, .null, .null, .null, .int 0, .int 0, .int 0, .null, .int 0, .null, .null, .null, .null, .null, .null, .int 0, .null, .int 0, .int 0, .int 0, .int 0, .null, .int 0, .int 0, .int 0])), (q_1, .inl (cI, 8, .inl (fun _ => 0)))] := hD
  refine lv_aload_n hx hb dd_M_init_12 rfl (lv_at hl 0 rfl) ?_
  refine lv_bipush (v := 16) hx hb dd_M_init_13 (by decide) ?_
  refine va_newa (atype := .int) (ty := .int) (N' := 16) (a0 := (16, .inl (fun _ => 0))) hx hb (hw _ qq_120) rfl hK hP hD hS hA (fun _ => rfl) (by decide) (by decide) (by first | decide | (simp only [componentBytes]; omega)) (by first | exact Nat.le_of_ble_eq_true rfl | (simp only [headSpec]; omega)) (by first | exact Nat.le_of_ble_eq_true rfl | (simp only [headSpec]; omega)) dd_M_init_15 (fun q_3 cA_4 H hK hP hD hS => ?_)
  obtain rfl : cI = cA_4 := ks_eqI hK 1 3 rfl rfl
  have hK : va_K (dC, dI) vcl [(cB, .byte), (cI, .int), (cJ, .long)] s := hK.sub [0, 1, 2] rfl
  have hP : va_P (dC, dI) vcl [(h0, .inr (1, [.int 0, .int 0, .int 0, .int 0, .int 0, .ref q_1, .int 0, .null, .null, .null, .null, .null, .int 0, .int 0, .int 0, .null, .int 0, .null, .null, .null, .null, .null, .null, .int 0, .null, .int 0, .int 0, .int 0, .int 0, .null, .int 0, .int 0, .int 0])), (q_1, .inl (cI, 8, .inl (fun _ => 0))), (q_3, .inl (cI, 16, .inl (fun _ => 0)))] H := hP
  have hD : va_D A [(h0, .inr (1, [.int 0, .int 0, .int 0, .int 0, .int 0, .ref q_1, .int 0, .null, .null, .null, .null, .null, .int 0, .int 0, .int 0, .null, .int 0, .null, .null, .null, .null, .null, .null, .int 0, .null, .int 0, .int 0, .int 0, .int 0, .null, .int 0, .int 0, .int 0])), (q_1, .inl (cI, 8, .inl (fun _ => 0))), (q_3, .inl (cI, 16, .inl (fun _ => 0)))] := hD
  refine W.widen (k := 2) (n := 24) (by first | exact Nat.le_refl _ | omega) (by first | exact Nat.le_refl _ | omega) ?_
  refine va_putF (D := (dC, dI)) (ci := 1) (v := .ref q_3) (ty := .array .int) (C := RR_M) (T := TT_M) (N := 33) hx hb hw hh_M ty_M ty_M_ok nm_M hown hK hP hD hS 0 rfl rfl 7 (by decide) (hw _ qq_586) (fun _ h9 => h9) rfl hin rfl (by decide +kernel) rfl rfl (Nat.le_of_ble_eq_true rfl) dd_M_init_17 (fun H locs hP hD hS => ?_)
  have hP : va_P (dC, dI) vcl [(h0, .inr (1, [.int 0, .int 0, .int 0, .int 0, .int 0, .ref q_1, .int 0, .ref q_3, .null, .null, .null, .null, .int 0, .int 0, .int 0, .null, .int 0, .null, .null, .null, .null, .null, .null, .int 0, .null, .int 0, .int 0, .int 0, .int 0, .null, .int 0, .int 0, .int 0])), (q_1, .inl (cI, 8, .inl (fun _ => 0))), (q_3, .inl (cI, 16, .inl (fun _ => 0)))] H := hP
  have hD : va_D A [(h0, .inr (1, [.int 0, .int 0, .int 0, .int 0, .int 0, .ref q_1, .int 0, .ref q_3, .null, .null, .null, .null, .int 0, .int 0, .int 0, .null, .int 0, .null, .null, .null, .null, .null, .null, .int 0, .null, .int 0, .int 0, .int 0, .int 0, .null, .int 0, .int 0, .int 0])), (q_1, .inl (cI, 8, .inl (fun _ => 0))), (q_3, .inl (cI, 16, .inl (fun _ => 0)))] := hD
  refine lv_aload_n hx hb dd_M_init_20 rfl (lv_at hl 0 rfl) ?_
  refine lv_bipush (v := 16) hx hb dd_M_init_21 (by decide) ?_
  refine va_newa (atype := .int) (ty := .int) (N' := 16) (a0 := (16, .inl (fun _ => 0))) hx hb (hw _ qq_120) rfl hK hP hD hS hA (fun _ => rfl) (by decide) (by decide) (by first | decide | (simp only [componentBytes]; omega)) (by first | exact Nat.le_of_ble_eq_true rfl | (simp only [headSpec]; omega)) (by first | exact Nat.le_of_ble_eq_true rfl | (simp only [headSpec]; omega)) dd_M_init_23 (fun q_5 cA_6 H hK hP hD hS => ?_)
  obtain rfl : cI = cA_6 := ks_eqI hK 1 3 rfl rfl
  have hK : va_K (dC, dI) vcl [(cB, .byte), (cI, .int), (cJ, .long)] s := hK.sub [0, 1, 2] rfl
  have hP : va_P (dC, dI) vcl [(h0, .inr (1, [.int 0, .int 0, .int 0, .int 0, .int 0, .ref q_1, .int 0, .ref q_3, .null, .null, .null, .null, .int 0, .int 0, .int 0, .null, .int 0, .null, .null, .null, .null, .null, .null, .int 0, .null, .int 0, .int 0, .int 0, .int 0, .null, .int 0, .int 0, .int 0])), (q_1, .inl (cI, 8, .inl (fun _ => 0))), (q_3, .inl (cI, 16, .inl (fun _ => 0))), (q_5, .inl (cI, 16, .inl (fun _ => 0)))] H := hP
  have hD : va_D A [(h0, .inr (1, [.int 0, .int 0, .int 0, .int 0, .int 0, .ref q_1, .int 0, .ref q_3, .null, .null, .null, .null, .int 0, .int 0, .int 0, .null, .int 0, .null, .null, .null, .null, .null, .null, .int 0, .null, .int 0, .int 0, .int 0, .int 0, .null, .int 0, .int 0, .int 0])), (q_1, .inl (cI, 8, .inl (fun _ => 0))), (q_3, .inl (cI, 16, .inl (fun _ => 0))), (q_5, .inl (cI, 16, .inl (fun _ => 0)))] := hD
  refine W.widen (k := 3) (n := 40) (by first | exact Nat.le_refl _ | omega) (by first | exact Nat.le_refl _ | omega) ?_
  refine va_putF (D := (dC, dI)) (ci := 1) (v := .ref q_5) (ty := .array .int) (C := RR_M) (T := TT_M) (N := 33) hx hb hw hh_M ty_M ty_M_ok nm_M hown hK hP hD hS 0 rfl rfl 8 (by decide) (hw _ qq_587) (fun _ h9 => h9) rfl hin rfl (by decide +kernel) rfl rfl (Nat.le_of_ble_eq_true rfl) dd_M_init_25 (fun H locs hP hD hS => ?_)
  have hP : va_P (dC, dI) vcl [(h0, .inr (1, [.int 0, .int 0, .int 0, .int 0, .int 0, .ref q_1, .int 0, .ref q_3, .ref q_5, .null, .null, .null, .int 0, .int 0, .int 0, .null, .int 0, .null, .null, .null, .null, .null, .null, .int 0, .null, .int 0, .int 0, .int 0, .int 0, .null, .int 0, .int 0, .int 0])), (q_1, .inl (cI, 8, .inl (fun _ => 0))), (q_3, .inl (cI, 16, .inl (fun _ => 0))), (q_5, .inl (cI, 16, .inl (fun _ => 0)))] H := hP
  have hD : va_D A [(h0, .inr (1, [.int 0, .int 0, .int 0, .int 0, .int 0, .ref q_1, .int 0, .ref q_3, .ref q_5, .null, .null, .null, .int 0, .int 0, .int 0, .null, .int 0, .null, .null, .null, .null, .null, .null, .int 0, .null, .int 0, .int 0, .int 0, .int 0, .null, .int 0, .int 0, .int 0])), (q_1, .inl (cI, 8, .inl (fun _ => 0))), (q_3, .inl (cI, 16, .inl (fun _ => 0))), (q_5, .inl (cI, 16, .inl (fun _ => 0)))] := hD
  refine lv_aload_n hx hb dd_M_init_28 rfl (lv_at hl 0 rfl) ?_
  refine lv_bipush (v := 16) hx hb dd_M_init_29 (by decide) ?_
  refine va_newa (atype := .long) (ty := .long) (N' := 16) (a0 := (16, .inr (.inl (fun _ => 0)))) hx hb (hw _ qq_121) rfl hK hP hD hS hA (fun _ => rfl) (by decide) (by decide) (by first | decide | (simp only [componentBytes]; omega)) (by first | exact Nat.le_of_ble_eq_true rfl | (simp only [headSpec]; omega)) (by first | exact Nat.le_of_ble_eq_true rfl | (simp only [headSpec]; omega)) dd_M_init_31 (fun q_7 cA_8 H hK hP hD hS => ?_)
  obtain rfl : cJ = cA_8 := ks_eqJ hK 2 3 rfl rfl
  have hK : va_K (dC, dI) vcl [(cB, .byte), (cI, .int), (cJ, .long)] s := hK.sub [0, 1, 2] rfl
  have hP : va_P (dC, dI) vcl [(h0, .inr (1, [.int 0, .int 0, .int 0, .int 0, .int 0, .ref q_1, .int 0, .ref q_3, .ref q_5, .null, .null, .null, .int 0, .int 0, .int 0, .null, .int 0, .null, .null, .null, .null, .null, .null, .int 0, .null, .int 0, .int 0, .int 0, .int 0, .null, .int 0, .int 0, .int 0])), (q_1, .inl (cI, 8, .inl (fun _ => 0))), (q_3, .inl (cI, 16, .inl (fun _ => 0))), (q_5, .inl (cI, 16, .inl (fun _ => 0))), (q_7, .inl (cJ, 16, .inr (.inl (fun _ => 0))))] H := hP
  have hD : va_D A [(h0, .inr (1, [.int 0, .int 0, .int 0, .int 0, .int 0, .ref q_1, .int 0, .ref q_3, .ref q_5, .null, .null, .null, .int 0, .int 0, .int 0, .null, .int 0, .null, .null, .null, .null, .null, .null, .int 0, .null, .int 0, .int 0, .int 0, .int 0, .null, .int 0, .int 0, .int 0])), (q_1, .inl (cI, 8, .inl (fun _ => 0))), (q_3, .inl (cI, 16, .inl (fun _ => 0))), (q_5, .inl (cI, 16, .inl (fun _ => 0))), (q_7, .inl (cJ, 16, .inr (.inl (fun _ => 0))))] := hD
  refine W.widen (k := 4) (n := 56) (by first | exact Nat.le_refl _ | omega) (by first | exact Nat.le_refl _ | omega) ?_
  refine va_putF (D := (dC, dI)) (ci := 1) (v := .ref q_7) (ty := .array .long) (C := RR_M) (T := TT_M) (N := 33) hx hb hw hh_M ty_M ty_M_ok nm_M hown hK hP hD hS 0 rfl rfl 9 (by decide) (hw _ qq_588) (fun _ h9 => h9) rfl hin rfl (by decide +kernel) rfl rfl (Nat.le_of_ble_eq_true rfl) dd_M_init_33 (fun H locs hP hD hS => ?_)
  have hP : va_P (dC, dI) vcl [(h0, .inr (1, [.int 0, .int 0, .int 0, .int 0, .int 0, .ref q_1, .int 0, .ref q_3, .ref q_5, .ref q_7, .null, .null, .int 0, .int 0, .int 0, .null, .int 0, .null, .null, .null, .null, .null, .null, .int 0, .null, .int 0, .int 0, .int 0, .int 0, .null, .int 0, .int 0, .int 0])), (q_1, .inl (cI, 8, .inl (fun _ => 0))), (q_3, .inl (cI, 16, .inl (fun _ => 0))), (q_5, .inl (cI, 16, .inl (fun _ => 0))), (q_7, .inl (cJ, 16, .inr (.inl (fun _ => 0))))] H := hP
  have hD : va_D A [(h0, .inr (1, [.int 0, .int 0, .int 0, .int 0, .int 0, .ref q_1, .int 0, .ref q_3, .ref q_5, .ref q_7, .null, .null, .int 0, .int 0, .int 0, .null, .int 0, .null, .null, .null, .null, .null, .null, .int 0, .null, .int 0, .int 0, .int 0, .int 0, .null, .int 0, .int 0, .int 0])), (q_1, .inl (cI, 8, .inl (fun _ => 0))), (q_3, .inl (cI, 16, .inl (fun _ => 0))), (q_5, .inl (cI, 16, .inl (fun _ => 0))), (q_7, .inl (cJ, 16, .inr (.inl (fun _ => 0))))] := hD
  refine lv_aload_n hx hb dd_M_init_36 rfl (lv_at hl 0 rfl) ?_
  refine lv_bipush (v := 16) hx hb dd_M_init_37 (by decide) ?_
  refine va_newa (atype := .int) (ty := .int) (N' := 16) (a0 := (16, .inl (fun _ => 0))) hx hb (hw _ qq_120) rfl hK hP hD hS hA (fun _ => rfl) (by decide) (by decide) (by first | decide | (simp only [componentBytes]; omega)) (by first | exact Nat.le_of_ble_eq_true rfl | (simp only [headSpec]; omega)) (by first | exact Nat.le_of_ble_eq_true rfl | (simp only [headSpec]; omega)) dd_M_init_39 (fun q_9 cA_10 H hK hP hD hS => ?_)
  obtain rfl : cI = cA_10 := ks_eqI hK 1 3 rfl rfl
  have hK : va_K (dC, dI) vcl [(cB, .byte), (cI, .int), (cJ, .long)] s := hK.sub [0, 1, 2] rfl
  have hP : va_P (dC, dI) vcl [(h0, .inr (1, [.int 0, .int 0, .int 0, .int 0, .int 0, .ref q_1, .int 0, .ref q_3, .ref q_5, .ref q_7, .null, .null, .int 0, .int 0, .int 0, .null, .int 0, .null, .null, .null, .null, .null, .null, .int 0, .null, .int 0, .int 0, .int 0, .int 0, .null, .int 0, .int 0, .int 0])), (q_1, .inl (cI, 8, .inl (fun _ => 0))), (q_3, .inl (cI, 16, .inl (fun _ => 0))), (q_5, .inl (cI, 16, .inl (fun _ => 0))), (q_7, .inl (cJ, 16, .inr (.inl (fun _ => 0)))), (q_9, .inl (cI, 16, .inl (fun _ => 0)))] H := hP
  have hD : va_D A [(h0, .inr (1, [.int 0, .int 0, .int 0, .int 0, .int 0, .ref q_1, .int 0, .ref q_3, .ref q_5, .ref q_7, .null, .null, .int 0, .int 0, .int 0, .null, .int 0, .null, .null, .null, .null, .null, .null, .int 0, .null, .int 0, .int 0, .int 0, .int 0, .null, .int 0, .int 0, .int 0])), (q_1, .inl (cI, 8, .inl (fun _ => 0))), (q_3, .inl (cI, 16, .inl (fun _ => 0))), (q_5, .inl (cI, 16, .inl (fun _ => 0))), (q_7, .inl (cJ, 16, .inr (.inl (fun _ => 0)))), (q_9, .inl (cI, 16, .inl (fun _ => 0)))] := hD
  refine W.widen (k := 5) (n := 72) (by first | exact Nat.le_refl _ | omega) (by first | exact Nat.le_refl _ | omega) ?_
  refine va_putF (D := (dC, dI)) (ci := 1) (v := .ref q_9) (ty := .array .int) (C := RR_M) (T := TT_M) (N := 33) hx hb hw hh_M ty_M ty_M_ok nm_M hown hK hP hD hS 0 rfl rfl 10 (by decide) (hw _ qq_589) (fun _ h9 => h9) rfl hin rfl (by decide +kernel) rfl rfl (Nat.le_of_ble_eq_true rfl) dd_M_init_41 (fun H locs hP hD hS => ?_)
  have hP : va_P (dC, dI) vcl [(h0, .inr (1, [.int 0, .int 0, .int 0, .int 0, .int 0, .ref q_1, .int 0, .ref q_3, .ref q_5, .ref q_7, .ref q_9, .null, .int 0, .int 0, .int 0, .null, .int 0, .null, .null, .null, .null, .null, .null, .int 0, .null, .int 0, .int 0, .int 0, .int 0, .null, .int 0, .int 0, .int 0])), (q_1, .inl (cI, 8, .inl (fun _ => 0))), (q_3, .inl (cI, 16, .inl (fun _ => 0))), (q_5, .inl (cI, 16, .inl (fun _ => 0))), (q_7, .inl (cJ, 16, .inr (.inl (fun _ => 0)))), (q_9, .inl (cI, 16, .inl (fun _ => 0)))] H := hP
  have hD : va_D A [(h0, .inr (1, [.int 0, .int 0, .int 0, .int 0, .int 0, .ref q_1, .int 0, .ref q_3, .ref q_5, .ref q_7, .ref q_9, .null, .int 0, .int 0, .int 0, .null, .int 0, .null, .null, .null, .null, .null, .null, .int 0, .null, .int 0, .int 0, .int 0, .int 0, .null, .int 0, .int 0, .int 0])), (q_1, .inl (cI, 8, .inl (fun _ => 0))), (q_3, .inl (cI, 16, .inl (fun _ => 0))), (q_5, .inl (cI, 16, .inl (fun _ => 0))), (q_7, .inl (cJ, 16, .inr (.inl (fun _ => 0)))), (q_9, .inl (cI, 16, .inl (fun _ => 0)))] := hD
  refine lv_aload_n hx hb dd_M_init_44 rfl (lv_at hl 0 rfl) ?_
  refine lv_bipush (v := 16) hx hb dd_M_init_45 (by decide) ?_
  refine va_newa (atype := .int) (ty := .int) (N' := 16) (a0 := (16, .inl (fun _ => 0))) hx hb (hw _ qq_120) rfl hK hP hD hS hA (fun _ => rfl) (by decide) (by decide) (by first | decide | (simp only [componentBytes]; omega)) (by first | exact Nat.le_of_ble_eq_true rfl | (simp only [headSpec]; omega)) (by first | exact Nat.le_of_ble_eq_true rfl | (simp only [headSpec]; omega)) dd_M_init_47 (fun q_11 cA_12 H hK hP hD hS => ?_)
  obtain rfl : cI = cA_12 := ks_eqI hK 1 3 rfl rfl
  have hK : va_K (dC, dI) vcl [(cB, .byte), (cI, .int), (cJ, .long)] s := hK.sub [0, 1, 2] rfl
  have hP : va_P (dC, dI) vcl [(h0, .inr (1, [.int 0, .int 0, .int 0, .int 0, .int 0, .ref q_1, .int 0, .ref q_3, .ref q_5, .ref q_7, .ref q_9, .null, .int 0, .int 0, .int 0, .null, .int 0, .null, .null, .null, .null, .null, .null, .int 0, .null, .int 0, .int 0, .int 0, .int 0, .null, .int 0, .int 0, .int 0])), (q_1, .inl (cI, 8, .inl (fun _ => 0))), (q_3, .inl (cI, 16, .inl (fun _ => 0))), (q_5, .inl (cI, 16, .inl (fun _ => 0))), (q_7, .inl (cJ, 16, .inr (.inl (fun _ => 0)))), (q_9, .inl (cI, 16, .inl (fun _ => 0))), (q_11, .inl (cI, 16, .inl (fun _ => 0)))] H := hP
  have hD : va_D A [(h0, .inr (1, [.int 0, .int 0, .int 0, .int 0, .int 0, .ref q_1, .int 0, .ref q_3, .ref q_5, .ref q_7, .ref q_9, .null, .int 0, .int 0, .int 0, .null, .int 0, .null, .null, .null, .null, .null, .null, .int 0, .null, .int 0, .int 0, .int 0, .int 0, .null, .int 0, .int 0, .int 0])), (q_1, .inl (cI, 8, .inl (fun _ => 0))), (q_3, .inl (cI, 16, .inl (fun _ => 0))), (q_5, .inl (cI, 16, .inl (fun _ => 0))), (q_7, .inl (cJ, 16, .inr (.inl (fun _ => 0)))), (q_9, .inl (cI, 16, .inl (fun _ => 0))), (q_11, .inl (cI, 16, .inl (fun _ => 0)))] := hD
  refine W.widen (k := 6) (n := 88) (by first | exact Nat.le_refl _ | omega) (by first | exact Nat.le_refl _ | omega) ?_
  refine va_putF (D := (dC, dI)) (ci := 1) (v := .ref q_11) (ty := .array .int) (C := RR_M) (T := TT_M) (N := 33) hx hb hw hh_M ty_M ty_M_ok nm_M hown hK hP hD hS 0 rfl rfl 11 (by decide) (hw _ qq_590) (fun _ h9 => h9) rfl hin rfl (by decide +kernel) rfl rfl (Nat.le_of_ble_eq_true rfl) dd_M_init_49 (fun H locs hP hD hS => ?_)
  have hP : va_P (dC, dI) vcl [(h0, .inr (1, [.int 0, .int 0, .int 0, .int 0, .int 0, .ref q_1, .int 0, .ref q_3, .ref q_5, .ref q_7, .ref q_9, .ref q_11, .int 0, .int 0, .int 0, .null, .int 0, .null, .null, .null, .null, .null, .null, .int 0, .null, .int 0, .int 0, .int 0, .int 0, .null, .int 0, .int 0, .int 0])), (q_1, .inl (cI, 8, .inl (fun _ => 0))), (q_3, .inl (cI, 16, .inl (fun _ => 0))), (q_5, .inl (cI, 16, .inl (fun _ => 0))), (q_7, .inl (cJ, 16, .inr (.inl (fun _ => 0)))), (q_9, .inl (cI, 16, .inl (fun _ => 0))), (q_11, .inl (cI, 16, .inl (fun _ => 0)))] H := hP
  have hD : va_D A [(h0, .inr (1, [.int 0, .int 0, .int 0, .int 0, .int 0, .ref q_1, .int 0, .ref q_3, .ref q_5, .ref q_7, .ref q_9, .ref q_11, .int 0, .int 0, .int 0, .null, .int 0, .null, .null, .null, .null, .null, .null, .int 0, .null, .int 0, .int 0, .int 0, .int 0, .null, .int 0, .int 0, .int 0])), (q_1, .inl (cI, 8, .inl (fun _ => 0))), (q_3, .inl (cI, 16, .inl (fun _ => 0))), (q_5, .inl (cI, 16, .inl (fun _ => 0))), (q_7, .inl (cJ, 16, .inr (.inl (fun _ => 0)))), (q_9, .inl (cI, 16, .inl (fun _ => 0))), (q_11, .inl (cI, 16, .inl (fun _ => 0)))] := hD
  refine lv_aload_n hx hb dd_M_init_52 rfl (lv_at hl 0 rfl) ?_
  refine lv_bipush (v := 8) hx hb dd_M_init_53 (by decide) ?_
  refine va_newa (atype := .int) (ty := .int) (N' := 8) (a0 := (8, .inl (fun _ => 0))) hx hb (hw _ qq_120) rfl hK hP hD hS hA (fun _ => rfl) (by decide) (by decide) (by first | decide | (simp only [componentBytes]; omega)) (by first | exact Nat.le_of_ble_eq_true rfl | (simp only [headSpec]; omega)) (by first | exact Nat.le_of_ble_eq_true rfl | (simp only [headSpec]; omega)) dd_M_init_55 (fun q_13 cA_14 H hK hP hD hS => ?_)
  obtain rfl : cI = cA_14 := ks_eqI hK 1 3 rfl rfl
  have hK : va_K (dC, dI) vcl [(cB, .byte), (cI, .int), (cJ, .long)] s := hK.sub [0, 1, 2] rfl
  have hP : va_P (dC, dI) vcl [(h0, .inr (1, [.int 0, .int 0, .int 0, .int 0, .int 0, .ref q_1, .int 0, .ref q_3, .ref q_5, .ref q_7, .ref q_9, .ref q_11, .int 0, .int 0, .int 0, .null, .int 0, .null, .null, .null, .null, .null, .null, .int 0, .null, .int 0, .int 0, .int 0, .int 0, .null, .int 0, .int 0, .int 0])), (q_1, .inl (cI, 8, .inl (fun _ => 0))), (q_3, .inl (cI, 16, .inl (fun _ => 0))), (q_5, .inl (cI, 16, .inl (fun _ => 0))), (q_7, .inl (cJ, 16, .inr (.inl (fun _ => 0)))), (q_9, .inl (cI, 16, .inl (fun _ => 0))), (q_11, .inl (cI, 16, .inl (fun _ => 0))), (q_13, .inl (cI, 8, .inl (fun _ => 0)))] H := hP
  have hD : va_D A [(h0, .inr (1, [.int 0, .int 0, .int 0, .int 0, .int 0, .ref q_1, .int 0, .ref q_3, .ref q_5, .ref q_7, .ref q_9, .ref q_11, .int 0, .int 0, .int 0, .null, .int 0, .null, .null, .null, .null, .null, .null, .int 0, .null, .int 0, .int 0, .int 0, .int 0, .null, .int 0, .int 0, .int 0])), (q_1, .inl (cI, 8, .inl (fun _ => 0))), (q_3, .inl (cI, 16, .inl (fun _ => 0))), (q_5, .inl (cI, 16, .inl (fun _ => 0))), (q_7, .inl (cJ, 16, .inr (.inl (fun _ => 0)))), (q_9, .inl (cI, 16, .inl (fun _ => 0))), (q_11, .inl (cI, 16, .inl (fun _ => 0))), (q_13, .inl (cI, 8, .inl (fun _ => 0)))] := hD
  refine W.widen (k := 7) (n := 96) (by first | exact Nat.le_refl _ | omega) (by first | exact Nat.le_refl _ | omega) ?_
  refine va_putF (D := (dC, dI)) (ci := 1) (v := .ref q_13) (ty := .array .int) (C := RR_M) (T := TT_M) (N := 33) hx hb hw hh_M ty_M ty_M_ok nm_M hown hK hP hD hS 0 rfl rfl 15 (by decide) (hw _ qq_594) (fun _ h9 => h9) rfl hin rfl (by decide +kernel) rfl rfl (Nat.le_of_ble_eq_true rfl) dd_M_init_57 (fun H locs hP hD hS => ?_)
  have hP : va_P (dC, dI) vcl [(h0, .inr (1, [.int 0, .int 0, .int 0, .int 0, .int 0, .ref q_1, .int 0, .ref q_3, .ref q_5, .ref q_7, .ref q_9, .ref q_11, .int 0, .int 0, .int 0, .ref q_13, .int 0, .null, .null, .null, .null, .null, .null, .int 0, .null, .int 0, .int 0, .int 0, .int 0, .null, .int 0, .int 0, .int 0])), (q_1, .inl (cI, 8, .inl (fun _ => 0))), (q_3, .inl (cI, 16, .inl (fun _ => 0))), (q_5, .inl (cI, 16, .inl (fun _ => 0))), (q_7, .inl (cJ, 16, .inr (.inl (fun _ => 0)))), (q_9, .inl (cI, 16, .inl (fun _ => 0))), (q_11, .inl (cI, 16, .inl (fun _ => 0))), (q_13, .inl (cI, 8, .inl (fun _ => 0)))] H := hP
  have hD : va_D A [(h0, .inr (1, [.int 0, .int 0, .int 0, .int 0, .int 0, .ref q_1, .int 0, .ref q_3, .ref q_5, .ref q_7, .ref q_9, .ref q_11, .int 0, .int 0, .int 0, .ref q_13, .int 0, .null, .null, .null, .null, .null, .null, .int 0, .null, .int 0, .int 0, .int 0, .int 0, .null, .int 0, .int 0, .int 0])), (q_1, .inl (cI, 8, .inl (fun _ => 0))), (q_3, .inl (cI, 16, .inl (fun _ => 0))), (q_5, .inl (cI, 16, .inl (fun _ => 0))), (q_7, .inl (cJ, 16, .inr (.inl (fun _ => 0)))), (q_9, .inl (cI, 16, .inl (fun _ => 0))), (q_11, .inl (cI, 16, .inl (fun _ => 0))), (q_13, .inl (cI, 8, .inl (fun _ => 0)))] := hD
  refine lv_aload_n hx hb dd_M_init_60 rfl (lv_at hl 0 rfl) ?_
  refine lv_bipush (v := 16) hx hb dd_M_init_61 (by decide) ?_
  refine va_newa (atype := .int) (ty := .int) (N' := 16) (a0 := (16, .inl (fun _ => 0))) hx hb (hw _ qq_120) rfl hK hP hD hS hA (fun _ => rfl) (by decide) (by decide) (by first | decide | (simp only [componentBytes]; omega)) (by first | exact Nat.le_of_ble_eq_true rfl | (simp only [headSpec]; omega)) (by first | exact Nat.le_of_ble_eq_true rfl | (simp only [headSpec]; omega)) dd_M_init_63 (fun q_15 cA_16 H hK hP hD hS => ?_)
  obtain rfl : cI = cA_16 := ks_eqI hK 1 3 rfl rfl
  have hK : va_K (dC, dI) vcl [(cB, .byte), (cI, .int), (cJ, .long)] s := hK.sub [0, 1, 2] rfl
  have hP : va_P (dC, dI) vcl [(h0, .inr (1, [.int 0, .int 0, .int 0, .int 0, .int 0, .ref q_1, .int 0, .ref q_3, .ref q_5, .ref q_7, .ref q_9, .ref q_11, .int 0, .int 0, .int 0, .ref q_13, .int 0, .null, .null, .null, .null, .null, .null, .int 0, .null, .int 0, .int 0, .int 0, .int 0, .null, .int 0, .int 0, .int 0])), (q_1, .inl (cI, 8, .inl (fun _ => 0))), (q_3, .inl (cI, 16, .inl (fun _ => 0))), (q_5, .inl (cI, 16, .inl (fun _ => 0))), (q_7, .inl (cJ, 16, .inr (.inl (fun _ => 0)))), (q_9, .inl (cI, 16, .inl (fun _ => 0))), (q_11, .inl (cI, 16, .inl (fun _ => 0))), (q_13, .inl (cI, 8, .inl (fun _ => 0))), (q_15, .inl (cI, 16, .inl (fun _ => 0)))] H := hP
  have hD : va_D A [(h0, .inr (1, [.int 0, .int 0, .int 0, .int 0, .int 0, .ref q_1, .int 0, .ref q_3, .ref q_5, .ref q_7, .ref q_9, .ref q_11, .int 0, .int 0, .int 0, .ref q_13, .int 0, .null, .null, .null, .null, .null, .null, .int 0, .null, .int 0, .int 0, .int 0, .int 0, .null, .int 0, .int 0, .int 0])), (q_1, .inl (cI, 8, .inl (fun _ => 0))), (q_3, .inl (cI, 16, .inl (fun _ => 0))), (q_5, .inl (cI, 16, .inl (fun _ => 0))), (q_7, .inl (cJ, 16, .inr (.inl (fun _ => 0)))), (q_9, .inl (cI, 16, .inl (fun _ => 0))), (q_11, .inl (cI, 16, .inl (fun _ => 0))), (q_13, .inl (cI, 8, .inl (fun _ => 0))), (q_15, .inl (cI, 16, .inl (fun _ => 0)))] := hD
  refine W.widen (k := 8) (n := 112) (by first | exact Nat.le_refl _ | omega) (by first | exact Nat.le_refl _ | omega) ?_
  refine va_putF (D := (dC, dI)) (ci := 1) (v := .ref q_15) (ty := .array .int) (C := RR_M) (T := TT_M) (N := 33) hx hb hw hh_M ty_M ty_M_ok nm_M hown hK hP hD hS 0 rfl rfl 17 (by decide) (hw _ qq_596) (fun _ h9 => h9) rfl hin rfl (by decide +kernel) rfl rfl (Nat.le_of_ble_eq_true rfl) dd_M_init_65 (fun H locs hP hD hS => ?_)
  have hP : va_P (dC, dI) vcl [(h0, .inr (1, [.int 0, .int 0, .int 0, .int 0, .int 0, .ref q_1, .int 0, .ref q_3, .ref q_5, .ref q_7, .ref q_9, .ref q_11, .int 0, .int 0, .int 0, .ref q_13, .int 0, .ref q_15, .null, .null, .null, .null, .null, .int 0, .null, .int 0, .int 0, .int 0, .int 0, .null, .int 0, .int 0, .int 0])), (q_1, .inl (cI, 8, .inl (fun _ => 0))), (q_3, .inl (cI, 16, .inl (fun _ => 0))), (q_5, .inl (cI, 16, .inl (fun _ => 0))), (q_7, .inl (cJ, 16, .inr (.inl (fun _ => 0)))), (q_9, .inl (cI, 16, .inl (fun _ => 0))), (q_11, .inl (cI, 16, .inl (fun _ => 0))), (q_13, .inl (cI, 8, .inl (fun _ => 0))), (q_15, .inl (cI, 16, .inl (fun _ => 0)))] H := hP
  have hD : va_D A [(h0, .inr (1, [.int 0, .int 0, .int 0, .int 0, .int 0, .ref q_1, .int 0, .ref q_3, .ref q_5, .ref q_7, .ref q_9, .ref q_11, .int 0, .int 0, .int 0, .ref q_13, .int 0, .ref q_15, .null, .null, .null, .null, .null, .int 0, .null, .int 0, .int 0, .int 0, .int 0, .null, .int 0, .int 0, .int 0])), (q_1, .inl (cI, 8, .inl (fun _ => 0))), (q_3, .inl (cI, 16, .inl (fun _ => 0))), (q_5, .inl (cI, 16, .inl (fun _ => 0))), (q_7, .inl (cJ, 16, .inr (.inl (fun _ => 0)))), (q_9, .inl (cI, 16, .inl (fun _ => 0))), (q_11, .inl (cI, 16, .inl (fun _ => 0))), (q_13, .inl (cI, 8, .inl (fun _ => 0))), (q_15, .inl (cI, 16, .inl (fun _ => 0)))] := hD
  refine lv_aload_n hx hb dd_M_init_68 rfl (lv_at hl 0 rfl) ?_
  refine lv_bipush (v := 16) hx hb dd_M_init_69 (by decide) ?_
  refine va_newa (atype := .int) (ty := .int) (N' := 16) (a0 := (16, .inl (fun _ => 0))) hx hb (hw _ qq_120) rfl hK hP hD hS hA (fun _ => rfl) (by decide) (by decide) (by first | decide | (simp only [componentBytes]; omega)) (by first | exact Nat.le_of_ble_eq_true rfl | (simp only [headSpec]; omega)) (by first | exact Nat.le_of_ble_eq_true rfl | (simp only [headSpec]; omega)) dd_M_init_71 (fun q_17 cA_18 H hK hP hD hS => ?_)
  obtain rfl : cI = cA_18 := ks_eqI hK 1 3 rfl rfl
  have hK : va_K (dC, dI) vcl [(cB, .byte), (cI, .int), (cJ, .long)] s := hK.sub [0, 1, 2] rfl
  have hP : va_P (dC, dI) vcl [(h0, .inr (1, [.int 0, .int 0, .int 0, .int 0, .int 0, .ref q_1, .int 0, .ref q_3, .ref q_5, .ref q_7, .ref q_9, .ref q_11, .int 0, .int 0, .int 0, .ref q_13, .int 0, .ref q_15, .null, .null, .null, .null, .null, .int 0, .null, .int 0, .int 0, .int 0, .int 0, .null, .int 0, .int 0, .int 0])), (q_1, .inl (cI, 8, .inl (fun _ => 0))), (q_3, .inl (cI, 16, .inl (fun _ => 0))), (q_5, .inl (cI, 16, .inl (fun _ => 0))), (q_7, .inl (cJ, 16, .inr (.inl (fun _ => 0)))), (q_9, .inl (cI, 16, .inl (fun _ => 0))), (q_11, .inl (cI, 16, .inl (fun _ => 0))), (q_13, .inl (cI, 8, .inl (fun _ => 0))), (q_15, .inl (cI, 16, .inl (fun _ => 0))), (q_17, .inl (cI, 16, .inl (fun _ => 0)))] H := hP
  have hD : va_D A [(h0, .inr (1, [.int 0, .int 0, .int 0, .int 0, .int 0, .ref q_1, .int 0, .ref q_3, .ref q_5, .ref q_7, .ref q_9, .ref q_11, .int 0, .int 0, .int 0, .ref q_13, .int 0, .ref q_15, .null, .null, .null, .null, .null, .int 0, .null, .int 0, .int 0, .int 0, .int 0, .null, .int 0, .int 0, .int 0])), (q_1, .inl (cI, 8, .inl (fun _ => 0))), (q_3, .inl (cI, 16, .inl (fun _ => 0))), (q_5, .inl (cI, 16, .inl (fun _ => 0))), (q_7, .inl (cJ, 16, .inr (.inl (fun _ => 0)))), (q_9, .inl (cI, 16, .inl (fun _ => 0))), (q_11, .inl (cI, 16, .inl (fun _ => 0))), (q_13, .inl (cI, 8, .inl (fun _ => 0))), (q_15, .inl (cI, 16, .inl (fun _ => 0))), (q_17, .inl (cI, 16, .inl (fun _ => 0)))] := hD
  refine W.widen (k := 9) (n := 128) (by first | exact Nat.le_refl _ | omega) (by first | exact Nat.le_refl _ | omega) ?_
  refine va_putF (D := (dC, dI)) (ci := 1) (v := .ref q_17) (ty := .array .int) (C := RR_M) (T := TT_M) (N := 33) hx hb hw hh_M ty_M ty_M_ok nm_M hown hK hP hD hS 0 rfl rfl 18 (by decide) (hw _ qq_597) (fun _ h9 => h9) rfl hin rfl (by decide +kernel) rfl rfl (Nat.le_of_ble_eq_true rfl) dd_M_init_73 (fun H locs hP hD hS => ?_)
  have hP : va_P (dC, dI) vcl [(h0, .inr (1, [.int 0, .int 0, .int 0, .int 0, .int 0, .ref q_1, .int 0, .ref q_3, .ref q_5, .ref q_7, .ref q_9, .ref q_11, .int 0, .int 0, .int 0, .ref q_13, .int 0, .ref q_15, .ref q_17, .null, .null, .null, .null, .int 0, .null, .int 0, .int 0, .int 0, .int 0, .null, .int 0, .int 0, .int 0])), (q_1, .inl (cI, 8, .inl (fun _ => 0))), (q_3, .inl (cI, 16, .inl (fun _ => 0))), (q_5, .inl (cI, 16, .inl (fun _ => 0))), (q_7, .inl (cJ, 16, .inr (.inl (fun _ => 0)))), (q_9, .inl (cI, 16, .inl (fun _ => 0))), (q_11, .inl (cI, 16, .inl (fun _ => 0))), (q_13, .inl (cI, 8, .inl (fun _ => 0))), (q_15, .inl (cI, 16, .inl (fun _ => 0))), (q_17, .inl (cI, 16, .inl (fun _ => 0)))] H := hP
  have hD : va_D A [(h0, .inr (1, [.int 0, .int 0, .int 0, .int 0, .int 0, .ref q_1, .int 0, .ref q_3, .ref q_5, .ref q_7, .ref q_9, .ref q_11, .int 0, .int 0, .int 0, .ref q_13, .int 0, .ref q_15, .ref q_17, .null, .null, .null, .null, .int 0, .null, .int 0, .int 0, .int 0, .int 0, .null, .int 0, .int 0, .int 0])), (q_1, .inl (cI, 8, .inl (fun _ => 0))), (q_3, .inl (cI, 16, .inl (fun _ => 0))), (q_5, .inl (cI, 16, .inl (fun _ => 0))), (q_7, .inl (cJ, 16, .inr (.inl (fun _ => 0)))), (q_9, .inl (cI, 16, .inl (fun _ => 0))), (q_11, .inl (cI, 16, .inl (fun _ => 0))), (q_13, .inl (cI, 8, .inl (fun _ => 0))), (q_15, .inl (cI, 16, .inl (fun _ => 0))), (q_17, .inl (cI, 16, .inl (fun _ => 0)))] := hD
  refine lv_aload_n hx hb dd_M_init_76 rfl (lv_at hl 0 rfl) ?_
  refine lv_bipush (v := 16) hx hb dd_M_init_77 (by decide) ?_
  refine va_newa (atype := .long) (ty := .long) (N' := 16) (a0 := (16, .inr (.inl (fun _ => 0)))) hx hb (hw _ qq_121) rfl hK hP hD hS hA (fun _ => rfl) (by decide) (by decide) (by first | decide | (simp only [componentBytes]; omega)) (by first | exact Nat.le_of_ble_eq_true rfl | (simp only [headSpec]; omega)) (by first | exact Nat.le_of_ble_eq_true rfl | (simp only [headSpec]; omega)) dd_M_init_79 (fun q_19 cA_20 H hK hP hD hS => ?_)
  obtain rfl : cJ = cA_20 := ks_eqJ hK 2 3 rfl rfl
  have hK : va_K (dC, dI) vcl [(cB, .byte), (cI, .int), (cJ, .long)] s := hK.sub [0, 1, 2] rfl
  have hP : va_P (dC, dI) vcl [(h0, .inr (1, [.int 0, .int 0, .int 0, .int 0, .int 0, .ref q_1, .int 0, .ref q_3, .ref q_5, .ref q_7, .ref q_9, .ref q_11, .int 0, .int 0, .int 0, .ref q_13, .int 0, .ref q_15, .ref q_17, .null, .null, .null, .null, .int 0, .null, .int 0, .int 0, .int 0, .int 0, .null, .int 0, .int 0, .int 0])), (q_1, .inl (cI, 8, .inl (fun _ => 0))), (q_3, .inl (cI, 16, .inl (fun _ => 0))), (q_5, .inl (cI, 16, .inl (fun _ => 0))), (q_7, .inl (cJ, 16, .inr (.inl (fun _ => 0)))), (q_9, .inl (cI, 16, .inl (fun _ => 0))), (q_11, .inl (cI, 16, .inl (fun _ => 0))), (q_13, .inl (cI, 8, .inl (fun _ => 0))), (q_15, .inl (cI, 16, .inl (fun _ => 0))), (q_17, .inl (cI, 16, .inl (fun _ => 0))), (q_19, .inl (cJ, 16, .inr (.inl (fun _ => 0))))] H := hP
  have hD : va_D A [(h0, .inr (1, [.int 0, .int 0, .int 0, .int 0, .int 0, .ref q_1, .int 0, .ref q_3, .ref q_5, .ref q_7, .ref q_9, .ref q_11, .int 0, .int 0, .int 0, .ref q_13, .int 0, .ref q_15, .ref q_17, .null, .null, .null, .null, .int 0, .null, .int 0, .int 0, .int 0, .int 0, .null, .int 0, .int 0, .int 0])), (q_1, .inl (cI, 8, .inl (fun _ => 0))), (q_3, .inl (cI, 16, .inl (fun _ => 0))), (q_5, .inl (cI, 16, .inl (fun _ => 0))), (q_7, .inl (cJ, 16, .inr (.inl (fun _ => 0)))), (q_9, .inl (cI, 16, .inl (fun _ => 0))), (q_11, .inl (cI, 16, .inl (fun _ => 0))), (q_13, .inl (cI, 8, .inl (fun _ => 0))), (q_15, .inl (cI, 16, .inl (fun _ => 0))), (q_17, .inl (cI, 16, .inl (fun _ => 0))), (q_19, .inl (cJ, 16, .inr (.inl (fun _ => 0))))] := hD
  refine W.widen (k := 10) (n := 144) (by first | exact Nat.le_refl _ | omega) (by first | exact Nat.le_refl _ | omega) ?_
  refine va_putF (D := (dC, dI)) (ci := 1) (v := .ref q_19) (ty := .array .long) (C := RR_M) (T := TT_M) (N := 33) hx hb hw hh_M ty_M ty_M_ok nm_M hown hK hP hD hS 0 rfl rfl 19 (by decide) (hw _ qq_598) (fun _ h9 => h9) rfl hin rfl (by decide +kernel) rfl rfl (Nat.le_of_ble_eq_true rfl) dd_M_init_81 (fun H locs hP hD hS => ?_)
  have hP : va_P (dC, dI) vcl [(h0, .inr (1, [.int 0, .int 0, .int 0, .int 0, .int 0, .ref q_1, .int 0, .ref q_3, .ref q_5, .ref q_7, .ref q_9, .ref q_11, .int 0, .int 0, .int 0, .ref q_13, .int 0, .ref q_15, .ref q_17, .ref q_19, .null, .null, .null, .int 0, .null, .int 0, .int 0, .int 0, .int 0, .null, .int 0, .int 0, .int 0])), (q_1, .inl (cI, 8, .inl (fun _ => 0))), (q_3, .inl (cI, 16, .inl (fun _ => 0))), (q_5, .inl (cI, 16, .inl (fun _ => 0))), (q_7, .inl (cJ, 16, .inr (.inl (fun _ => 0)))), (q_9, .inl (cI, 16, .inl (fun _ => 0))), (q_11, .inl (cI, 16, .inl (fun _ => 0))), (q_13, .inl (cI, 8, .inl (fun _ => 0))), (q_15, .inl (cI, 16, .inl (fun _ => 0))), (q_17, .inl (cI, 16, .inl (fun _ => 0))), (q_19, .inl (cJ, 16, .inr (.inl (fun _ => 0))))] H := hP
  have hD : va_D A [(h0, .inr (1, [.int 0, .int 0, .int 0, .int 0, .int 0, .ref q_1, .int 0, .ref q_3, .ref q_5, .ref q_7, .ref q_9, .ref q_11, .int 0, .int 0, .int 0, .ref q_13, .int 0, .ref q_15, .ref q_17, .ref q_19, .null, .null, .null, .int 0, .null, .int 0, .int 0, .int 0, .int 0, .null, .int 0, .int 0, .int 0])), (q_1, .inl (cI, 8, .inl (fun _ => 0))), (q_3, .inl (cI, 16, .inl (fun _ => 0))), (q_5, .inl (cI, 16, .inl (fun _ => 0))), (q_7, .inl (cJ, 16, .inr (.inl (fun _ => 0)))), (q_9, .inl (cI, 16, .inl (fun _ => 0))), (q_11, .inl (cI, 16, .inl (fun _ => 0))), (q_13, .inl (cI, 8, .inl (fun _ => 0))), (q_15, .inl (cI, 16, .inl (fun _ => 0))), (q_17, .inl (cI, 16, .inl (fun _ => 0))), (q_19, .inl (cJ, 16, .inr (.inl (fun _ => 0))))] := hD
  refine lv_aload_n hx hb dd_M_init_84 rfl (lv_at hl 0 rfl) ?_
  refine lv_bipush (v := 16) hx hb dd_M_init_85 (by decide) ?_
  refine va_newa (atype := .int) (ty := .int) (N' := 16) (a0 := (16, .inl (fun _ => 0))) hx hb (hw _ qq_120) rfl hK hP hD hS hA (fun _ => rfl) (by decide) (by decide) (by first | decide | (simp only [componentBytes]; omega)) (by first | exact Nat.le_of_ble_eq_true rfl | (simp only [headSpec]; omega)) (by first | exact Nat.le_of_ble_eq_true rfl | (simp only [headSpec]; omega)) dd_M_init_87 (fun q_21 cA_22 H hK hP hD hS => ?_)
  obtain rfl : cI = cA_22 := ks_eqI hK 1 3 rfl rfl
  have hK : va_K (dC, dI) vcl [(cB, .byte), (cI, .int), (cJ, .long)] s := hK.sub [0, 1, 2] rfl
  have hP : va_P (dC, dI) vcl [(h0, .inr (1, [.int 0, .int 0, .int 0, .int 0, .int 0, .ref q_1, .int 0, .ref q_3, .ref q_5, .ref q_7, .ref q_9, .ref q_11, .int 0, .int 0, .int 0, .ref q_13, .int 0, .ref q_15, .ref q_17, .ref q_19, .null, .null, .null, .int 0, .null, .int 0, .int 0, .int 0, .int 0, .null, .int 0, .int 0, .int 0])), (q_1, .inl (cI, 8, .inl (fun _ => 0))), (q_3, .inl (cI, 16, .inl (fun _ => 0))), (q_5, .inl (cI, 16, .inl (fun _ => 0))), (q_7, .inl (cJ, 16, .inr (.inl (fun _ => 0)))), (q_9, .inl (cI, 16, .inl (fun _ => 0))), (q_11, .inl (cI, 16, .inl (fun _ => 0))), (q_13, .inl (cI, 8, .inl (fun _ => 0))), (q_15, .inl (cI, 16, .inl (fun _ => 0))), (q_17, .inl (cI, 16, .inl (fun _ => 0))), (q_19, .inl (cJ, 16, .inr (.inl (fun _ => 0)))), (q_21, .inl (cI, 16, .inl (fun _ => 0)))] H := hP
  have hD : va_D A [(h0, .inr (1, [.int 0, .int 0, .int 0, .int 0, .int 0, .ref q_1, .int 0, .ref q_3, .ref q_5, .ref q_7, .ref q_9, .ref q_11, .int 0, .int 0, .int 0, .ref q_13, .int 0, .ref q_15, .ref q_17, .ref q_19, .null, .null, .null, .int 0, .null, .int 0, .int 0, .int 0, .int 0, .null, .int 0, .int 0, .int 0])), (q_1, .inl (cI, 8, .inl (fun _ => 0))), (q_3, .inl (cI, 16, .inl (fun _ => 0))), (q_5, .inl (cI, 16, .inl (fun _ => 0))), (q_7, .inl (cJ, 16, .inr (.inl (fun _ => 0)))), (q_9, .inl (cI, 16, .inl (fun _ => 0))), (q_11, .inl (cI, 16, .inl (fun _ => 0))), (q_13, .inl (cI, 8, .inl (fun _ => 0))), (q_15, .inl (cI, 16, .inl (fun _ => 0))), (q_17, .inl (cI, 16, .inl (fun _ => 0))), (q_19, .inl (cJ, 16, .inr (.inl (fun _ => 0)))), (q_21, .inl (cI, 16, .inl (fun _ => 0)))] := hD
  refine W.widen (k := 11) (n := 160) (by first | exact Nat.le_refl _ | omega) (by first | exact Nat.le_refl _ | omega) ?_
  refine va_putF (D := (dC, dI)) (ci := 1) (v := .ref q_21) (ty := .array .int) (C := RR_M) (T := TT_M) (N := 33) hx hb hw hh_M ty_M ty_M_ok nm_M hown hK hP hD hS 0 rfl rfl 20 (by decide) (hw _ qq_599) (fun _ h9 => h9) rfl hin rfl (by decide +kernel) rfl rfl (Nat.le_of_ble_eq_true rfl) dd_M_init_89 (fun H locs hP hD hS => ?_)
  have hP : va_P (dC, dI) vcl [(h0, .inr (1, [.int 0, .int 0, .int 0, .int 0, .int 0, .ref q_1, .int 0, .ref q_3, .ref q_5, .ref q_7, .ref q_9, .ref q_11, .int 0, .int 0, .int 0, .ref q_13, .int 0, .ref q_15, .ref q_17, .ref q_19, .ref q_21, .null, .null, .int 0, .null, .int 0, .int 0, .int 0, .int 0, .null, .int 0, .int 0, .int 0])), (q_1, .inl (cI, 8, .inl (fun _ => 0))), (q_3, .inl (cI, 16, .inl (fun _ => 0))), (q_5, .inl (cI, 16, .inl (fun _ => 0))), (q_7, .inl (cJ, 16, .inr (.inl (fun _ => 0)))), (q_9, .inl (cI, 16, .inl (fun _ => 0))), (q_11, .inl (cI, 16, .inl (fun _ => 0))), (q_13, .inl (cI, 8, .inl (fun _ => 0))), (q_15, .inl (cI, 16, .inl (fun _ => 0))), (q_17, .inl (cI, 16, .inl (fun _ => 0))), (q_19, .inl (cJ, 16, .inr (.inl (fun _ => 0)))), (q_21, .inl (cI, 16, .inl (fun _ => 0)))] H := hP
  have hD : va_D A [(h0, .inr (1, [.int 0, .int 0, .int 0, .int 0, .int 0, .ref q_1, .int 0, .ref q_3, .ref q_5, .ref q_7, .ref q_9, .ref q_11, .int 0, .int 0, .int 0, .ref q_13, .int 0, .ref q_15, .ref q_17, .ref q_19, .ref q_21, .null, .null, .int 0, .null, .int 0, .int 0, .int 0, .int 0, .null, .int 0, .int 0, .int 0])), (q_1, .inl (cI, 8, .inl (fun _ => 0))), (q_3, .inl (cI, 16, .inl (fun _ => 0))), (q_5, .inl (cI, 16, .inl (fun _ => 0))), (q_7, .inl (cJ, 16, .inr (.inl (fun _ => 0)))), (q_9, .inl (cI, 16, .inl (fun _ => 0))), (q_11, .inl (cI, 16, .inl (fun _ => 0))), (q_13, .inl (cI, 8, .inl (fun _ => 0))), (q_15, .inl (cI, 16, .inl (fun _ => 0))), (q_17, .inl (cI, 16, .inl (fun _ => 0))), (q_19, .inl (cJ, 16, .inr (.inl (fun _ => 0)))), (q_21, .inl (cI, 16, .inl (fun _ => 0)))] := hD
  refine lv_aload_n hx hb dd_M_init_92 rfl (lv_at hl 0 rfl) ?_
  refine lv_bipush (v := 16) hx hb dd_M_init_93 (by decide) ?_
  refine va_newa (atype := .int) (ty := .int) (N' := 16) (a0 := (16, .inl (fun _ => 0))) hx hb (hw _ qq_120) rfl hK hP hD hS hA (fun _ => rfl) (by decide) (by decide) (by first | decide | (simp only [componentBytes]; omega)) (by first | exact Nat.le_of_ble_eq_true rfl | (simp only [headSpec]; omega)) (by first | exact Nat.le_of_ble_eq_true rfl | (simp only [headSpec]; omega)) dd_M_init_95 (fun q_23 cA_24 H hK hP hD hS => ?_)
  obtain rfl : cI = cA_24 := ks_eqI hK 1 3 rfl rfl
  have hK : va_K (dC, dI) vcl [(cB, .byte), (cI, .int), (cJ, .long)] s := hK.sub [0, 1, 2] rfl
  have hP : va_P (dC, dI) vcl [(h0, .inr (1, [.int 0, .int 0, .int 0, .int 0, .int 0, .ref q_1, .int 0, .ref q_3, .ref q_5, .ref q_7, .ref q_9, .ref q_11, .int 0, .int 0, .int 0, .ref q_13, .int 0, .ref q_15, .ref q_17, .ref q_19, .ref q_21, .null, .null, .int 0, .null, .int 0, .int 0, .int 0, .int 0, .null, .int 0, .int 0, .int 0])), (q_1, .inl (cI, 8, .inl (fun _ => 0))), (q_3, .inl (cI, 16, .inl (fun _ => 0))), (q_5, .inl (cI, 16, .inl (fun _ => 0))), (q_7, .inl (cJ, 16, .inr (.inl (fun _ => 0)))), (q_9, .inl (cI, 16, .inl (fun _ => 0))), (q_11, .inl (cI, 16, .inl (fun _ => 0))), (q_13, .inl (cI, 8, .inl (fun _ => 0))), (q_15, .inl (cI, 16, .inl (fun _ => 0))), (q_17, .inl (cI, 16, .inl (fun _ => 0))), (q_19, .inl (cJ, 16, .inr (.inl (fun _ => 0)))), (q_21, .inl (cI, 16, .inl (fun _ => 0))), (q_23, .inl (cI, 16, .inl (fun _ => 0)))] H := hP
  have hD : va_D A [(h0, .inr (1, [.int 0, .int 0, .int 0, .int 0, .int 0, .ref q_1, .int 0, .ref q_3, .ref q_5, .ref q_7, .ref q_9, .ref q_11, .int 0, .int 0, .int 0, .ref q_13, .int 0, .ref q_15, .ref q_17, .ref q_19, .ref q_21, .null, .null, .int 0, .null, .int 0, .int 0, .int 0, .int 0, .null, .int 0, .int 0, .int 0])), (q_1, .inl (cI, 8, .inl (fun _ => 0))), (q_3, .inl (cI, 16, .inl (fun _ => 0))), (q_5, .inl (cI, 16, .inl (fun _ => 0))), (q_7, .inl (cJ, 16, .inr (.inl (fun _ => 0)))), (q_9, .inl (cI, 16, .inl (fun _ => 0))), (q_11, .inl (cI, 16, .inl (fun _ => 0))), (q_13, .inl (cI, 8, .inl (fun _ => 0))), (q_15, .inl (cI, 16, .inl (fun _ => 0))), (q_17, .inl (cI, 16, .inl (fun _ => 0))), (q_19, .inl (cJ, 16, .inr (.inl (fun _ => 0)))), (q_21, .inl (cI, 16, .inl (fun _ => 0))), (q_23, .inl (cI, 16, .inl (fun _ => 0)))] := hD
  refine W.widen (k := 12) (n := 176) (by first | exact Nat.le_refl _ | omega) (by first | exact Nat.le_refl _ | omega) ?_
  refine va_putF (D := (dC, dI)) (ci := 1) (v := .ref q_23) (ty := .array .int) (C := RR_M) (T := TT_M) (N := 33) hx hb hw hh_M ty_M ty_M_ok nm_M hown hK hP hD hS 0 rfl rfl 21 (by decide) (hw _ qq_600) (fun _ h9 => h9) rfl hin rfl (by decide +kernel) rfl rfl (Nat.le_of_ble_eq_true rfl) dd_M_init_97 (fun H locs hP hD hS => ?_)
  have hP : va_P (dC, dI) vcl [(h0, .inr (1, [.int 0, .int 0, .int 0, .int 0, .int 0, .ref q_1, .int 0, .ref q_3, .ref q_5, .ref q_7, .ref q_9, .ref q_11, .int 0, .int 0, .int 0, .ref q_13, .int 0, .ref q_15, .ref q_17, .ref q_19, .ref q_21, .ref q_23, .null, .int 0, .null, .int 0, .int 0, .int 0, .int 0, .null, .int 0, .int 0, .int 0])), (q_1, .inl (cI, 8, .inl (fun _ => 0))), (q_3, .inl (cI, 16, .inl (fun _ => 0))), (q_5, .inl (cI, 16, .inl (fun _ => 0))), (q_7, .inl (cJ, 16, .inr (.inl (fun _ => 0)))), (q_9, .inl (cI, 16, .inl (fun _ => 0))), (q_11, .inl (cI, 16, .inl (fun _ => 0))), (q_13, .inl (cI, 8, .inl (fun _ => 0))), (q_15, .inl (cI, 16, .inl (fun _ => 0))), (q_17, .inl (cI, 16, .inl (fun _ => 0))), (q_19, .inl (cJ, 16, .inr (.inl (fun _ => 0)))), (q_21, .inl (cI, 16, .inl (fun _ => 0))), (q_23, .inl (cI, 16, .inl (fun _ => 0)))] H := hP
  have hD : va_D A [(h0, .inr (1, [.int 0, .int 0, .int 0, .int 0, .int 0, .ref q_1, .int 0, .ref q_3, .ref q_5, .ref q_7, .ref q_9, .ref q_11, .int 0, .int 0, .int 0, .ref q_13, .int 0, .ref q_15, .ref q_17, .ref q_19, .ref q_21, .ref q_23, .null, .int 0, .null, .int 0, .int 0, .int 0, .int 0, .null, .int 0, .int 0, .int 0])), (q_1, .inl (cI, 8, .inl (fun _ => 0))), (q_3, .inl (cI, 16, .inl (fun _ => 0))), (q_5, .inl (cI, 16, .inl (fun _ => 0))), (q_7, .inl (cJ, 16, .inr (.inl (fun _ => 0)))), (q_9, .inl (cI, 16, .inl (fun _ => 0))), (q_11, .inl (cI, 16, .inl (fun _ => 0))), (q_13, .inl (cI, 8, .inl (fun _ => 0))), (q_15, .inl (cI, 16, .inl (fun _ => 0))), (q_17, .inl (cI, 16, .inl (fun _ => 0))), (q_19, .inl (cJ, 16, .inr (.inl (fun _ => 0)))), (q_21, .inl (cI, 16, .inl (fun _ => 0))), (q_23, .inl (cI, 16, .inl (fun _ => 0)))] := hD
  refine lv_aload_n hx hb dd_M_init_100 rfl (lv_at hl 0 rfl) ?_
  refine lv_sipush (v := 4096) hx hb dd_M_init_101 (by decide) ?_
  refine va_newa (atype := .byte) (ty := .byte) (N' := 4096) (a0 := (4096, .inl (fun _ => 0))) hx hb (hw _ qq_41) rfl hK hP hD hS hA (fun _ => rfl) (by decide) (by decide) (by first | decide | (simp only [componentBytes]; omega)) (by first | exact Nat.le_of_ble_eq_true rfl | (simp only [headSpec]; omega)) (by first | exact Nat.le_of_ble_eq_true rfl | (simp only [headSpec]; omega)) dd_M_init_104 (fun q_25 cA_26 H hK hP hD hS => ?_)
  obtain rfl : cB = cA_26 := ks_eqB hK 0 3 rfl rfl
  have hK : va_K (dC, dI) vcl [(cB, .byte), (cI, .int), (cJ, .long)] s := hK.sub [0, 1, 2] rfl
  have hP : va_P (dC, dI) vcl [(h0, .inr (1, [.int 0, .int 0, .int 0, .int 0, .int 0, .ref q_1, .int 0, .ref q_3, .ref q_5, .ref q_7, .ref q_9, .ref q_11, .int 0, .int 0, .int 0, .ref q_13, .int 0, .ref q_15, .ref q_17, .ref q_19, .ref q_21, .ref q_23, .null, .int 0, .null, .int 0, .int 0, .int 0, .int 0, .null, .int 0, .int 0, .int 0])), (q_1, .inl (cI, 8, .inl (fun _ => 0))), (q_3, .inl (cI, 16, .inl (fun _ => 0))), (q_5, .inl (cI, 16, .inl (fun _ => 0))), (q_7, .inl (cJ, 16, .inr (.inl (fun _ => 0)))), (q_9, .inl (cI, 16, .inl (fun _ => 0))), (q_11, .inl (cI, 16, .inl (fun _ => 0))), (q_13, .inl (cI, 8, .inl (fun _ => 0))), (q_15, .inl (cI, 16, .inl (fun _ => 0))), (q_17, .inl (cI, 16, .inl (fun _ => 0))), (q_19, .inl (cJ, 16, .inr (.inl (fun _ => 0)))), (q_21, .inl (cI, 16, .inl (fun _ => 0))), (q_23, .inl (cI, 16, .inl (fun _ => 0))), (q_25, .inl (cB, 4096, .inl (fun _ => 0)))] H := hP
  have hD : va_D A [(h0, .inr (1, [.int 0, .int 0, .int 0, .int 0, .int 0, .ref q_1, .int 0, .ref q_3, .ref q_5, .ref q_7, .ref q_9, .ref q_11, .int 0, .int 0, .int 0, .ref q_13, .int 0, .ref q_15, .ref q_17, .ref q_19, .ref q_21, .ref q_23, .null, .int 0, .null, .int 0, .int 0, .int 0, .int 0, .null, .int 0, .int 0, .int 0])), (q_1, .inl (cI, 8, .inl (fun _ => 0))), (q_3, .inl (cI, 16, .inl (fun _ => 0))), (q_5, .inl (cI, 16, .inl (fun _ => 0))), (q_7, .inl (cJ, 16, .inr (.inl (fun _ => 0)))), (q_9, .inl (cI, 16, .inl (fun _ => 0))), (q_11, .inl (cI, 16, .inl (fun _ => 0))), (q_13, .inl (cI, 8, .inl (fun _ => 0))), (q_15, .inl (cI, 16, .inl (fun _ => 0))), (q_17, .inl (cI, 16, .inl (fun _ => 0))), (q_19, .inl (cJ, 16, .inr (.inl (fun _ => 0)))), (q_21, .inl (cI, 16, .inl (fun _ => 0))), (q_23, .inl (cI, 16, .inl (fun _ => 0))), (q_25, .inl (cB, 4096, .inl (fun _ => 0)))] := hD
  refine W.widen (k := 13) (n := 4272) (by first | exact Nat.le_refl _ | omega) (by first | exact Nat.le_refl _ | omega) ?_
  refine va_putF (D := (dC, dI)) (ci := 1) (v := .ref q_25) (ty := .array .byte) (C := RR_M) (T := TT_M) (N := 33) hx hb hw hh_M ty_M ty_M_ok nm_M hown hK hP hD hS 0 rfl rfl 22 (by decide) (hw _ qq_601) (fun _ h9 => h9) rfl hin rfl (by decide +kernel) rfl rfl (Nat.le_of_ble_eq_true rfl) dd_M_init_106 (fun H locs hP hD hS => ?_)
  have hP : va_P (dC, dI) vcl [(h0, .inr (1, [.int 0, .int 0, .int 0, .int 0, .int 0, .ref q_1, .int 0, .ref q_3, .ref q_5, .ref q_7, .ref q_9, .ref q_11, .int 0, .int 0, .int 0, .ref q_13, .int 0, .ref q_15, .ref q_17, .ref q_19, .ref q_21, .ref q_23, .ref q_25, .int 0, .null, .int 0, .int 0, .int 0, .int 0, .null, .int 0, .int 0, .int 0])), (q_1, .inl (cI, 8, .inl (fun _ => 0))), (q_3, .inl (cI, 16, .inl (fun _ => 0))), (q_5, .inl (cI, 16, .inl (fun _ => 0))), (q_7, .inl (cJ, 16, .inr (.inl (fun _ => 0)))), (q_9, .inl (cI, 16, .inl (fun _ => 0))), (q_11, .inl (cI, 16, .inl (fun _ => 0))), (q_13, .inl (cI, 8, .inl (fun _ => 0))), (q_15, .inl (cI, 16, .inl (fun _ => 0))), (q_17, .inl (cI, 16, .inl (fun _ => 0))), (q_19, .inl (cJ, 16, .inr (.inl (fun _ => 0)))), (q_21, .inl (cI, 16, .inl (fun _ => 0))), (q_23, .inl (cI, 16, .inl (fun _ => 0))), (q_25, .inl (cB, 4096, .inl (fun _ => 0)))] H := hP
  have hD : va_D A [(h0, .inr (1, [.int 0, .int 0, .int 0, .int 0, .int 0, .ref q_1, .int 0, .ref q_3, .ref q_5, .ref q_7, .ref q_9, .ref q_11, .int 0, .int 0, .int 0, .ref q_13, .int 0, .ref q_15, .ref q_17, .ref q_19, .ref q_21, .ref q_23, .ref q_25, .int 0, .null, .int 0, .int 0, .int 0, .int 0, .null, .int 0, .int 0, .int 0])), (q_1, .inl (cI, 8, .inl (fun _ => 0))), (q_3, .inl (cI, 16, .inl (fun _ => 0))), (q_5, .inl (cI, 16, .inl (fun _ => 0))), (q_7, .inl (cJ, 16, .inr (.inl (fun _ => 0)))), (q_9, .inl (cI, 16, .inl (fun _ => 0))), (q_11, .inl (cI, 16, .inl (fun _ => 0))), (q_13, .inl (cI, 8, .inl (fun _ => 0))), (q_15, .inl (cI, 16, .inl (fun _ => 0))), (q_17, .inl (cI, 16, .inl (fun _ => 0))), (q_19, .inl (cJ, 16, .inr (.inl (fun _ => 0)))), (q_21, .inl (cI, 16, .inl (fun _ => 0))), (q_23, .inl (cI, 16, .inl (fun _ => 0))), (q_25, .inl (cB, 4096, .inl (fun _ => 0)))] := hD
  refine lv_aload_n hx hb dd_M_init_109 rfl (lv_at hl 0 rfl) ?_
  refine lv_sipush (v := 4096) hx hb dd_M_init_110 (by decide) ?_
  refine va_newa (atype := .byte) (ty := .byte) (N' := 4096) (a0 := (4096, .inl (fun _ => 0))) hx hb (hw _ qq_41) rfl hK hP hD hS hA (fun _ => rfl) (by decide) (by decide) (by first | decide | (simp only [componentBytes]; omega)) (by first | exact Nat.le_of_ble_eq_true rfl | (simp only [headSpec]; omega)) (by first | exact Nat.le_of_ble_eq_true rfl | (simp only [headSpec]; omega)) dd_M_init_113 (fun q_27 cA_28 H hK hP hD hS => ?_)
  obtain rfl : cB = cA_28 := ks_eqB hK 0 3 rfl rfl
  have hK : va_K (dC, dI) vcl [(cB, .byte), (cI, .int), (cJ, .long)] s := hK.sub [0, 1, 2] rfl
  have hP : va_P (dC, dI) vcl [(h0, .inr (1, [.int 0, .int 0, .int 0, .int 0, .int 0, .ref q_1, .int 0, .ref q_3, .ref q_5, .ref q_7, .ref q_9, .ref q_11, .int 0, .int 0, .int 0, .ref q_13, .int 0, .ref q_15, .ref q_17, .ref q_19, .ref q_21, .ref q_23, .ref q_25, .int 0, .null, .int 0, .int 0, .int 0, .int 0, .null, .int 0, .int 0, .int 0])), (q_1, .inl (cI, 8, .inl (fun _ => 0))), (q_3, .inl (cI, 16, .inl (fun _ => 0))), (q_5, .inl (cI, 16, .inl (fun _ => 0))), (q_7, .inl (cJ, 16, .inr (.inl (fun _ => 0)))), (q_9, .inl (cI, 16, .inl (fun _ => 0))), (q_11, .inl (cI, 16, .inl (fun _ => 0))), (q_13, .inl (cI, 8, .inl (fun _ => 0))), (q_15, .inl (cI, 16, .inl (fun _ => 0))), (q_17, .inl (cI, 16, .inl (fun _ => 0))), (q_19, .inl (cJ, 16, .inr (.inl (fun _ => 0)))), (q_21, .inl (cI, 16, .inl (fun _ => 0))), (q_23, .inl (cI, 16, .inl (fun _ => 0))), (q_25, .inl (cB, 4096, .inl (fun _ => 0))), (q_27, .inl (cB, 4096, .inl (fun _ => 0)))] H := hP
  have hD : va_D A [(h0, .inr (1, [.int 0, .int 0, .int 0, .int 0, .int 0, .ref q_1, .int 0, .ref q_3, .ref q_5, .ref q_7, .ref q_9, .ref q_11, .int 0, .int 0, .int 0, .ref q_13, .int 0, .ref q_15, .ref q_17, .ref q_19, .ref q_21, .ref q_23, .ref q_25, .int 0, .null, .int 0, .int 0, .int 0, .int 0, .null, .int 0, .int 0, .int 0])), (q_1, .inl (cI, 8, .inl (fun _ => 0))), (q_3, .inl (cI, 16, .inl (fun _ => 0))), (q_5, .inl (cI, 16, .inl (fun _ => 0))), (q_7, .inl (cJ, 16, .inr (.inl (fun _ => 0)))), (q_9, .inl (cI, 16, .inl (fun _ => 0))), (q_11, .inl (cI, 16, .inl (fun _ => 0))), (q_13, .inl (cI, 8, .inl (fun _ => 0))), (q_15, .inl (cI, 16, .inl (fun _ => 0))), (q_17, .inl (cI, 16, .inl (fun _ => 0))), (q_19, .inl (cJ, 16, .inr (.inl (fun _ => 0)))), (q_21, .inl (cI, 16, .inl (fun _ => 0))), (q_23, .inl (cI, 16, .inl (fun _ => 0))), (q_25, .inl (cB, 4096, .inl (fun _ => 0))), (q_27, .inl (cB, 4096, .inl (fun _ => 0)))] := hD
  refine W.widen (k := 14) (n := 8368) (by first | exact Nat.le_refl _ | omega) (by first | exact Nat.le_refl _ | omega) ?_
  refine va_putF (D := (dC, dI)) (ci := 1) (v := .ref q_27) (ty := .array .byte) (C := RR_M) (T := TT_M) (N := 33) hx hb hw hh_M ty_M ty_M_ok nm_M hown hK hP hD hS 0 rfl rfl 24 (by decide) (hw _ qq_603) (fun _ h9 => h9) rfl hin rfl (by decide +kernel) rfl rfl (Nat.le_of_ble_eq_true rfl) dd_M_init_115 (fun H locs hP hD hS => ?_)
  have hP : va_P (dC, dI) vcl [(h0, .inr (1, [.int 0, .int 0, .int 0, .int 0, .int 0, .ref q_1, .int 0, .ref q_3, .ref q_5, .ref q_7, .ref q_9, .ref q_11, .int 0, .int 0, .int 0, .ref q_13, .int 0, .ref q_15, .ref q_17, .ref q_19, .ref q_21, .ref q_23, .ref q_25, .int 0, .ref q_27, .int 0, .int 0, .int 0, .int 0, .null, .int 0, .int 0, .int 0])), (q_1, .inl (cI, 8, .inl (fun _ => 0))), (q_3, .inl (cI, 16, .inl (fun _ => 0))), (q_5, .inl (cI, 16, .inl (fun _ => 0))), (q_7, .inl (cJ, 16, .inr (.inl (fun _ => 0)))), (q_9, .inl (cI, 16, .inl (fun _ => 0))), (q_11, .inl (cI, 16, .inl (fun _ => 0))), (q_13, .inl (cI, 8, .inl (fun _ => 0))), (q_15, .inl (cI, 16, .inl (fun _ => 0))), (q_17, .inl (cI, 16, .inl (fun _ => 0))), (q_19, .inl (cJ, 16, .inr (.inl (fun _ => 0)))), (q_21, .inl (cI, 16, .inl (fun _ => 0))), (q_23, .inl (cI, 16, .inl (fun _ => 0))), (q_25, .inl (cB, 4096, .inl (fun _ => 0))), (q_27, .inl (cB, 4096, .inl (fun _ => 0)))] H := hP
  have hD : va_D A [(h0, .inr (1, [.int 0, .int 0, .int 0, .int 0, .int 0, .ref q_1, .int 0, .ref q_3, .ref q_5, .ref q_7, .ref q_9, .ref q_11, .int 0, .int 0, .int 0, .ref q_13, .int 0, .ref q_15, .ref q_17, .ref q_19, .ref q_21, .ref q_23, .ref q_25, .int 0, .ref q_27, .int 0, .int 0, .int 0, .int 0, .null, .int 0, .int 0, .int 0])), (q_1, .inl (cI, 8, .inl (fun _ => 0))), (q_3, .inl (cI, 16, .inl (fun _ => 0))), (q_5, .inl (cI, 16, .inl (fun _ => 0))), (q_7, .inl (cJ, 16, .inr (.inl (fun _ => 0)))), (q_9, .inl (cI, 16, .inl (fun _ => 0))), (q_11, .inl (cI, 16, .inl (fun _ => 0))), (q_13, .inl (cI, 8, .inl (fun _ => 0))), (q_15, .inl (cI, 16, .inl (fun _ => 0))), (q_17, .inl (cI, 16, .inl (fun _ => 0))), (q_19, .inl (cJ, 16, .inr (.inl (fun _ => 0)))), (q_21, .inl (cI, 16, .inl (fun _ => 0))), (q_23, .inl (cI, 16, .inl (fun _ => 0))), (q_25, .inl (cB, 4096, .inl (fun _ => 0))), (q_27, .inl (cB, 4096, .inl (fun _ => 0)))] := hD
  refine lv_aload_n hx hb dd_M_init_118 rfl (lv_at hl 0 rfl) ?_
  refine lv_iconst (v := -1) hx hb dd_M_init_119 (by decide) ?_
  refine va_put (D := (dC, dI)) (ci := 1) (v := .int (-1)) (ty := .int) (C := RR_M) (T := TT_M) (N := 33) hx hb hw hh_M ty_M ty_M_ok nm_M hown hK hP hD hS 0 rfl rfl 28 (by decide) (hw _ qq_607) (fun _ h9 => h9) rfl (by decide +kernel) rfl rfl (Nat.le_of_ble_eq_true rfl) dd_M_init_120 (fun H locs hP hD hS => ?_)
  have hP : va_P (dC, dI) vcl [(h0, .inr (1, [.int 0, .int 0, .int 0, .int 0, .int 0, .ref q_1, .int 0, .ref q_3, .ref q_5, .ref q_7, .ref q_9, .ref q_11, .int 0, .int 0, .int 0, .ref q_13, .int 0, .ref q_15, .ref q_17, .ref q_19, .ref q_21, .ref q_23, .ref q_25, .int 0, .ref q_27, .int 0, .int 0, .int 0, .int (-1), .null, .int 0, .int 0, .int 0])), (q_1, .inl (cI, 8, .inl (fun _ => 0))), (q_3, .inl (cI, 16, .inl (fun _ => 0))), (q_5, .inl (cI, 16, .inl (fun _ => 0))), (q_7, .inl (cJ, 16, .inr (.inl (fun _ => 0)))), (q_9, .inl (cI, 16, .inl (fun _ => 0))), (q_11, .inl (cI, 16, .inl (fun _ => 0))), (q_13, .inl (cI, 8, .inl (fun _ => 0))), (q_15, .inl (cI, 16, .inl (fun _ => 0))), (q_17, .inl (cI, 16, .inl (fun _ => 0))), (q_19, .inl (cJ, 16, .inr (.inl (fun _ => 0)))), (q_21, .inl (cI, 16, .inl (fun _ => 0))), (q_23, .inl (cI, 16, .inl (fun _ => 0))), (q_25, .inl (cB, 4096, .inl (fun _ => 0))), (q_27, .inl (cB, 4096, .inl (fun _ => 0)))] H := hP
  have hD : va_D A [(h0, .inr (1, [.int 0, .int 0, .int 0, .int 0, .int 0, .ref q_1, .int 0, .ref q_3, .ref q_5, .ref q_7, .ref q_9, .ref q_11, .int 0, .int 0, .int 0, .ref q_13, .int 0, .ref q_15, .ref q_17, .ref q_19, .ref q_21, .ref q_23, .ref q_25, .int 0, .ref q_27, .int 0, .int 0, .int 0, .int (-1), .null, .int 0, .int 0, .int 0])), (q_1, .inl (cI, 8, .inl (fun _ => 0))), (q_3, .inl (cI, 16, .inl (fun _ => 0))), (q_5, .inl (cI, 16, .inl (fun _ => 0))), (q_7, .inl (cJ, 16, .inr (.inl (fun _ => 0)))), (q_9, .inl (cI, 16, .inl (fun _ => 0))), (q_11, .inl (cI, 16, .inl (fun _ => 0))), (q_13, .inl (cI, 8, .inl (fun _ => 0))), (q_15, .inl (cI, 16, .inl (fun _ => 0))), (q_17, .inl (cI, 16, .inl (fun _ => 0))), (q_19, .inl (cJ, 16, .inr (.inl (fun _ => 0)))), (q_21, .inl (cI, 16, .inl (fun _ => 0))), (q_23, .inl (cI, 16, .inl (fun _ => 0))), (q_25, .inl (cB, 4096, .inl (fun _ => 0))), (q_27, .inl (cB, 4096, .inl (fun _ => 0)))] := hD
  refine lv_aload_n hx hb dd_M_init_123 rfl (lv_at hl 0 rfl) ?_
  refine lv_sipush (v := 1400) hx hb dd_M_init_124 (by decide) ?_
  refine va_newa (atype := .byte) (ty := .byte) (N' := 1400) (a0 := (1400, .inl (fun _ => 0))) hx hb (hw _ qq_41) rfl hK hP hD hS hA (fun _ => rfl) (by decide) (by decide) (by first | decide | (simp only [componentBytes]; omega)) (by first | exact Nat.le_of_ble_eq_true rfl | (simp only [headSpec]; omega)) (by first | exact Nat.le_of_ble_eq_true rfl | (simp only [headSpec]; omega)) dd_M_init_127 (fun q_29 cA_30 H hK hP hD hS => ?_)
  obtain rfl : cB = cA_30 := ks_eqB hK 0 3 rfl rfl
  have hK : va_K (dC, dI) vcl [(cB, .byte), (cI, .int), (cJ, .long)] s := hK.sub [0, 1, 2] rfl
  have hP : va_P (dC, dI) vcl [(h0, .inr (1, [.int 0, .int 0, .int 0, .int 0, .int 0, .ref q_1, .int 0, .ref q_3, .ref q_5, .ref q_7, .ref q_9, .ref q_11, .int 0, .int 0, .int 0, .ref q_13, .int 0, .ref q_15, .ref q_17, .ref q_19, .ref q_21, .ref q_23, .ref q_25, .int 0, .ref q_27, .int 0, .int 0, .int 0, .int (-1), .null, .int 0, .int 0, .int 0])), (q_1, .inl (cI, 8, .inl (fun _ => 0))), (q_3, .inl (cI, 16, .inl (fun _ => 0))), (q_5, .inl (cI, 16, .inl (fun _ => 0))), (q_7, .inl (cJ, 16, .inr (.inl (fun _ => 0)))), (q_9, .inl (cI, 16, .inl (fun _ => 0))), (q_11, .inl (cI, 16, .inl (fun _ => 0))), (q_13, .inl (cI, 8, .inl (fun _ => 0))), (q_15, .inl (cI, 16, .inl (fun _ => 0))), (q_17, .inl (cI, 16, .inl (fun _ => 0))), (q_19, .inl (cJ, 16, .inr (.inl (fun _ => 0)))), (q_21, .inl (cI, 16, .inl (fun _ => 0))), (q_23, .inl (cI, 16, .inl (fun _ => 0))), (q_25, .inl (cB, 4096, .inl (fun _ => 0))), (q_27, .inl (cB, 4096, .inl (fun _ => 0))), (q_29, .inl (cB, 1400, .inl (fun _ => 0)))] H := hP
  have hD : va_D A [(h0, .inr (1, [.int 0, .int 0, .int 0, .int 0, .int 0, .ref q_1, .int 0, .ref q_3, .ref q_5, .ref q_7, .ref q_9, .ref q_11, .int 0, .int 0, .int 0, .ref q_13, .int 0, .ref q_15, .ref q_17, .ref q_19, .ref q_21, .ref q_23, .ref q_25, .int 0, .ref q_27, .int 0, .int 0, .int 0, .int (-1), .null, .int 0, .int 0, .int 0])), (q_1, .inl (cI, 8, .inl (fun _ => 0))), (q_3, .inl (cI, 16, .inl (fun _ => 0))), (q_5, .inl (cI, 16, .inl (fun _ => 0))), (q_7, .inl (cJ, 16, .inr (.inl (fun _ => 0)))), (q_9, .inl (cI, 16, .inl (fun _ => 0))), (q_11, .inl (cI, 16, .inl (fun _ => 0))), (q_13, .inl (cI, 8, .inl (fun _ => 0))), (q_15, .inl (cI, 16, .inl (fun _ => 0))), (q_17, .inl (cI, 16, .inl (fun _ => 0))), (q_19, .inl (cJ, 16, .inr (.inl (fun _ => 0)))), (q_21, .inl (cI, 16, .inl (fun _ => 0))), (q_23, .inl (cI, 16, .inl (fun _ => 0))), (q_25, .inl (cB, 4096, .inl (fun _ => 0))), (q_27, .inl (cB, 4096, .inl (fun _ => 0))), (q_29, .inl (cB, 1400, .inl (fun _ => 0)))] := hD
  refine W.widen (k := 15) (n := 9768) (by first | exact Nat.le_refl _ | omega) (by first | exact Nat.le_refl _ | omega) ?_
  refine va_putF (D := (dC, dI)) (ci := 1) (v := .ref q_29) (ty := .array .byte) (C := RR_M) (T := TT_M) (N := 33) hx hb hw hh_M ty_M ty_M_ok nm_M hown hK hP hD hS 0 rfl rfl 29 (by decide) (hw _ qq_608) (fun _ h9 => h9) rfl hin rfl (by decide +kernel) rfl rfl (Nat.le_of_ble_eq_true rfl) dd_M_init_129 (fun H locs hP hD hS => ?_)
  have hP : va_P (dC, dI) vcl [(h0, .inr (1, [.int 0, .int 0, .int 0, .int 0, .int 0, .ref q_1, .int 0, .ref q_3, .ref q_5, .ref q_7, .ref q_9, .ref q_11, .int 0, .int 0, .int 0, .ref q_13, .int 0, .ref q_15, .ref q_17, .ref q_19, .ref q_21, .ref q_23, .ref q_25, .int 0, .ref q_27, .int 0, .int 0, .int 0, .int (-1), .ref q_29, .int 0, .int 0, .int 0])), (q_1, .inl (cI, 8, .inl (fun _ => 0))), (q_3, .inl (cI, 16, .inl (fun _ => 0))), (q_5, .inl (cI, 16, .inl (fun _ => 0))), (q_7, .inl (cJ, 16, .inr (.inl (fun _ => 0)))), (q_9, .inl (cI, 16, .inl (fun _ => 0))), (q_11, .inl (cI, 16, .inl (fun _ => 0))), (q_13, .inl (cI, 8, .inl (fun _ => 0))), (q_15, .inl (cI, 16, .inl (fun _ => 0))), (q_17, .inl (cI, 16, .inl (fun _ => 0))), (q_19, .inl (cJ, 16, .inr (.inl (fun _ => 0)))), (q_21, .inl (cI, 16, .inl (fun _ => 0))), (q_23, .inl (cI, 16, .inl (fun _ => 0))), (q_25, .inl (cB, 4096, .inl (fun _ => 0))), (q_27, .inl (cB, 4096, .inl (fun _ => 0))), (q_29, .inl (cB, 1400, .inl (fun _ => 0)))] H := hP
  have hD : va_D A [(h0, .inr (1, [.int 0, .int 0, .int 0, .int 0, .int 0, .ref q_1, .int 0, .ref q_3, .ref q_5, .ref q_7, .ref q_9, .ref q_11, .int 0, .int 0, .int 0, .ref q_13, .int 0, .ref q_15, .ref q_17, .ref q_19, .ref q_21, .ref q_23, .ref q_25, .int 0, .ref q_27, .int 0, .int 0, .int 0, .int (-1), .ref q_29, .int 0, .int 0, .int 0])), (q_1, .inl (cI, 8, .inl (fun _ => 0))), (q_3, .inl (cI, 16, .inl (fun _ => 0))), (q_5, .inl (cI, 16, .inl (fun _ => 0))), (q_7, .inl (cJ, 16, .inr (.inl (fun _ => 0)))), (q_9, .inl (cI, 16, .inl (fun _ => 0))), (q_11, .inl (cI, 16, .inl (fun _ => 0))), (q_13, .inl (cI, 8, .inl (fun _ => 0))), (q_15, .inl (cI, 16, .inl (fun _ => 0))), (q_17, .inl (cI, 16, .inl (fun _ => 0))), (q_19, .inl (cJ, 16, .inr (.inl (fun _ => 0)))), (q_21, .inl (cI, 16, .inl (fun _ => 0))), (q_23, .inl (cI, 16, .inl (fun _ => 0))), (q_25, .inl (cB, 4096, .inl (fun _ => 0))), (q_27, .inl (cB, 4096, .inl (fun _ => 0))), (q_29, .inl (cB, 1400, .inl (fun _ => 0)))] := hD
  have hP9 := hP.sub (ws' := [(h0, .inr (1, [.int 0, .int 0, .int 0, .int 0, .int 0, .ref q_1, .int 0, .ref q_3, .ref q_5, .ref q_7, .ref q_9, .ref q_11, .int 0, .int 0, .int 0, .ref q_13, .int 0, .ref q_15, .ref q_17, .ref q_19, .ref q_21, .ref q_23, .ref q_25, .int 0, .ref q_27, .int 0, .int 0, .int 0, .int (-1), .ref q_29, .int 0, .int 0, .int 0])), (q_1, .inl (cI, 8, .inl (fun _ => 0))), (q_3, .inl (cI, 16, .inl (fun _ => 0))), (q_5, .inl (cI, 16, .inl (fun _ => 0))), (q_7, .inl (cJ, 16, .inr (.inl (fun _ => 0)))), (q_9, .inl (cI, 16, .inl (fun _ => 0))), (q_11, .inl (cI, 16, .inl (fun _ => 0))), (q_13, .inl (cI, 8, .inl (fun _ => 0))), (q_15, .inl (cI, 16, .inl (fun _ => 0))), (q_17, .inl (cI, 16, .inl (fun _ => 0))), (q_19, .inl (cJ, 16, .inr (.inl (fun _ => 0)))), (q_21, .inl (cI, 16, .inl (fun _ => 0))), (q_23, .inl (cI, 16, .inl (fun _ => 0))), (q_25, .inl (cB, 4096, .inl (fun _ => 0))), (q_27, .inl (cB, 4096, .inl (fun _ => 0))), (q_29, .inl (cB, 1400, .inl (fun _ => 0)))]) [0, 1, 2, 3, 4, 5, 6, 7, 8, 9, 10, 11, 12, 13, 14, 15] rfl
  have hD9 := hD.sub (ws' := [(h0, .inr (1, [.int 0, .int 0, .int 0, .int 0, .int 0, .ref q_1, .int 0, .ref q_3, .ref q_5, .ref q_7, .ref q_9, .ref q_11, .int 0, .int 0, .int 0, .ref q_13, .int 0, .ref q_15, .ref q_17, .ref q_19, .ref q_21, .ref q_23, .ref q_25, .int 0, .ref q_27, .int 0, .int 0, .int 0, .int (-1), .ref q_29, .int 0, .int 0, .int 0])), (q_1, .inl (cI, 8, .inl (fun _ => 0))), (q_3, .inl (cI, 16, .inl (fun _ => 0))), (q_5, .inl (cI, 16, .inl (fun _ => 0))), (q_7, .inl (cJ, 16, .inr (.inl (fun _ => 0)))), (q_9, .inl (cI, 16, .inl (fun _ => 0))), (q_11, .inl (cI, 16, .inl (fun _ => 0))), (q_13, .inl (cI, 8, .inl (fun _ => 0))), (q_15, .inl (cI, 16, .inl (fun _ => 0))), (q_17, .inl (cI, 16, .inl (fun _ => 0))), (q_19, .inl (cJ, 16, .inr (.inl (fun _ => 0)))), (q_21, .inl (cI, 16, .inl (fun _ => 0))), (q_23, .inl (cI, 16, .inl (fun _ => 0))), (q_25, .inl (cB, 4096, .inl (fun _ => 0))), (q_27, .inl (cB, 4096, .inl (fun _ => 0))), (q_29, .inl (cB, 1400, .inl (fun _ => 0)))]) [0, 1, 2, 3, 4, 5, 6, 7, 8, 9, 10, 11, 12, 13, 14, 15] (by decide) rfl
  refine W.widen (k := 15) (n := 9768) (by first | exact Nat.le_refl _ | omega) (by first | exact Nat.le_refl _ | omega) ?_
  exact W.vret hx hb hr (fun t ht hW => ⟨⟨(fun j => match j with | 0 => q_1 | 1 => q_3 | 2 => q_5 | 3 => q_7 | 4 => q_9 | 5 => q_11 | 6 => q_13 | 7 => q_15 | 8 => q_17 | 9 => q_19 | 10 => q_21 | 11 => q_23 | 12 => q_25 | 13 => q_27 | _ => q_29), rfl, trivial, by rw [ht]; exact hP9, va_K.moved hW.alike hK, hD9⟩, hS.F ht⟩) hS.2.2 dd_M_init_132
end
section
/-! ===== the claim is false: what the constructors alone make is more than its slots ===== -/
def R_law : String := "ChangeCodecLaw"
def lw_P (b : Addr) (xs : List Int32) (args : Array Value) (s : State) : Prop := args = #[.ref b] ∧ s.IntsAt b xs ∧ xs.length ≤ 3584 ∧ (Jvm.Cond.and given_1 narrow_1).before args s = true
def lw_At (p : Program) (s : State) (m : MethodId) (meth : Method) (c : Code) (b L : Nat) (xs : Nat → Int32) : Prop :=
  p.tables.exec = Jvm.exec ∧ c.code = code ∧ meth.sig.returnType = ret ∧ c.maxLocals = 8 ∧ s.vm.findClass R_law = some m.cls ∧ (∀ w ∈ lw_tbl, w.before #[Value.ref b] s = true) ∧ va_X b L xs s s.heap ∧ b < s.heap.size ∧ meth.locks = false ∧ (Jvm.Cond.and given_1 narrow_1).before #[Value.ref b] s = true
def rf_R : Room := { frames := 10, cells := 1024, slots := 20000, locals := 382 }
/-- the slots of the cells that are new since n -/
def rf_new (n : Nat) (H : Heap) : Nat := ((H.toList.drop n).map (fun c => c.slots.size)).sum
def rf_sz (q : Nat × va_E) : Nat := match q.2 with
  | .inl a => a.2.1
  | .inr _ => 0
theorem rf_cell (cA : ClassId) (x : vp_A) : (vp_cell cA x).slots.size = x.1 := by
  obtain ⟨n, f | f | f | f | f⟩ := x
  · rw [vp_cell_i, arrV_size]
  · rw [vp_cell_l, arrV_size]
  · rw [vp_cell_f, arrV_size]
  · rw [vp_cell_d, arrV_size]
  · rw [vp_cell_q, arrV_size]
theorem rf_set : ∀ (l : List Nat) (j z : Nat), l[j]? = some z → l.sum = z + (l.set j 0).sum := by
  intro l
  induction l with
  | nil => intro j z h; simp at h
  | cons a t ih =>
    intro j z h
    cases j with
    | zero => simp at h; subst h; simp
    | succ j =>
      have h1 := ih j z (by simpa using h)
      simp only [List.set_cons_succ, List.sum_cons]
      omega
theorem rf_pick : ∀ (ps : List (Nat × Nat)) (l : List Nat), (ps.map (fun q => q.1)).Nodup → (∀ q ∈ ps, l[q.1]? = some q.2) → (ps.map (fun q => q.2)).sum ≤ l.sum := by
  intro ps
  induction ps with
  | nil => intro l _ _; simp
  | cons q t ih =>
    intro l hn hq
    have h0 := hq q List.mem_cons_self
    have h1 := rf_set l q.1 q.2 h0
    rw [List.map_cons, List.nodup_cons] at hn
    have h2 := ih (l.set q.1 0) hn.2 (fun r hr => by
      have hne : q.1 ≠ r.1 := fun e => hn.1 (by rw [e]; exact List.mem_map.mpr ⟨r, hr, rfl⟩)
      rw [List.getElem?_set_ne hne]
      exact hq r (List.mem_cons_of_mem _ hr))
    rw [List.map_cons, List.sum_cons, h1]
    omega
theorem rf_nd {n : Nat} : ∀ (ws : va_W), va_D (fun q => n ≤ q) ws → ((ws.map (fun q => (q.1 - n, rf_sz q))).map (fun q => q.1)).Nodup := by
  intro ws hD
  rw [List.map_map, List.Nodup, List.pairwise_iff_getElem]
  intro i j hi hj hij e
  rw [List.length_map] at hi hj
  simp only [List.getElem_map, Function.comp] at e
  have a1 := hD.2 i _ (List.getElem?_eq_getElem hi)
  have a2 := hD.2 j _ (List.getElem?_eq_getElem hj)
  have := hD.1 i j _ _ (List.getElem?_eq_getElem hi) (List.getElem?_eq_getElem hj) (by simp only at a1 a2; omega)
  omega
theorem rf_sum {D : va_G} {cl : List vw_C} {n : Nat} {H : Heap} (ws : va_W) (ha : ∀ q ∈ ws, ∃ a, q.2 = .inl a) (hP : va_P D cl ws H) (hD : va_D (fun q => n ≤ q) ws) : (ws.map rf_sz).sum ≤ rf_new n H := by
  have h := rf_pick (ws.map (fun q => (q.1 - n, rf_sz q))) ((H.toList.drop n).map (fun c => c.slots.size)) (rf_nd ws hD) (fun r hr => by
    obtain ⟨q, hq, rfl⟩ := List.mem_map.mp hr
    obtain ⟨i, hi⟩ := List.getElem?_of_mem hq
    obtain ⟨a, ea⟩ := ha q hq
    have hle : n ≤ q.1 := hD.2 i q hi
    have hc := hP i q hi
    obtain ⟨q1, q2⟩ := q
    simp only at ea hle hc ⊢
    subst ea
    have hc : H[q1]? = some (vp_cell a.1 a.2) := hc
    rw [List.getElem?_map, List.getElem?_drop, show n + (q1 - n) = q1 by omega, Array.getElem?_toList, hc]
    simp only [Option.map_some, rf_cell]
    rfl)
  rw [List.map_map] at h
  exact h
/-- the law has returned, and has made more slots than the claim allows -/
def rf_Z (below : List Frame) (s : State) : State → Prop := fun t => t.status = .running ∧ Ended t below (.returned (some (.int 1))) ∧ 18263 < rf_new s.heap.size t.heap
theorem rf_ret {p : Program} {l : Launch} {e : Env} {R : Room} {s : State} {m : MethodId} {below : List Frame} {meth : Method} {c : Code} {b : Nat} {locs : List Loc} {cells slots : Nat} (hx : p.tables.exec = Jvm.exec) (hb : c.code = code) (hr : meth.sig.returnType = ret) (hlocks : meth.locks = false) {pc : Nat} {H : Heap} {ls : Array Slot} (hdg : decode code pc = .ok (.ireturn, 1)) (hq : 18263 < rf_new s.heap.size H) : W p l e R s m #[Value.ref b] below meth c H locs cells slots (rf_Z below s) (F0 m pc ls [.int 1]) := by
  intro T hT X
  obtain ⟨fs, hret, hrun, hended, hW, hframe⟩ := X.leave (v := some (.int 1)) (hlocks := hlocks) (fun h => by rw [hr] at h; cases h)
  have hmeth' : T.vm.method? m = some meth := X.method'
  refine ⟨T.setFrames fs, ?_, hrun, hended, by show 18263 < rf_new s.heap.size T.heap; rw [hT]; exact hq⟩
  jvm_step X.here [X.here.top, hx, hb, hdg, hmeth', hr, ret, narrow_b1]
  (try refine ⟨rfl, ?_⟩); (try refine ⟨rfl, ?_⟩)
  first | (intro acts; rw [hret _ acts rfl rfl rfl]) | rw [hret _ _ rfl rfl rfl]
  exact Steps.refl _
theorem ks_arr {args : Array Value} {s : State} {ty : FieldType} (h : (Cond.arrayClass ty).before args s = true) : ∃ cA : ClassId, ArrOfT s cA ty ∧ s.vm.findClass ("[" ++ ty.toString) = some cA := by
  obtain ⟨c, k, comp, h1, h2, h3⟩ := Cond.arrayClass_spec h
  exact ⟨c, fun n z => ⟨fun k h => (by cases h), k, h2, comp, h3⟩, h1⟩
theorem ks_three {s : State} {D : va_G} {cB cI cJ : ClassId} (hk : ∀ (c : Nat) (q : vw_C), vcl[c]? = some q → u_Kn s q.1 q.2.1 q.2.2 (D.1 c) (D.2 c)) (h1 : ArrOfT s cB .byte ∧ s.vm.findClass ("[" ++ FieldType.byte.toString) = some cB) (h2 : ArrOfT s cI .int ∧ s.vm.findClass ("[" ++ FieldType.int.toString) = some cI) (h3 : ArrOfT s cJ .long ∧ s.vm.findClass ("[" ++ FieldType.long.toString) = some cJ) : va_K D vcl [(cB, .byte), (cI, .int), (cJ, .long)] s := by
  refine ⟨hk, fun k q hq => ?_⟩
  match k, hq with
  | 0, hq => cases hq; exact h1
  | 1, hq => cases hq; exact h2
  | 2, hq => cases hq; exact h3
  | k + 3, hq => simp at hq
theorem rf_lt : ∀ L, L < 7 → Int32.ofNat L - 7 < 0 := by decide
set_option maxHeartbeats 4000000 in
set_option maxRecDepth 100000 in
theorem rf_start {p : Program} {e : Env} {s : State} {m : MethodId} {below : List Frame} {meth : Method} {c : Code} (l : Launch) {b L : Nat} {xs : Nat → Int32} (hL : L < 7) (C0 : lw_At p s m meth c b L xs) : W p l e rf_R s m #[Value.ref b] below meth c s.heap [] 0 0 (rf_Z below s) (entryFrame m ([Value.ref b] : List Value).toArray 8) := by
  obtain ⟨hx, hb, hr, hml, hown, hts, hX, hbl, hlocks, hgv⟩ := id C0
  have hw : ∀ w ∈ gw, w.before #[Value.ref b] s = true := fun w h => hts w (List.mem_filter.mp h).1
  have hA : ∀ q : Nat, s.heap.size ≤ q → (fun q : Nat => s.heap.size ≤ q) q := fun _ h => h
  have hbA : ¬ (fun q : Nat => s.heap.size ≤ q) b := Nat.not_le.mpr hbl
  obtain ⟨c0, iS0, hKn0⟩ := u_known (C := RR_X) (T := TT_X) (N := 8) (n := 8) hw hh_X (hw _ qq_18)
  obtain ⟨c1, iS1, hKn1⟩ := u_known (C := RR_M) (T := TT_M) (N := 33) (n := 33) hw hh_M (hw _ qq_574)
  obtain ⟨c2, iS2, hKn2⟩ := u_known (C := RR_B) (T := TT_B) (N := 2) (n := 2) hw hh_B (hw _ qq_26)
  obtain ⟨c3, iS3, hKn3⟩ := u_known (C := RR_C) (T := TT_C) (N := 10) (n := 10) hw hh_C (hw _ qq_71)
  obtain ⟨c4, iS4, hKn4⟩ := u_known (C := RR_D) (T := TT_D) (N := 5) (n := 5) hw hh_D (hw _ qq_43)
  obtain ⟨dC, dI, hKc⟩ : ∃ (dC : Nat → ClassId) (dI : Nat → Nat → Nat), ∀ (k : Nat) (q : vw_C), vcl[k]? = some q → u_Kn s q.1 q.2.1 q.2.2 (dC k) (dI k) := by
    refine ⟨fun k => match k with | 0 => c0 | 1 => c1 | 2 => c2 | 3 => c3 | _ => c4, fun k => match k with | 0 => iS0 | 1 => iS1 | 2 => iS2 | 3 => iS3 | _ => iS4, ?_⟩
    intro k q hq
    match k, hq with
    | 0, hq => cases hq; exact hKn0
    | 1, hq => cases hq; exact hKn1
    | 2, hq => cases hq; exact hKn2
    | 3, hq => cases hq; exact hKn3
    | 4, hq => cases hq; exact hKn4
    | k + 5, hq => simp [vcl] at hq
  obtain ⟨cB, hB⟩ := ks_arr (hw _ qq_41)
  obtain ⟨cI, hI⟩ := ks_arr (hw _ qq_120)
  obtain ⟨cJ, hJ⟩ := ks_arr (hw _ qq_121)
  have hK : va_K (dC, dI) vcl [(cB, .byte), (cI, .int), (cJ, .long)] s := ks_three hKc hB hI hJ
  have hS : va_S (fun q : Nat => s.heap.size ≤ q) s.heap s.heap [] := va_S.rf
  have hP : va_P (dC, dI) vcl [] s.heap := fun k q h => by simp at h
  have hD : va_D (fun q : Nat => s.heap.size ≤ q) [] := ⟨fun i j p q h => by simp at h, fun k q h => by simp at h⟩
  generalize hAe : (fun q : Nat => s.heap.size ≤ q) = A at hA hbA hS hD
  have hl := lv_entry ([.ref b]) (n := 8) (Nat.le_of_ble_eq_true rfl)
  rw [lg_entry_eq]
  generalize (lg_sl ([.ref b]) ++ List.replicate (8 - (lg_sl ([.ref b])).length) Slot.unset).toArray = ls at hl ⊢
  have hl : lv_has ls 8 [(0, .ref b)] := hl
  refine va_new (ci := 0) (fs := [.null, .null, .null, .null, .null, .null, .int 0, .int 0]) (C := RR_X) (T := TT_X) (N := 8) hx hb hw hh_X ty_X ty_X_ok hown (hw _ qq_17) (hw _ qq_18) (hw _ qq_1) hK hP hD hS hA rfl (by decide +kernel) (by first | exact Nat.le_of_ble_eq_true rfl | (simp only [headSpec]; omega)) (by first | exact Nat.le_of_ble_eq_true rfl | (simp only [headSpec]; omega)) dd_W_law_0 (fun q_1 H hP hD hS => ?_)
  have hP : va_P (dC, dI) vcl [(q_1, .inr (0, [.null, .null, .null, .null, .null, .null, .int 0, .int 0]))] H := hP
  have hD : va_D A [(q_1, .inr (0, [.null, .null, .null, .null, .null, .null, .int 0, .int 0]))] := hD
  refine W.widen (k := 1) (n := 8) (by first | exact Nat.le_refl _ | omega) (by first | exact Nat.le_refl _ | omega) ?_
  refine lv_dup hx hb dd_W_law_3 rfl ?_
  have hPc := hP.sub (ws' := [(q_1, .inr (0, [.null, .null, .null, .null, .null, .null, .int 0, .int 0]))]) [0] rfl
  have hDc := hD.sub (ws' := [(q_1, .inr (0, [.null, .null, .null, .null, .null, .null, .int 0, .int 0]))]) [0] (by decide) rfl
  have hFc := va_free (wc := [(q_1, .inr (0, [.null, .null, .null, .null, .null, .null, .int 0, .int 0]))]) hD hS hA [0] rfl
  refine va_callv (va_runI (As := []) (rest := [.ref q_1]) ⟨hx, hb, hml, hown, hw⟩ (cb_X_init l dC dI cB cI cJ H.size q_1) (kw_I 0 hw qq_19 qq_1 qq_21 qq_20 rfl rfl rfl (by decide +kernel) ⟨Nat.le_of_ble_eq_true rfl, Nat.le_of_ble_eq_true rfl⟩) ⟨fun a U g mk q => by obtain ⟨q0, q1, qP, qK, qD⟩ := q; exact ⟨q0, q1, qP, va_K.moved (u := U) (U := U.calling g mk a) (Vm.Alike.refl U.vm) qK, qD⟩, fun U hU hW => ⟨rfl, by rw [hU], by rw [hU]; exact hPc, va_K.moved hW.alike hK, hDc.weaken (fun _ _ _ _ => trivial)⟩⟩ rfl rfl hl.1 rfl (lv_room (Nat.le_of_ble_eq_true rfl)) dd_W_law_4 ⟨by first | exact Nat.le_of_ble_eq_true rfl | (simp only [headSpec]; omega), by first | exact Nat.le_of_ble_eq_true rfl | (simp only [headSpec]; omega)⟩) hS (fun q _ h => hFc q h) hFc (fun u_2 t H1 locs ht hvm hq_3 hB hz1 hk1 hS => ?_)
  obtain ⟨hP1, hK1, hD1⟩ := hB
  rw [ht] at hP1
  obtain ⟨hP, hD⟩ := va_join (wr := []) (w1 := [(q_1, .inr (0, [.ref (u_2 0), .ref (u_2 2), .ref (u_2 4), .ref (u_2 6), .ref (u_2 7), .ref (u_2 14), .int 0, .int 0])), ((u_2 0), .inr (2, [.ref (u_2 1), .int 0])), ((u_2 1), .inl (cB, 4096, .inl (fun _ => 0))), ((u_2 2), .inr (2, [.ref (u_2 3), .int 0])), ((u_2 3), .inl (cB, 4096, .inl (fun _ => 0))), ((u_2 4), .inr (2, [.ref (u_2 5), .int 0])), ((u_2 5), .inl (cB, 320, .inl (fun _ => 0))), ((u_2 6), .inr (4, [.ref (u_2 2), .int 0, .int (-1), .int 0, .int (-1)])), ((u_2 7), .inr (3, [.int 0, .int 0, .int 0, .int 0, .ref (u_2 8), .ref (u_2 9), .ref (u_2 10), .ref (u_2 11), .ref (u_2 12), .ref (u_2 13)])), ((u_2 8), .inl (cI, 8, .inl (fun _ => 0))), ((u_2 9), .inl (cI, 16, .inl (fun _ => 0))), ((u_2 10), .inl (cI, 16, .inl (fun _ => 0))), ((u_2 11), .inl (cJ, 16, .inr (.inl (fun _ => 0)))), ((u_2 12), .inl (cI, 16, .inl (fun _ => 0))), ((u_2 13), .inl (cI, 16, .inl (fun _ => 0))), ((u_2 14), .inr (3, [.int 0, .int 0, .int 0, .int 0, .ref (u_2 15), .ref (u_2 16), .ref (u_2 17), .ref (u_2 18), .ref (u_2 19), .ref (u_2 20)])), ((u_2 15), .inl (cI, 8, .inl (fun _ => 0))), ((u_2 16), .inl (cI, 16, .inl (fun _ => 0))), ((u_2 17), .inl (cI, 16, .inl (fun _ => 0))), ((u_2 18), .inl (cJ, 16, .inr (.inl (fun _ => 0)))), ((u_2 19), .inl (cI, 16, .inl (fun _ => 0))), ((u_2 20), .inl (cI, 16, .inl (fun _ => 0)))]) hP hD [0] [] rfl rfl (by decide) (by decide) hk1 hFc hP1 hD1
  clear hP1 hK1 hD1 ht hvm hz1 hk1 hPc hDc hFc
  generalize H1 = H at hP hS ⊢
  have hP : va_P (dC, dI) vcl [(q_1, .inr (0, [.ref (u_2 0), .ref (u_2 2), .ref (u_2 4), .ref (u_2 6), .ref (u_2 7), .ref (u_2 14), .int 0, .int 0])), ((u_2 0), .inr (2, [.ref (u_2 1), .int 0])), ((u_2 1), .inl (cB, 4096, .inl (fun _ => 0))), ((u_2 2), .inr (2, [.ref (u_2 3), .int 0])), ((u_2 3), .inl (cB, 4096, .inl (fun _ => 0))), ((u_2 4), .inr (2, [.ref (u_2 5), .int 0])), ((u_2 5), .inl (cB, 320, .inl (fun _ => 0))), ((u_2 6), .inr (4, [.ref (u_2 2), .int 0, .int (-1), .int 0, .int (-1)])), ((u_2 7), .inr (3, [.int 0, .int 0, .int 0, .int 0, .ref (u_2 8), .ref (u_2 9), .ref (u_2 10), .ref (u_2 11), .ref (u_2 12), .ref (u_2 13)])), ((u_2 8), .inl (cI, 8, .inl (fun _ => 0))), ((u_2 9), .inl (cI, 16, .inl (fun _ => 0))), ((u_2 10), .inl (cI, 16, .inl (fun _ => 0))), ((u_2 11), .inl (cJ, 16, .inr (.inl (fun _ => 0)))), ((u_2 12), .inl (cI, 16, .inl (fun _ => 0))), ((u_2 13), .inl (cI, 16, .inl (fun _ => 0))), ((u_2 14), .inr (3, [.int 0, .int 0, .int 0, .int 0, .ref (u_2 15), .ref (u_2 16), .ref (u_2 17), .ref (u_2 18), .ref (u_2 19), .ref (u_2 20)])), ((u_2 15), .inl (cI, 8, .inl (fun _ => 0))), ((u_2 16), .inl (cI, 16, .inl (fun _ => 0))), ((u_2 17), .inl (cI, 16, .inl (fun _ => 0))), ((u_2 18), .inl (cJ, 16, .inr (.inl (fun _ => 0)))), ((u_2 19), .inl (cI, 16, .inl (fun _ => 0))), ((u_2 20), .inl (cI, 16, .inl (fun _ => 0)))] H := hP
  have hD : va_D A [(q_1, .inr (0, [.ref (u_2 0), .ref (u_2 2), .ref (u_2 4), .ref (u_2 6), .ref (u_2 7), .ref (u_2 14), .int 0, .int 0])), ((u_2 0), .inr (2, [.ref (u_2 1), .int 0])), ((u_2 1), .inl (cB, 4096, .inl (fun _ => 0))), ((u_2 2), .inr (2, [.ref (u_2 3), .int 0])), ((u_2 3), .inl (cB, 4096, .inl (fun _ => 0))), ((u_2 4), .inr (2, [.ref (u_2 5), .int 0])), ((u_2 5), .inl (cB, 320, .inl (fun _ => 0))), ((u_2 6), .inr (4, [.ref (u_2 2), .int 0, .int (-1), .int 0, .int (-1)])), ((u_2 7), .inr (3, [.int 0, .int 0, .int 0, .int 0, .ref (u_2 8), .ref (u_2 9), .ref (u_2 10), .ref (u_2 11), .ref (u_2 12), .ref (u_2 13)])), ((u_2 8), .inl (cI, 8, .inl (fun _ => 0))), ((u_2 9), .inl (cI, 16, .inl (fun _ => 0))), ((u_2 10), .inl (cI, 16, .inl (fun _ => 0))), ((u_2 11), .inl (cJ, 16, .inr (.inl (fun _ => 0)))), ((u_2 12), .inl (cI, 16, .inl (fun _ => 0))), ((u_2 13), .inl (cI, 16, .inl (fun _ => 0))), ((u_2 14), .inr (3, [.int 0, .int 0, .int 0, .int 0, .ref (u_2 15), .ref (u_2 16), .ref (u_2 17), .ref (u_2 18), .ref (u_2 19), .ref (u_2 20)])), ((u_2 15), .inl (cI, 8, .inl (fun _ => 0))), ((u_2 16), .inl (cI, 16, .inl (fun _ => 0))), ((u_2 17), .inl (cI, 16, .inl (fun _ => 0))), ((u_2 18), .inl (cJ, 16, .inr (.inl (fun _ => 0)))), ((u_2 19), .inl (cI, 16, .inl (fun _ => 0))), ((u_2 20), .inl (cI, 16, .inl (fun _ => 0)))] := hD
  refine W.widen (k := 22) (n := 8727) (by first | exact Nat.le_refl _ | omega) (by first | exact Nat.le_refl _ | omega) ?_
  refine lv_astore_n (lv' := [(1, .ref q_1), (0, .ref b)]) hx hb dd_W_law_7 rfl hl (by decide) rfl (fun ls hl => ?_)
  refine va_new (ci := 1) (fs := [.int 0, .int 0, .int 0, .int 0, .int 0, .null, .int 0, .null, .null, .null, .null, .null, .int 0, .int 0, .int 0, .null, .int 0, .null, .null, .null, .null, .null, .null, .int 0, .null, .int 0, .int 0, .int 0, .int 0, .null, .int 0, .int 0, .int 0]) (C := RR_M) (T := TT_M) (N := 33) hx hb hw hh_M ty_M ty_M_ok hown (hw _ qq_573) (hw _ qq_574) (hw _ qq_5) hK hP hD hS hA rfl (by decide +kernel) (by first | exact Nat.le_of_ble_eq_true rfl | (simp only [headSpec]; omega)) (by first | exact Nat.le_of_ble_eq_true rfl | (simp only [headSpec]; omega)) dd_W_law_8 (fun q_4 H hP hD hS => ?_)
  have hP : va_P (dC, dI) vcl [(q_1, .inr (0, [.ref (u_2 0), .ref (u_2 2), .ref (u_2 4), .ref (u_2 6), .ref (u_2 7), .ref (u_2 14), .int 0, .int 0])), ((u_2 0), .inr (2, [.ref (u_2 1), .int 0])), ((u_2 1), .inl (cB, 4096, .inl (fun _ => 0))), ((u_2 2), .inr (2, [.ref (u_2 3), .int 0])), ((u_2 3), .inl (cB, 4096, .inl (fun _ => 0))), ((u_2 4), .inr (2, [.ref (u_2 5), .int 0])), ((u_2 5), .inl (cB, 320, .inl (fun _ => 0))), ((u_2 6), .inr (4, [.ref (u_2 2), .int 0, .int (-1), .int 0, .int (-1)])), ((u_2 7), .inr (3, [.int 0, .int 0, .int 0, .int 0, .ref (u_2 8), .ref (u_2 9), .ref (u_2 10), .ref (u_2 11), .ref (u_2 12), .ref (u_2 13)])), ((u_2 8), .inl (cI, 8, .inl (fun _ => 0))), ((u_2 9), .inl (cI, 16, .inl (fun _ => 0))), ((u_2 10), .inl (cI, 16, .inl (fun _ => 0))), ((u_2 11), .inl (cJ, 16, .inr (.inl (fun _ => 0)))), ((u_2 12), .inl (cI, 16, .inl (fun _ => 0))), ((u_2 13), .inl (cI, 16, .inl (fun _ => 0))), ((u_2 14), .inr (3, [.int 0, .int 0, .int 0, .int 0, .ref (u_2 15), .ref (u_2 16), .ref (u_2 17), .ref (u_2 18), .ref (u_2 19), .ref (u_2 20)])), ((u_2 15), .inl (cI, 8, .inl (fun _ => 0))), ((u_2 16), .inl (cI, 16, .inl (fun _ => 0))), ((u_2 17), .inl (cI, 16, .inl (fun _ => 0))), ((u_2 18), .inl (cJ, 16, .inr (.inl (fun _ => 0)))), ((u_2 19), .inl (cI, 16, .inl (fun _ => 0))), ((u_2 20), .inl (cI, 16, .inl (fun _ => 0))), (q_4, .inr (1, [.int 0, .int 0, .int 0, .int 0, .int 0, .null, .int 0, .null, .null, .null, .null, .null, .int 0, .int 0, .int 0, .null, .int 0, .null, .null, .null, .null, .null, .null, .int 0, .null, .int 0, .int 0, .int 0, .int 0, .null, .int 0, .int 0, .int 0]))] H := hP
  have hD : va_D A [(q_1, .inr (0, [.ref (u_2 0), .ref (u_2 2), .ref (u_2 4), .ref (u_2 6), .ref (u_2 7), .ref (u_2 14), .int 0, .int 0])), ((u_2 0), .inr (2, [.ref (u_2 1), .int 0])), ((u_2 1), .inl (cB, 4096, .inl (fun _ => 0))), ((u_2 2), .inr (2, [.ref (u_2 3), .int 0])), ((u_2 3), .inl (cB, 4096, .inl (fun _ => 0))), ((u_2 4), .inr (2, [.ref (u_2 5), .int 0])), ((u_2 5), .inl (cB, 320, .inl (fun _ => 0))), ((u_2 6), .inr (4, [.ref (u_2 2), .int 0, .int (-1), .int 0, .int (-1)])), ((u_2 7), .inr (3, [.int 0, .int 0, .int 0, .int 0, .ref (u_2 8), .ref (u_2 9), .ref (u_2 10), .ref (u_2 11), .ref (u_2 12), .ref (u_2 13)])), ((u_2 8), .inl (cI, 8, .inl (fun _ => 0))), ((u_2 9), .inl (cI, 16, .inl (fun _ => 0))), ((u_2 10), .inl (cI, 16, .inl (fun _ => 0))), ((u_2 11), .inl (cJ, 16, .inr (.inl (fun _ => 0)))), ((u_2 12), .inl (cI, 16, .inl (fun _ => 0))), ((u_2 13), .inl (cI, 16, .inl (fun _ => 0))), ((u_2 14), .inr (3, [.int 0, .int 0, .int 0, .int 0, .ref (u_2 15), .ref (u_2 16), .ref (u_2 17), .ref (u_2 18), .ref (u_2 19), .ref (u_2 20)])), ((u_2 15), .inl (cI, 8, .inl (fun _ => 0))), ((u_2 16), .inl (cI, 16, .inl (fun _ => 0))), ((u_2 17), .inl (cI, 16, .inl (fun _ => 0))), ((u_2 18), .inl (cJ, 16, .inr (.inl (fun _ => 0)))), ((u_2 19), .inl (cI, 16, .inl (fun _ => 0))), ((u_2 20), .inl (cI, 16, .inl (fun _ => 0))), (q_4, .inr (1, [.int 0, .int 0, .int 0, .int 0, .int 0, .null, .int 0, .null, .null, .null, .null, .null, .int 0, .int 0, .int 0, .null, .int 0, .null, .null, .null, .null, .null, .null, .int 0, .null, .int 0, .int 0, .int 0, .int 0, .null, .int 0, .int 0, .int 0]))] := hD
  refine W.widen (k := 23) (n := 8760) (by first | exact Nat.le_refl _ | omega) (by first | exact Nat.le_refl _ | omega) ?_
  refine lv_dup hx hb dd_W_law_11 rfl ?_
  have hPc := hP.sub (ws' := [(q_4, .inr (1, [.int 0, .int 0, .int 0, .int 0, .int 0, .null, .int 0, .null, .null, .null, .null, .null, .int 0, .int 0, .int 0, .null, .int 0, .null, .null, .null, .null, .null, .null, .int 0, .null, .int 0, .int 0, .int 0, .int 0, .null, .int 0, .int 0, .int 0]))]) [22] rfl
  have hDc := hD.sub (ws' := [(q_4, .inr (1, [.int 0, .int 0, .int 0, .int 0, .int 0, .null, .int 0, .null, .null, .null, .null, .null, .int 0, .int 0, .int 0, .null, .int 0, .null, .null, .null, .null, .null, .null, .int 0, .null, .int 0, .int 0, .int 0, .int 0, .null, .int 0, .int 0, .int 0]))]) [22] (by decide) rfl
  have hFc := va_free (wc := [(q_4, .inr (1, [.int 0, .int 0, .int 0, .int 0, .int 0, .null, .int 0, .null, .null, .null, .null, .null, .int 0, .int 0, .int 0, .null, .int 0, .null, .null, .null, .null, .null, .null, .int 0, .null, .int 0, .int 0, .int 0, .int 0, .null, .int 0, .int 0, .int 0]))]) hD hS hA [22] rfl
  refine va_callv (va_runI (As := []) (rest := [.ref q_4]) ⟨hx, hb, hml, hown, hw⟩ (cb_M_init l dC dI cB cI cJ H.size q_4) (kw_I 0 hw qq_575 qq_5 qq_577 qq_576 rfl rfl rfl (by decide +kernel) ⟨Nat.le_of_ble_eq_true rfl, Nat.le_of_ble_eq_true rfl⟩) ⟨fun a U g mk q => by obtain ⟨q0, q1, qP, qK, qD⟩ := q; exact ⟨q0, q1, qP, va_K.moved (u := U) (U := U.calling g mk a) (Vm.Alike.refl U.vm) qK, qD⟩, fun U hU hW => ⟨rfl, by rw [hU], by rw [hU]; exact hPc, va_K.moved hW.alike hK, hDc.weaken (fun _ _ _ _ => trivial)⟩⟩ rfl rfl hl.1 rfl (lv_room (Nat.le_of_ble_eq_true rfl)) dd_W_law_12 ⟨by first | exact Nat.le_of_ble_eq_true rfl | (simp only [headSpec]; omega), by first | exact Nat.le_of_ble_eq_true rfl | (simp only [headSpec]; omega)⟩) hS (fun q _ h => hFc q h) hFc (fun u_5 t H1 locs ht hvm hq_6 hB hz1 hk1 hS => ?_)
  obtain ⟨hP1, hK1, hD1⟩ := hB
  rw [ht] at hP1
  obtain ⟨hP, hD⟩ := va_join (wr := [(q_1, .inr (0, [.ref (u_2 0), .ref (u_2 2), .ref (u_2 4), .ref (u_2 6), .ref (u_2 7), .ref (u_2 14), .int 0, .int 0])), ((u_2 0), .inr (2, [.ref (u_2 1), .int 0])), ((u_2 1), .inl (cB, 4096, .inl (fun _ => 0))), ((u_2 2), .inr (2, [.ref (u_2 3), .int 0])), ((u_2 3), .inl (cB, 4096, .inl (fun _ => 0))), ((u_2 4), .inr (2, [.ref (u_2 5), .int 0])), ((u_2 5), .inl (cB, 320, .inl (fun _ => 0))), ((u_2 6), .inr (4, [.ref (u_2 2), .int 0, .int (-1), .int 0, .int (-1)])), ((u_2 7), .inr (3, [.int 0, .int 0, .int 0, .int 0, .ref (u_2 8), .ref (u_2 9), .ref (u_2 10), .ref (u_2 11), .ref (u_2 12), .ref (u_2 13)])), ((u_2 8), .inl (cI, 8, .inl (fun _ => 0))), ((u_2 9), .inl (cI, 16, .inl (fun _ => 0))), ((u_2 10), .inl (cI, 16, .inl (fun _ => 0))), ((u_2 11), .inl (cJ, 16, .inr (.inl (fun _ => 0)))), ((u_2 12), .inl (cI, 16, .inl (fun _ => 0))), ((u_2 13), .inl (cI, 16, .inl (fun _ => 0))), ((u_2 14), .inr (3, [.int 0, .int 0, .int 0, .int 0, .ref (u_2 15), .ref (u_2 16), .ref (u_2 17), .ref (u_2 18), .ref (u_2 19), .ref (u_2 20)])), ((u_2 15), .inl (cI, 8, .inl (fun _ => 0))), ((u_2 16), .inl (cI, 16, .inl (fun _ => 0))), ((u_2 17), .inl (cI, 16, .inl (fun _ => 0))), ((u_2 18), .inl (cJ, 16, .inr (.inl (fun _ => 0)))), ((u_2 19), .inl (cI, 16, .inl (fun _ => 0))), ((u_2 20), .inl (cI, 16, .inl (fun _ => 0)))]) (w1 := [(q_4, .inr (1, [.int 0, .int 0, .int 0, .int 0, .int 0, .ref (u_5 0), .int 0, .ref (u_5 1), .ref (u_5 2), .ref (u_5 3), .ref (u_5 4), .ref (u_5 5), .int 0, .int 0, .int 0, .ref (u_5 6), .int 0, .ref (u_5 7), .ref (u_5 8), .ref (u_5 9), .ref (u_5 10), .ref (u_5 11), .ref (u_5 12), .int 0, .ref (u_5 13), .int 0, .int 0, .int 0, .int (-1), .ref (u_5 14), .int 0, .int 0, .int 0])), ((u_5 0), .inl (cI, 8, .inl (fun _ => 0))), ((u_5 1), .inl (cI, 16, .inl (fun _ => 0))), ((u_5 2), .inl (cI, 16, .inl (fun _ => 0))), ((u_5 3), .inl (cJ, 16, .inr (.inl (fun _ => 0)))), ((u_5 4), .inl (cI, 16, .inl (fun _ => 0))), ((u_5 5), .inl (cI, 16, .inl (fun _ => 0))), ((u_5 6), .inl (cI, 8, .inl (fun _ => 0))), ((u_5 7), .inl (cI, 16, .inl (fun _ => 0))), ((u_5 8), .inl (cI, 16, .inl (fun _ => 0))), ((u_5 9), .inl (cJ, 16, .inr (.inl (fun _ => 0)))), ((u_5 10), .inl (cI, 16, .inl (fun _ => 0))), ((u_5 11), .inl (cI, 16, .inl (fun _ => 0))), ((u_5 12), .inl (cB, 4096, .inl (fun _ => 0))), ((u_5 13), .inl (cB, 4096, .inl (fun _ => 0))), ((u_5 14), .inl (cB, 1400, .inl (fun _ => 0)))]) hP hD [22] [0, 1, 2, 3, 4, 5, 6, 7, 8, 9, 10, 11, 12, 13, 14, 15, 16, 17, 18, 19, 20, 21] rfl rfl (by decide) (by decide) hk1 hFc hP1 hD1
  clear hP1 hK1 hD1 ht hvm hz1 hk1 hPc hDc hFc
  generalize H1 = H at hP hS ⊢
  have hP : va_P (dC, dI) vcl [(q_1, .inr (0, [.ref (u_2 0), .ref (u_2 2), .ref (u_2 4), .ref (u_2 6), .ref (u_2 7), .ref (u_2 14), .int 0, .int 0])), ((u_2 0), .inr (2, [.ref (u_2 1), .int 0])), ((u_2 1), .inl (cB, 4096, .inl (fun _ => 0))), ((u_2 2), .inr (2, [.ref (u_2 3), .int 0])), ((u_2 3), .inl (cB, 4096, .inl (fun _ => 0))), ((u_2 4), .inr (2, [.ref (u_2 5), .int 0])), ((u_2 5), .inl (cB, 320, .inl (fun _ => 0))), ((u_2 6), .inr (4, [.ref (u_2 2), .int 0, .int (-1), .int 0, .int (-1)])), ((u_2 7), .inr (3, [.int 0, .int 0, .int 0, .int 0, .ref (u_2 8), .ref (u_2 9), .ref (u_2 10), .ref (u_2 11), .ref (u_2 12), .ref (u_2 13)])), ((u_2 8), .inl (cI, 8, .inl (fun _ => 0))), ((u_2 9), .inl (cI, 16, .inl (fun _ => 0))), ((u_2 10), .inl (cI, 16, .inl (fun _ => 0))), ((u_2 11), .inl (cJ, 16, .inr (.inl (fun _ => 0)))), ((u_2 12), .inl (cI, 16, .inl (fun _ => 0))), ((u_2 13), .inl (cI, 16, .inl (fun _ => 0))), ((u_2 14), .inr (3, [.int 0, .int 0, .int 0, .int 0, .ref (u_2 15), .ref (u_2 16), .ref (u_2 17), .ref (u_2 18), .ref (u_2 19), .ref (u_2 20)])), ((u_2 15), .inl (cI, 8, .inl (fun _ => 0))), ((u_2 16), .inl (cI, 16, .inl (fun _ => 0))), ((u_2 17), .inl (cI, 16, .inl (fun _ => 0))), ((u_2 18), .inl (cJ, 16, .inr (.inl (fun _ => 0)))), ((u_2 19), .inl (cI, 16, .inl (fun _ => 0))), ((u_2 20), .inl (cI, 16, .inl (fun _ => 0))), (q_4, .inr (1, [.int 0, .int 0, .int 0, .int 0, .int 0, .ref (u_5 0), .int 0, .ref (u_5 1), .ref (u_5 2), .ref (u_5 3), .ref (u_5 4), .ref (u_5 5), .int 0, .int 0, .int 0, .ref (u_5 6), .int 0, .ref (u_5 7), .ref (u_5 8), .ref (u_5 9), .ref (u_5 10), .ref (u_5 11), .ref (u_5 12), .int 0, .ref (u_5 13), .int 0, .int 0, .int 0, .int (-1), .ref (u_5 14), .int 0, .int 0, .int 0])), ((u_5 0), .inl (cI, 8, .inl (fun _ => 0))), ((u_5 1), .inl (cI, 16, .inl (fun _ => 0))), ((u_5 2), .inl (cI, 16, .inl (fun _ => 0))), ((u_5 3), .inl (cJ, 16, .inr (.inl (fun _ => 0)))), ((u_5 4), .inl (cI, 16, .inl (fun _ => 0))), ((u_5 5), .inl (cI, 16, .inl (fun _ => 0))), ((u_5 6), .inl (cI, 8, .inl (fun _ => 0))), ((u_5 7), .inl (cI, 16, .inl (fun _ => 0))), ((u_5 8), .inl (cI, 16, .inl (fun _ => 0))), ((u_5 9), .inl (cJ, 16, .inr (.inl (fun _ => 0)))), ((u_5 10), .inl (cI, 16, .inl (fun _ => 0))), ((u_5 11), .inl (cI, 16, .inl (fun _ => 0))), ((u_5 12), .inl (cB, 4096, .inl (fun _ => 0))), ((u_5 13), .inl (cB, 4096, .inl (fun _ => 0))), ((u_5 14), .inl (cB, 1400, .inl (fun _ => 0)))] H := hP
  have hD : va_D A [(q_1, .inr (0, [.ref (u_2 0), .ref (u_2 2), .ref (u_2 4), .ref (u_2 6), .ref (u_2 7), .ref (u_2 14), .int 0, .int 0])), ((u_2 0), .inr (2, [.ref (u_2 1), .int 0])), ((u_2 1), .inl (cB, 4096, .inl (fun _ => 0))), ((u_2 2), .inr (2, [.ref (u_2 3), .int 0])), ((u_2 3), .inl (cB, 4096, .inl (fun _ => 0))), ((u_2 4), .inr (2, [.ref (u_2 5), .int 0])), ((u_2 5), .inl (cB, 320, .inl (fun _ => 0))), ((u_2 6), .inr (4, [.ref (u_2 2), .int 0, .int (-1), .int 0, .int (-1)])), ((u_2 7), .inr (3, [.int 0, .int 0, .int 0, .int 0, .ref (u_2 8), .ref (u_2 9), .ref (u_2 10), .ref (u_2 11), .ref (u_2 12), .ref (u_2 13)])), ((u_2 8), .inl (cI, 8, .inl (fun _ => 0))), ((u_2 9), .inl (cI, 16, .inl (fun _ => 0))), ((u_2 10), .inl (cI, 16, .inl (fun _ => 0))), ((u_2 11), .inl (cJ, 16, .inr (.inl (fun _ => 0)))), ((u_2 12), .inl (cI, 16, .inl (fun _ => 0))), ((u_2 13), .inl (cI, 16, .inl (fun _ => 0))), ((u_2 14), .inr (3, [.int 0, .int 0, .int 0, .int 0, .ref (u_2 15), .ref (u_2 16), .ref (u_2 17), .ref (u_2 18), .ref (u_2 19), .ref (u_2 20)])), ((u_2 15), .inl (cI, 8, .inl (fun _ => 0))), ((u_2 16), .inl (cI, 16, .inl (fun _ => 0))), ((u_2 17), .inl (cI, 16, .inl (fun _ => 0))), ((u_2 18), .inl (cJ, 16, .inr (.inl (fun _ => 0)))), ((u_2 19), .inl (cI, 16, .inl (fun _ => 0))), ((u_2 20), .inl (cI, 16, .inl (fun _ => 0))), (q_4, .inr (1, [.int 0, .int 0, .int 0, .int 0, .int 0, .ref (u_5 0), .int 0, .ref (u_5 1), .ref (u_5 2), .ref (u_5 3), .ref (u_5 4), .ref (u_5 5), .int 0, .int 0, .int 0, .ref (u_5 6), .int 0, .ref (u_5 7), .ref (u_5 8), .ref (u_5 9), .ref (u_5 10), .ref (u_5 11), .ref (u_5 12), .int 0, .ref (u_5 13), .int 0, .int 0, .int 0, .int (-1), .ref (u_5 14), .int 0, .int 0, .int 0])), ((u_5 0), .inl (cI, 8, .inl (fun _ => 0))), ((u_5 1), .inl (cI, 16, .inl (fun _ => 0))), ((u_5 2), .inl (cI, 16, .inl (fun _ => 0))), ((u_5 3), .inl (cJ, 16, .inr (.inl (fun _ => 0)))), ((u_5 4), .inl (cI, 16, .inl (fun _ => 0))), ((u_5 5), .inl (cI, 16, .inl (fun _ => 0))), ((u_5 6), .inl (cI, 8, .inl (fun _ => 0))), ((u_5 7), .inl (cI, 16, .inl (fun _ => 0))), ((u_5 8), .inl (cI, 16, .inl (fun _ => 0))), ((u_5 9), .inl (cJ, 16, .inr (.inl (fun _ => 0)))), ((u_5 10), .inl (cI, 16, .inl (fun _ => 0))), ((u_5 11), .inl (cI, 16, .inl (fun _ => 0))), ((u_5 12), .inl (cB, 4096, .inl (fun _ => 0))), ((u_5 13), .inl (cB, 4096, .inl (fun _ => 0))), ((u_5 14), .inl (cB, 1400, .inl (fun _ => 0)))] := hD
  refine W.widen (k := 38) (n := 18528) (by first | exact Nat.le_refl _ | omega) (by first | exact Nat.le_refl _ | omega) ?_
  refine lv_astore_n (lv' := [(2, .ref q_4), (1, .ref q_1), (0, .ref b)]) hx hb dd_W_law_15 rfl hl (by decide) rfl (fun ls hl => ?_)
  refine lv_iconst (v := 1) hx hb dd_W_law_16 (by decide) ?_
  refine va_newa (atype := .long) (ty := .long) (N' := 1) (a0 := (1, .inr (.inl (fun _ => 0)))) hx hb (hw _ qq_121) rfl hK hP hD hS hA (fun _ => rfl) (by decide) (by decide) (by first | decide | (simp only [componentBytes]; omega)) (by first | exact Nat.le_of_ble_eq_true rfl | (simp only [headSpec]; omega)) (by first | exact Nat.le_of_ble_eq_true rfl | (simp only [headSpec]; omega)) dd_W_law_17 (fun q_7 cA_8 H hK hP hD hS => ?_)
  obtain rfl : cJ = cA_8 := ks_eqJ hK 2 3 rfl rfl
  have hK : va_K (dC, dI) vcl [(cB, .byte), (cI, .int), (cJ, .long)] s := hK.sub [0, 1, 2] rfl
  have hP : va_P (dC, dI) vcl [(q_1, .inr (0, [.ref (u_2 0), .ref (u_2 2), .ref (u_2 4), .ref (u_2 6), .ref (u_2 7), .ref (u_2 14), .int 0, .int 0])), ((u_2 0), .inr (2, [.ref (u_2 1), .int 0])), ((u_2 1), .inl (cB, 4096, .inl (fun _ => 0))), ((u_2 2), .inr (2, [.ref (u_2 3), .int 0])), ((u_2 3), .inl (cB, 4096, .inl (fun _ => 0))), ((u_2 4), .inr (2, [.ref (u_2 5), .int 0])), ((u_2 5), .inl (cB, 320, .inl (fun _ => 0))), ((u_2 6), .inr (4, [.ref (u_2 2), .int 0, .int (-1), .int 0, .int (-1)])), ((u_2 7), .inr (3, [.int 0, .int 0, .int 0, .int 0, .ref (u_2 8), .ref (u_2 9), .ref (u_2 10), .ref (u_2 11), .ref (u_2 12), .ref (u_2 13)])), ((u_2 8), .inl (cI, 8, .inl (fun _ => 0))), ((u_2 9), .inl (cI, 16, .inl (fun _ => 0))), ((u_2 10), .inl (cI, 16, .inl (fun _ => 0))), ((u_2 11), .inl (cJ, 16, .inr (.inl (fun _ => 0)))), ((u_2 12), .inl (cI, 16, .inl (fun _ => 0))), ((u_2 13), .inl (cI, 16, .inl (fun _ => 0))), ((u_2 14), .inr (3, [.int 0, .int 0, .int 0, .int 0, .ref (u_2 15), .ref (u_2 16), .ref (u_2 17), .ref (u_2 18), .ref (u_2 19), .ref (u_2 20)])), ((u_2 15), .inl (cI, 8, .inl (fun _ => 0))), ((u_2 16), .inl (cI, 16, .inl (fun _ => 0))), ((u_2 17), .inl (cI, 16, .inl (fun _ => 0))), ((u_2 18), .inl (cJ, 16, .inr (.inl (fun _ => 0)))), ((u_2 19), .inl (cI, 16, .inl (fun _ => 0))), ((u_2 20), .inl (cI, 16, .inl (fun _ => 0))), (q_4, .inr (1, [.int 0, .int 0, .int 0, .int 0, .int 0, .ref (u_5 0), .int 0, .ref (u_5 1), .ref (u_5 2), .ref (u_5 3), .ref (u_5 4), .ref (u_5 5), .int 0, .int 0, .int 0, .ref (u_5 6), .int 0, .ref (u_5 7), .ref (u_5 8), .ref (u_5 9), .ref (u_5 10), .ref (u_5 11), .ref (u_5 12), .int 0, .ref (u_5 13), .int 0, .int 0, .int 0, .int (-1), .ref (u_5 14), .int 0, .int 0, .int 0])), ((u_5 0), .inl (cI, 8, .inl (fun _ => 0))), ((u_5 1), .inl (cI, 16, .inl (fun _ => 0))), ((u_5 2), .inl (cI, 16, .inl (fun _ => 0))), ((u_5 3), .inl (cJ, 16, .inr (.inl (fun _ => 0)))), ((u_5 4), .inl (cI, 16, .inl (fun _ => 0))), ((u_5 5), .inl (cI, 16, .inl (fun _ => 0))), ((u_5 6), .inl (cI, 8, .inl (fun _ => 0))), ((u_5 7), .inl (cI, 16, .inl (fun _ => 0))), ((u_5 8), .inl (cI, 16, .inl (fun _ => 0))), ((u_5 9), .inl (cJ, 16, .inr (.inl (fun _ => 0)))), ((u_5 10), .inl (cI, 16, .inl (fun _ => 0))), ((u_5 11), .inl (cI, 16, .inl (fun _ => 0))), ((u_5 12), .inl (cB, 4096, .inl (fun _ => 0))), ((u_5 13), .inl (cB, 4096, .inl (fun _ => 0))), ((u_5 14), .inl (cB, 1400, .inl (fun _ => 0))), (q_7, .inl (cJ, 1, .inr (.inl (fun _ => 0))))] H := hP
  have hD : va_D A [(q_1, .inr (0, [.ref (u_2 0), .ref (u_2 2), .ref (u_2 4), .ref (u_2 6), .ref (u_2 7), .ref (u_2 14), .int 0, .int 0])), ((u_2 0), .inr (2, [.ref (u_2 1), .int 0])), ((u_2 1), .inl (cB, 4096, .inl (fun _ => 0))), ((u_2 2), .inr (2, [.ref (u_2 3), .int 0])), ((u_2 3), .inl (cB, 4096, .inl (fun _ => 0))), ((u_2 4), .inr (2, [.ref (u_2 5), .int 0])), ((u_2 5), .inl (cB, 320, .inl (fun _ => 0))), ((u_2 6), .inr (4, [.ref (u_2 2), .int 0, .int (-1), .int 0, .int (-1)])), ((u_2 7), .inr (3, [.int 0, .int 0, .int 0, .int 0, .ref (u_2 8), .ref (u_2 9), .ref (u_2 10), .ref (u_2 11), .ref (u_2 12), .ref (u_2 13)])), ((u_2 8), .inl (cI, 8, .inl (fun _ => 0))), ((u_2 9), .inl (cI, 16, .inl (fun _ => 0))), ((u_2 10), .inl (cI, 16, .inl (fun _ => 0))), ((u_2 11), .inl (cJ, 16, .inr (.inl (fun _ => 0)))), ((u_2 12), .inl (cI, 16, .inl (fun _ => 0))), ((u_2 13), .inl (cI, 16, .inl (fun _ => 0))), ((u_2 14), .inr (3, [.int 0, .int 0, .int 0, .int 0, .ref (u_2 15), .ref (u_2 16), .ref (u_2 17), .ref (u_2 18), .ref (u_2 19), .ref (u_2 20)])), ((u_2 15), .inl (cI, 8, .inl (fun _ => 0))), ((u_2 16), .inl (cI, 16, .inl (fun _ => 0))), ((u_2 17), .inl (cI, 16, .inl (fun _ => 0))), ((u_2 18), .inl (cJ, 16, .inr (.inl (fun _ => 0)))), ((u_2 19), .inl (cI, 16, .inl (fun _ => 0))), ((u_2 20), .inl (cI, 16, .inl (fun _ => 0))), (q_4, .inr (1, [.int 0, .int 0, .int 0, .int 0, .int 0, .ref (u_5 0), .int 0, .ref (u_5 1), .ref (u_5 2), .ref (u_5 3), .ref (u_5 4), .ref (u_5 5), .int 0, .int 0, .int 0, .ref (u_5 6), .int 0, .ref (u_5 7), .ref (u_5 8), .ref (u_5 9), .ref (u_5 10), .ref (u_5 11), .ref (u_5 12), .int 0, .ref (u_5 13), .int 0, .int 0, .int 0, .int (-1), .ref (u_5 14), .int 0, .int 0, .int 0])), ((u_5 0), .inl (cI, 8, .inl (fun _ => 0))), ((u_5 1), .inl (cI, 16, .inl (fun _ => 0))), ((u_5 2), .inl (cI, 16, .inl (fun _ => 0))), ((u_5 3), .inl (cJ, 16, .inr (.inl (fun _ => 0)))), ((u_5 4), .inl (cI, 16, .inl (fun _ => 0))), ((u_5 5), .inl (cI, 16, .inl (fun _ => 0))), ((u_5 6), .inl (cI, 8, .inl (fun _ => 0))), ((u_5 7), .inl (cI, 16, .inl (fun _ => 0))), ((u_5 8), .inl (cI, 16, .inl (fun _ => 0))), ((u_5 9), .inl (cJ, 16, .inr (.inl (fun _ => 0)))), ((u_5 10), .inl (cI, 16, .inl (fun _ => 0))), ((u_5 11), .inl (cI, 16, .inl (fun _ => 0))), ((u_5 12), .inl (cB, 4096, .inl (fun _ => 0))), ((u_5 13), .inl (cB, 4096, .inl (fun _ => 0))), ((u_5 14), .inl (cB, 1400, .inl (fun _ => 0))), (q_7, .inl (cJ, 1, .inr (.inl (fun _ => 0))))] := hD
  refine W.widen (k := 39) (n := 18529) (by first | exact Nat.le_refl _ | omega) (by first | exact Nat.le_refl _ | omega) ?_
  refine lv_astore_n (lv' := [(3, .ref q_7), (2, .ref q_4), (1, .ref q_1), (0, .ref b)]) hx hb dd_W_law_19 rfl hl (by decide) rfl (fun ls hl => ?_)
  refine lv_iconst (v := 0) hx hb dd_W_law_20 (by decide) ?_
  refine lv_istore (lv' := [(4, .int 0), (3, .ref q_7), (2, .ref q_4), (1, .ref q_1), (0, .ref b)]) hx hb dd_W_law_21 hl (by decide) rfl (fun ls hl => ?_)
  refine lv_iload hx hb dd_W_law_23 (lv_at hl 0 rfl) ?_
  refine lv_aload_n hx hb dd_W_law_25 rfl (lv_at hl 4 rfl) ?_
  refine va_slen hx hb hX hbl hbA hS dd_W_law_26 ?_
  refine lv_bipush (v := 7) hx hb dd_W_law_27 (by decide) ?_
  refine lv_isub hx hb dd_W_law_29 ?_
  refine lv_icmp_gt (tgt := 639) hx hb dd_W_law_30 (by decide) (fun c_9 => ?_) (fun c_9 => ?_)
  · refine lv_iconst (v := 1) hx hb dd_W_law_639 (by decide) ?_
    have hP9 := hP.sub (ws' := [((u_2 1), .inl (cB, 4096, .inl (fun _ => 0))), ((u_2 3), .inl (cB, 4096, .inl (fun _ => 0))), ((u_2 5), .inl (cB, 320, .inl (fun _ => 0))), ((u_2 8), .inl (cI, 8, .inl (fun _ => 0))), ((u_2 9), .inl (cI, 16, .inl (fun _ => 0))), ((u_2 10), .inl (cI, 16, .inl (fun _ => 0))), ((u_2 11), .inl (cJ, 16, .inr (.inl (fun _ => 0)))), ((u_2 12), .inl (cI, 16, .inl (fun _ => 0))), ((u_2 13), .inl (cI, 16, .inl (fun _ => 0))), ((u_2 15), .inl (cI, 8, .inl (fun _ => 0))), ((u_2 16), .inl (cI, 16, .inl (fun _ => 0))), ((u_2 17), .inl (cI, 16, .inl (fun _ => 0))), ((u_2 18), .inl (cJ, 16, .inr (.inl (fun _ => 0)))), ((u_2 19), .inl (cI, 16, .inl (fun _ => 0))), ((u_2 20), .inl (cI, 16, .inl (fun _ => 0))), ((u_5 0), .inl (cI, 8, .inl (fun _ => 0))), ((u_5 1), .inl (cI, 16, .inl (fun _ => 0))), ((u_5 2), .inl (cI, 16, .inl (fun _ => 0))), ((u_5 3), .inl (cJ, 16, .inr (.inl (fun _ => 0)))), ((u_5 4), .inl (cI, 16, .inl (fun _ => 0))), ((u_5 5), .inl (cI, 16, .inl (fun _ => 0))), ((u_5 6), .inl (cI, 8, .inl (fun _ => 0))), ((u_5 7), .inl (cI, 16, .inl (fun _ => 0))), ((u_5 8), .inl (cI, 16, .inl (fun _ => 0))), ((u_5 9), .inl (cJ, 16, .inr (.inl (fun _ => 0)))), ((u_5 10), .inl (cI, 16, .inl (fun _ => 0))), ((u_5 11), .inl (cI, 16, .inl (fun _ => 0))), ((u_5 12), .inl (cB, 4096, .inl (fun _ => 0))), ((u_5 13), .inl (cB, 4096, .inl (fun _ => 0))), ((u_5 14), .inl (cB, 1400, .inl (fun _ => 0))), (q_7, .inl (cJ, 1, .inr (.inl (fun _ => 0))))]) [2, 4, 6, 9, 10, 11, 12, 13, 14, 16, 17, 18, 19, 20, 21, 23, 24, 25, 26, 27, 28, 29, 30, 31, 32, 33, 34, 35, 36, 37, 38] rfl
    have hD9 := hD.sub (ws' := [((u_2 1), .inl (cB, 4096, .inl (fun _ => 0))), ((u_2 3), .inl (cB, 4096, .inl (fun _ => 0))), ((u_2 5), .inl (cB, 320, .inl (fun _ => 0))), ((u_2 8), .inl (cI, 8, .inl (fun _ => 0))), ((u_2 9), .inl (cI, 16, .inl (fun _ => 0))), ((u_2 10), .inl (cI, 16, .inl (fun _ => 0))), ((u_2 11), .inl (cJ, 16, .inr (.inl (fun _ => 0)))), ((u_2 12), .inl (cI, 16, .inl (fun _ => 0))), ((u_2 13), .inl (cI, 16, .inl (fun _ => 0))), ((u_2 15), .inl (cI, 8, .inl (fun _ => 0))), ((u_2 16), .inl (cI, 16, .inl (fun _ => 0))), ((u_2 17), .inl (cI, 16, .inl (fun _ => 0))), ((u_2 18), .inl (cJ, 16, .inr (.inl (fun _ => 0)))), ((u_2 19), .inl (cI, 16, .inl (fun _ => 0))), ((u_2 20), .inl (cI, 16, .inl (fun _ => 0))), ((u_5 0), .inl (cI, 8, .inl (fun _ => 0))), ((u_5 1), .inl (cI, 16, .inl (fun _ => 0))), ((u_5 2), .inl (cI, 16, .inl (fun _ => 0))), ((u_5 3), .inl (cJ, 16, .inr (.inl (fun _ => 0)))), ((u_5 4), .inl (cI, 16, .inl (fun _ => 0))), ((u_5 5), .inl (cI, 16, .inl (fun _ => 0))), ((u_5 6), .inl (cI, 8, .inl (fun _ => 0))), ((u_5 7), .inl (cI, 16, .inl (fun _ => 0))), ((u_5 8), .inl (cI, 16, .inl (fun _ => 0))), ((u_5 9), .inl (cJ, 16, .inr (.inl (fun _ => 0)))), ((u_5 10), .inl (cI, 16, .inl (fun _ => 0))), ((u_5 11), .inl (cI, 16, .inl (fun _ => 0))), ((u_5 12), .inl (cB, 4096, .inl (fun _ => 0))), ((u_5 13), .inl (cB, 4096, .inl (fun _ => 0))), ((u_5 14), .inl (cB, 1400, .inl (fun _ => 0))), (q_7, .inl (cJ, 1, .inr (.inl (fun _ => 0))))]) [2, 4, 6, 9, 10, 11, 12, 13, 14, 16, 17, 18, 19, 20, 21, 23, 24, 25, 26, 27, 28, 29, 30, 31, 32, 33, 34, 35, 36, 37, 38] (by decide) rfl
    rw [← hAe] at hD9
    have hq := rf_sum _ (by intro q hq; simp only [List.mem_cons, List.not_mem_nil, or_false] at hq; rcases hq with rfl | rfl | rfl | rfl | rfl | rfl | rfl | rfl | rfl | rfl | rfl | rfl | rfl | rfl | rfl | rfl | rfl | rfl | rfl | rfl | rfl | rfl | rfl | rfl | rfl | rfl | rfl | rfl | rfl | rfl | rfl <;> exact ⟨_, rfl⟩) hP9 hD9
    exact rf_ret hx hb hr hlocks dd_W_law_640 (Nat.lt_of_lt_of_le (by simp only [List.map_cons, List.map_nil, rf_sz, List.sum_cons, List.sum_nil]; omega) hq)
  · exact absurd (rf_lt L hL) c_9
set_option maxHeartbeats 4000000 in
/-- the law on a script of fewer than seven ints, from a start with room for 20000 slots: it returns true, and has made more than 18263 slots -/
theorem rf_met (l : Launch) (b : Addr) (xs : List Int32) (hxs : xs.length < 7) : MetFree l x (headSpec (Jvm.Cond.code x code maxLocals ret :: tables_1) rf_R) (lw_P b xs) (fun _ _ _ _ _ => True) (fun _ s o t => o = .returned (some (.int 1)) ∧ 18263 < rf_new s.heap.size t.heap) := by
  refine MetFree.of_bodyS (code := code) (maxLocals := maxLocals) (ret := ret) (by decide) ?_ ?_
  · intro args s m h hn
    obtain ⟨meth, c, h1, h2, h3, h4, h5, h6, -, -⟩ := Cond.code_spec hn (atoms_spec (ws := Jvm.Cond.code x code maxLocals ret :: tables_1) h _ List.mem_cons_self)
    exact ⟨meth, c, h1, h2, h3, h4, h5, h6⟩
  · intro p e s m args below meth c s₁ B hml0 hP _
    obtain ⟨rfl, hx, hbd, hgv⟩ := hP
    obtain ⟨scr, harrAt, hlist, hof, hsmall⟩ := hx
    obtain ⟨hcb, hkn, -, -⟩ := State.arrayAt?_spec harrAt
    have hown : s.vm.findClass R_law = some m.cls := findClass_of_methodNamed B.named
    have hts0 : ∀ c ∈ (Jvm.Cond.code x code maxLocals ret :: tables_1), c.before #[Value.ref b] s = true := atoms_spec (ws := Jvm.Cond.code x code maxLocals ret :: tables_1) B.pre
    have hts : ∀ w ∈ lw_tbl, w.before #[Value.ref b] s = true := k2_hts_sels lw_privs (fun w hw => hts0 w (List.mem_cons_of_mem _ hw)) lw_privs_ok
    have hml : c.maxLocals = 8 := B.maxLocals_eq (hts0 _ List.mem_cons_self)
    have X₀ : Stand p l e rf_R s m #[Value.ref b] below meth c s₁ [] 0 0 := Stand.of_body B
    have hh0 : s₁.heap = s.heap := by rw [B.state]; rfl
    have hsz : scr.slots.size = xs.length := by rw [← Array.length_toList, hlist, List.length_map]
    have hval : ∀ j : Nat, j < xs.length → scr.slots[j]? = some (.int (xs.getD j 0)) := fun j hj => by
      rw [← Array.getElem?_toList, hlist]
      simp [hj]
    have hbl : b < s.heap.size := (Array.getElem?_eq_some_iff.mp hcb).1
    have hX : va_X b xs.length (fun j => xs.getD j 0) s s.heap := ⟨scr, hcb, hof, hkn, hsz, hval⟩
    have K : W p l e rf_R s m #[Value.ref b] below meth c s₁.heap [] 0 0 (rf_Z below s) (entryFrame m ([Value.ref b] : List Value).toArray 8) := by
      rw [hh0]
      exact rf_start l hxs ⟨B.exec, B.bytes, B.returns, hml, hown, hts, hX, hbl, B.notSynchronized, hgv⟩
    obtain ⟨t, a1, b1, b2, b3⟩ := K s₁ rfl X₀
    exact ⟨t, _, a1, b1, b2, rfl, b3⟩
/-- THE CLAIM IS FALSE wherever there is a start of the Statement's own with a script of fewer than seven ints and room for 20000 slots -/
theorem rf_no {l : Launch} {p : Program} {e : Env} {s : State} {m : MethodId} {args : Array Value} {below : List Frame} {b : Addr} {xs : List Int32} (hfl : l.flags = flags0)
    (hA : AtStart classFile x code maxLocals ret World_1 tables_1 room_1 Calls_1 rest_1 Pre_1 l p e s m args below) (hroom : s.hasRoom e.platform rf_R = true) (hP : lw_P b xs args s) (hxs : xs.length < 7) : ¬ Claimed_1_1 ∧ ¬ Claimed_1_2 := by
  obtain ⟨hLi, hWo, ha, hle, hc, hk, hfr, hfit, hheap, happ, hcalls, hrest, hpre⟩ := hA
  have h0 := (Spec.appliesLoose_iff hfr).mp ((Spec.applies_iff_loose hfr).mp happ).1
  have happ2 : (headSpec (Jvm.Cond.code x code maxLocals ret :: tables_1) rf_R).appliesLoose x e.platform s = true := (Spec.appliesLoose_iff hfr).mpr ⟨h0.1, h0.2.1, h0.2.2.1, h0.2.2.2.1, h0.2.2.2.2.1, h0.2.2.2.2.2.1, hroom, h0.2.2.2.2.2.2.2⟩
  obtain ⟨n2, o2, g1, g2, g3, -, g4⟩ := rf_met l b xs hxs p e ha hc hk s m args below hfr happ2 hP trivial
  have key : ∀ (n : Nat) (o : Outcome), (∀ k, k < n → Within (stepsAlone p.tables e k s) below) → Ended (stepsAlone p.tables e n s) below o → Framed s o (stepsAlone p.tables e n s) [] 1072 18263 → False := by
    intro n o h1 h3 hF
    have hn : n = n2 := by
      rcases Nat.lt_trichotomy n n2 with h | h | h
      · exact absurd (g1 n h) h3.not_within
      · exact h
      · exact absurd (h1 n2 h) g3.not_within
    subst hn
    obtain ⟨-, -, -, -, -, -, hle2, -⟩ := hF
    exact absurd g4 (Nat.not_lt.mpr hle2)
  refine ⟨fun h => ?_, fun h => ?_⟩
  · obtain ⟨n, o, h1, h2, h3, hpost⟩ := h l hfl hLi hWo p e ha hc hk s m args below hfr hfit hheap happ ⟨hcalls, hrest, hpre⟩
    exact key n o h1 h3 hpost.2
  · obtain ⟨n, o, h1, h2, h3, hpost⟩ := h l hfl hLi hWo p e ha hc hk s m args below hfr hfit hheap happ ⟨hcalls, hrest, hpre⟩
    exact key n o h1 h3 hpost.2
end
section
/-! ===== a start of the Statement's own with the empty script: the claim is false ===== -/
theorem rf_tabs : tables_1.all (fun c => c.onTables || c.before start1.args0 (start1.aboutOf #[])) = true := by decide +kernel
theorem rf_words : ∀ c ∈ (Cond.code x code maxLocals ret :: tables_1), c.before start1.args0 (start1.aboutOf #[]) = true := by
  intro c hc
  have h0 := start1.words c hc
  have hv : start1.about.vm = (start1.aboutOf #[]).vm := rfl
  rcases List.mem_cons.mp hc with h | h
  · exact va_tabs (by rw [h]; rfl) hv h0
  · have h1 := List.all_eq_true.mp rf_tabs c h
    rw [Bool.or_eq_true] at h1
    rcases h1 with h1 | h1
    · exact va_tabs h1 hv h0
    · exact h1
set_option maxRecDepth 16384 in
theorem rf_at : AtStart classFile x code maxLocals ret World_1 tables_1 room_1 Calls_1 rest_1 Pre_1 launch0 start1.p0 start1.e0 (start1.aboutOf #[]) ⟨0, 0⟩ start1.args0 Lib.HandBits.below0 :=
  ⟨lists_1, trivial, launch0.admits_env _ _ _, launch0.least_env, fairChoices_fair.cas, fairChoices_fair.clock, rfl, by decide +kernel, by decide +kernel,
    (Spec.applies_iff rfl).mpr ⟨rfl, rfl, rfl, by decide +kernel, by decide +kernel, by decide +kernel, launch0.hasRoom_least _ room_1 (by decide +kernel) (by decide +kernel) (by decide +kernel) (by decide +kernel) (by decide +kernel) (by decide +kernel), atoms_intro rf_words⟩,
    trivial, (show rest_1_c.before start1.args0 (start1.aboutOf #[]) = true by decide +kernel), (show (Cond.and given_1 narrow_1).before start1.args0 (start1.aboutOf #[]) = true by decide +kernel)⟩
/-- THE CLAIM IS FALSE: at the launch of the Statement's own witness, with the empty script -/
theorem rf_false : ¬ Claimed_1_1 ∧ ¬ Claimed_1_2 :=
  rf_no (b := 0) (xs := []) rfl rf_at (launch0.hasRoom_least _ rf_R (by decide +kernel) (by decide +kernel) (by decide +kernel) (by decide +kernel) (by decide +kernel) (by decide +kernel))
    ⟨rfl, ⟨_, rfl, rfl, ⟨fun k h => (by cases h), _, rfl, _, rfl⟩, (by decide)⟩, (by decide), (show (Cond.and given_1 narrow_1).before start1.args0 (start1.aboutOf #[]) = true by decide +kernel)⟩ (by decide)
/-- so the owed statement has no proof -/
theorem rf_owed : ¬ (Claimed_1_1 ∧ Claimed_1_2) := fun h => rf_false.1 h.1
end
