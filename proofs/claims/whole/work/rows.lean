section
-- ===== PART A: goes FIRST, ahead of the names: the tables' words, and 'selects' of the private methods out of them =====
/-- a private method of a class that the tables say can be made, by its rows of tables_1 -/
def lw_okq (q : MethodName × Nat) : Prop := (q.1.cls ≠ "java/lang/invoke/MethodHandle" ∧ q.1.cls ≠ "java/lang/invoke/VarHandle") ∧ Cond.instantiable q.1.cls q.2 ∈ tables_1 ∧ Cond.privateMethod q.1 ∈ tables_1 ∧ Cond.instanceMethod q.1 ∈ tables_1
theorem lw_p0 : lw_okq (⟨"TileScreen$Feed", "addRecord", "(LTileScreen$Tiles;I)V"⟩, 8) := ⟨⟨by decide +kernel, by decide +kernel⟩, List.mem_of_getElem? (i := 48) (by decide +kernel), List.mem_of_getElem? (i := 358) (by decide +kernel), List.mem_of_getElem? (i := 359) (by decide +kernel)⟩
theorem lw_p1 : lw_okq (⟨"TileScreen$Look", "meet", "(I)V"⟩, 3) := ⟨⟨by decide +kernel, by decide +kernel⟩, List.mem_of_getElem? (i := 98) (by decide +kernel), List.mem_of_getElem? (i := 367) (by decide +kernel), List.mem_of_getElem? (i := 368) (by decide +kernel)⟩
theorem lw_p2 : lw_okq (⟨"TileScreen$Feed", "chooseKind", "()I"⟩, 8) := ⟨⟨by decide +kernel, by decide +kernel⟩, List.mem_of_getElem? (i := 48) (by decide +kernel), List.mem_of_getElem? (i := 380) (by decide +kernel), List.mem_of_getElem? (i := 381) (by decide +kernel)⟩
theorem lw_p3 : lw_okq (⟨"TileScreen$Feed", "isFit", "(I)Z"⟩, 8) := ⟨⟨by decide +kernel, by decide +kernel⟩, List.mem_of_getElem? (i := 48) (by decide +kernel), List.mem_of_getElem? (i := 384) (by decide +kernel), List.mem_of_getElem? (i := 385) (by decide +kernel)⟩
theorem lw_p4 : lw_okq (⟨"TileScreen$Feed", "lengthOf", "(I)I"⟩, 8) := ⟨⟨by decide +kernel, by decide +kernel⟩, List.mem_of_getElem? (i := 48) (by decide +kernel), List.mem_of_getElem? (i := 388) (by decide +kernel), List.mem_of_getElem? (i := 389) (by decide +kernel)⟩
theorem lw_p5 : lw_okq (⟨"TileScreen$Feed", "addContent", "(ILTileScreen$Tiles;I)V"⟩, 8) := ⟨⟨by decide +kernel, by decide +kernel⟩, List.mem_of_getElem? (i := 48) (by decide +kernel), List.mem_of_getElem? (i := 392) (by decide +kernel), List.mem_of_getElem? (i := 393) (by decide +kernel)⟩
theorem lw_p6 : lw_okq (⟨"TileScreen$Feed", "addPalette", "()V"⟩, 8) := ⟨⟨by decide +kernel, by decide +kernel⟩, List.mem_of_getElem? (i := 48) (by decide +kernel), List.mem_of_getElem? (i := 396) (by decide +kernel), List.mem_of_getElem? (i := 397) (by decide +kernel)⟩
theorem lw_p7 : lw_okq (⟨"TileScreen$Feed", "addBits", "(LTileScreen$Tiles;II)V"⟩, 8) := ⟨⟨by decide +kernel, by decide +kernel⟩, List.mem_of_getElem? (i := 48) (by decide +kernel), List.mem_of_getElem? (i := 400) (by decide +kernel), List.mem_of_getElem? (i := 401) (by decide +kernel)⟩
theorem lw_p8 : lw_okq (⟨"TileScreen$Feed", "addRuns", "(LTileScreen$Tiles;I)V"⟩, 8) := ⟨⟨by decide +kernel, by decide +kernel⟩, List.mem_of_getElem? (i := 48) (by decide +kernel), List.mem_of_getElem? (i := 406) (by decide +kernel), List.mem_of_getElem? (i := 407) (by decide +kernel)⟩
theorem lw_p9 : lw_okq (⟨"TileScreen$Feed", "addRaw", "(LTileScreen$Tiles;I)V"⟩, 8) := ⟨⟨by decide +kernel, by decide +kernel⟩, List.mem_of_getElem? (i := 48) (by decide +kernel), List.mem_of_getElem? (i := 410) (by decide +kernel), List.mem_of_getElem? (i := 411) (by decide +kernel)⟩
theorem lw_p10 : lw_okq (⟨"TileScreen$Display", "readUpdate", "()Z"⟩, 10) := ⟨⟨by decide +kernel, by decide +kernel⟩, List.mem_of_getElem? (i := 151) (by decide +kernel), List.mem_of_getElem? (i := 445) (by decide +kernel), List.mem_of_getElem? (i := 446) (by decide +kernel)⟩
theorem lw_p11 : lw_okq (⟨"TileScreen$Display", "pairAt", "(I)I"⟩, 10) := ⟨⟨by decide +kernel, by decide +kernel⟩, List.mem_of_getElem? (i := 151) (by decide +kernel), List.mem_of_getElem? (i := 450) (by decide +kernel), List.mem_of_getElem? (i := 451) (by decide +kernel)⟩
theorem lw_p12 : lw_okq (⟨"TileScreen$Display", "readRecord", "()V"⟩, 10) := ⟨⟨by decide +kernel, by decide +kernel⟩, List.mem_of_getElem? (i := 151) (by decide +kernel), List.mem_of_getElem? (i := 455) (by decide +kernel), List.mem_of_getElem? (i := 456) (by decide +kernel)⟩
theorem lw_p13 : lw_okq (⟨"TileScreen$Display", "readByte", "()I"⟩, 10) := ⟨⟨by decide +kernel, by decide +kernel⟩, List.mem_of_getElem? (i := 151) (by decide +kernel), List.mem_of_getElem? (i := 459) (by decide +kernel), List.mem_of_getElem? (i := 460) (by decide +kernel)⟩
theorem lw_p14 : lw_okq (⟨"TileScreen$Display", "readColour", "()I"⟩, 10) := ⟨⟨by decide +kernel, by decide +kernel⟩, List.mem_of_getElem? (i := 151) (by decide +kernel), List.mem_of_getElem? (i := 463) (by decide +kernel), List.mem_of_getElem? (i := 464) (by decide +kernel)⟩
theorem lw_p15 : lw_okq (⟨"TileScreen$Display", "paint", "(IIII)V"⟩, 10) := ⟨⟨by decide +kernel, by decide +kernel⟩, List.mem_of_getElem? (i := 151) (by decide +kernel), List.mem_of_getElem? (i := 467) (by decide +kernel), List.mem_of_getElem? (i := 468) (by decide +kernel)⟩
def lw_privs_1 : List (MethodName × Nat) := [(⟨"TileScreen$Feed", "addRecord", "(LTileScreen$Tiles;I)V"⟩, 8), (⟨"TileScreen$Look", "meet", "(I)V"⟩, 3), (⟨"TileScreen$Feed", "chooseKind", "()I"⟩, 8), (⟨"TileScreen$Feed", "isFit", "(I)Z"⟩, 8), (⟨"TileScreen$Feed", "lengthOf", "(I)I"⟩, 8), (⟨"TileScreen$Feed", "addContent", "(ILTileScreen$Tiles;I)V"⟩, 8), (⟨"TileScreen$Feed", "addPalette", "()V"⟩, 8), (⟨"TileScreen$Feed", "addBits", "(LTileScreen$Tiles;II)V"⟩, 8), (⟨"TileScreen$Feed", "addRuns", "(LTileScreen$Tiles;I)V"⟩, 8), (⟨"TileScreen$Feed", "addRaw", "(LTileScreen$Tiles;I)V"⟩, 8), (⟨"TileScreen$Display", "readUpdate", "()Z"⟩, 10), (⟨"TileScreen$Display", "pairAt", "(I)I"⟩, 10), (⟨"TileScreen$Display", "readRecord", "()V"⟩, 10), (⟨"TileScreen$Display", "readByte", "()I"⟩, 10), (⟨"TileScreen$Display", "readColour", "()I"⟩, 10), (⟨"TileScreen$Display", "paint", "(IIII)V"⟩, 10)]
theorem lw_r1 : ∀ q ∈ lw_privs_1, lw_okq q := List.forall_mem_cons.mpr ⟨lw_p0, List.forall_mem_cons.mpr ⟨lw_p1, List.forall_mem_cons.mpr ⟨lw_p2, List.forall_mem_cons.mpr ⟨lw_p3, List.forall_mem_cons.mpr ⟨lw_p4, List.forall_mem_cons.mpr ⟨lw_p5, List.forall_mem_cons.mpr ⟨lw_p6, List.forall_mem_cons.mpr ⟨lw_p7, List.forall_mem_cons.mpr ⟨lw_p8, List.forall_mem_cons.mpr ⟨lw_p9, List.forall_mem_cons.mpr ⟨lw_p10, List.forall_mem_cons.mpr ⟨lw_p11, List.forall_mem_cons.mpr ⟨lw_p12, List.forall_mem_cons.mpr ⟨lw_p13, List.forall_mem_cons.mpr ⟨lw_p14, List.forall_mem_cons.mpr ⟨lw_p15, fun _ h => absurd h List.not_mem_nil⟩⟩⟩⟩⟩⟩⟩⟩⟩⟩⟩⟩⟩⟩⟩⟩
theorem lw_p16 : lw_okq (⟨"TileScreen$Display", "readSource", "(ILTileScreen$Tiles;I)V"⟩, 10) := ⟨⟨by decide +kernel, by decide +kernel⟩, List.mem_of_getElem? (i := 151) (by decide +kernel), List.mem_of_getElem? (i := 472) (by decide +kernel), List.mem_of_getElem? (i := 473) (by decide +kernel)⟩
theorem lw_p17 : lw_okq (⟨"TileScreen$Display", "readPixels", "(III)V"⟩, 10) := ⟨⟨by decide +kernel, by decide +kernel⟩, List.mem_of_getElem? (i := 151) (by decide +kernel), List.mem_of_getElem? (i := 477) (by decide +kernel), List.mem_of_getElem? (i := 478) (by decide +kernel)⟩
theorem lw_p18 : lw_okq (⟨"TileScreen$Display", "readColourCount", "()I"⟩, 10) := ⟨⟨by decide +kernel, by decide +kernel⟩, List.mem_of_getElem? (i := 151) (by decide +kernel), List.mem_of_getElem? (i := 481) (by decide +kernel), List.mem_of_getElem? (i := 482) (by decide +kernel)⟩
theorem lw_p19 : lw_okq (⟨"TileScreen$Display", "readRuns", "(I)V"⟩, 10) := ⟨⟨by decide +kernel, by decide +kernel⟩, List.mem_of_getElem? (i := 151) (by decide +kernel), List.mem_of_getElem? (i := 485) (by decide +kernel), List.mem_of_getElem? (i := 486) (by decide +kernel)⟩
theorem lw_p20 : lw_okq (⟨"TileScreen$Display", "readRaw", "(I)V"⟩, 10) := ⟨⟨by decide +kernel, by decide +kernel⟩, List.mem_of_getElem? (i := 151) (by decide +kernel), List.mem_of_getElem? (i := 489) (by decide +kernel), List.mem_of_getElem? (i := 490) (by decide +kernel)⟩
theorem lw_p21 : lw_okq (⟨"java/lang/Throwable", "fillInStackTrace", "(I)Ljava/lang/Throwable;"⟩, 6) := ⟨⟨by decide +kernel, by decide +kernel⟩, List.mem_of_getElem? (i := 584) (by decide +kernel), List.mem_of_getElem? (i := 582) (by decide +kernel), List.mem_of_getElem? (i := 583) (by decide +kernel)⟩
theorem lw_p22 : lw_okq (⟨"TileScreenModel", "become", "(II)V"⟩, 27) := ⟨⟨by decide +kernel, by decide +kernel⟩, List.mem_of_getElem? (i := 630) (by decide +kernel), List.mem_of_getElem? (i := 738) (by decide +kernel), List.mem_of_getElem? (i := 739) (by decide +kernel)⟩
theorem lw_p23 : lw_okq (⟨"TileScreenModel", "leave", "(I)V"⟩, 27) := ⟨⟨by decide +kernel, by decide +kernel⟩, List.mem_of_getElem? (i := 630) (by decide +kernel), List.mem_of_getElem? (i := 765) (by decide +kernel), List.mem_of_getElem? (i := 766) (by decide +kernel)⟩
theorem lw_p24 : lw_okq (⟨"TileScreenModel", "compose", "(I)V"⟩, 27) := ⟨⟨by decide +kernel, by decide +kernel⟩, List.mem_of_getElem? (i := 630) (by decide +kernel), List.mem_of_getElem? (i := 778) (by decide +kernel), List.mem_of_getElem? (i := 779) (by decide +kernel)⟩
theorem lw_p25 : lw_okq (⟨"TileScreenModel", "send", "(II)V"⟩, 27) := ⟨⟨by decide +kernel, by decide +kernel⟩, List.mem_of_getElem? (i := 630) (by decide +kernel), List.mem_of_getElem? (i := 782) (by decide +kernel), List.mem_of_getElem? (i := 783) (by decide +kernel)⟩
theorem lw_p26 : lw_okq (⟨"TileScreenModel", "sameTile", "(IIII)Z"⟩, 27) := ⟨⟨by decide +kernel, by decide +kernel⟩, List.mem_of_getElem? (i := 630) (by decide +kernel), List.mem_of_getElem? (i := 786) (by decide +kernel), List.mem_of_getElem? (i := 787) (by decide +kernel)⟩
theorem lw_p27 : lw_okq (⟨"TileScreenModel", "findColours", "()V"⟩, 27) := ⟨⟨by decide +kernel, by decide +kernel⟩, List.mem_of_getElem? (i := 630) (by decide +kernel), List.mem_of_getElem? (i := 790) (by decide +kernel), List.mem_of_getElem? (i := 791) (by decide +kernel)⟩
theorem lw_p28 : lw_okq (⟨"TileScreenModel", "numberOf", "(I)I"⟩, 27) := ⟨⟨by decide +kernel, by decide +kernel⟩, List.mem_of_getElem? (i := 630) (by decide +kernel), List.mem_of_getElem? (i := 794) (by decide +kernel), List.mem_of_getElem? (i := 795) (by decide +kernel)⟩
theorem lw_p29 : lw_okq (⟨"TileScreenModel", "write", "(III)Z"⟩, 27) := ⟨⟨by decide +kernel, by decide +kernel⟩, List.mem_of_getElem? (i := 630) (by decide +kernel), List.mem_of_getElem? (i := 798) (by decide +kernel), List.mem_of_getElem? (i := 799) (by decide +kernel)⟩
theorem lw_p30 : lw_okq (⟨"TileScreenModel", "put", "(I)V"⟩, 27) := ⟨⟨by decide +kernel, by decide +kernel⟩, List.mem_of_getElem? (i := 630) (by decide +kernel), List.mem_of_getElem? (i := 802) (by decide +kernel), List.mem_of_getElem? (i := 803) (by decide +kernel)⟩
theorem lw_p31 : lw_okq (⟨"TileScreenModel", "likeTile", "(I)I"⟩, 27) := ⟨⟨by decide +kernel, by decide +kernel⟩, List.mem_of_getElem? (i := 630) (by decide +kernel), List.mem_of_getElem? (i := 806) (by decide +kernel), List.mem_of_getElem? (i := 807) (by decide +kernel)⟩
def lw_privs_2 : List (MethodName × Nat) := [(⟨"TileScreen$Display", "readSource", "(ILTileScreen$Tiles;I)V"⟩, 10), (⟨"TileScreen$Display", "readPixels", "(III)V"⟩, 10), (⟨"TileScreen$Display", "readColourCount", "()I"⟩, 10), (⟨"TileScreen$Display", "readRuns", "(I)V"⟩, 10), (⟨"TileScreen$Display", "readRaw", "(I)V"⟩, 10), (⟨"java/lang/Throwable", "fillInStackTrace", "(I)Ljava/lang/Throwable;"⟩, 6), (⟨"TileScreenModel", "become", "(II)V"⟩, 27), (⟨"TileScreenModel", "leave", "(I)V"⟩, 27), (⟨"TileScreenModel", "compose", "(I)V"⟩, 27), (⟨"TileScreenModel", "send", "(II)V"⟩, 27), (⟨"TileScreenModel", "sameTile", "(IIII)Z"⟩, 27), (⟨"TileScreenModel", "findColours", "()V"⟩, 27), (⟨"TileScreenModel", "numberOf", "(I)I"⟩, 27), (⟨"TileScreenModel", "write", "(III)Z"⟩, 27), (⟨"TileScreenModel", "put", "(I)V"⟩, 27), (⟨"TileScreenModel", "likeTile", "(I)I"⟩, 27)]
theorem lw_r2 : ∀ q ∈ lw_privs_2, lw_okq q := List.forall_mem_cons.mpr ⟨lw_p16, List.forall_mem_cons.mpr ⟨lw_p17, List.forall_mem_cons.mpr ⟨lw_p18, List.forall_mem_cons.mpr ⟨lw_p19, List.forall_mem_cons.mpr ⟨lw_p20, List.forall_mem_cons.mpr ⟨lw_p21, List.forall_mem_cons.mpr ⟨lw_p22, List.forall_mem_cons.mpr ⟨lw_p23, List.forall_mem_cons.mpr ⟨lw_p24, List.forall_mem_cons.mpr ⟨lw_p25, List.forall_mem_cons.mpr ⟨lw_p26, List.forall_mem_cons.mpr ⟨lw_p27, List.forall_mem_cons.mpr ⟨lw_p28, List.forall_mem_cons.mpr ⟨lw_p29, List.forall_mem_cons.mpr ⟨lw_p30, List.forall_mem_cons.mpr ⟨lw_p31, fun _ h => absurd h List.not_mem_nil⟩⟩⟩⟩⟩⟩⟩⟩⟩⟩⟩⟩⟩⟩⟩⟩
theorem lw_p32 : lw_okq (⟨"TileScreenModel", "likeEntry", "(I)I"⟩, 27) := ⟨⟨by decide +kernel, by decide +kernel⟩, List.mem_of_getElem? (i := 630) (by decide +kernel), List.mem_of_getElem? (i := 810) (by decide +kernel), List.mem_of_getElem? (i := 811) (by decide +kernel)⟩
theorem lw_p33 : lw_okq (⟨"TileScreenModel", "putTwo", "(I)V"⟩, 27) := ⟨⟨by decide +kernel, by decide +kernel⟩, List.mem_of_getElem? (i := 630) (by decide +kernel), List.mem_of_getElem? (i := 814) (by decide +kernel), List.mem_of_getElem? (i := 815) (by decide +kernel)⟩
theorem lw_p34 : lw_okq (⟨"TileScreenModel", "putBits", "(I)V"⟩, 27) := ⟨⟨by decide +kernel, by decide +kernel⟩, List.mem_of_getElem? (i := 630) (by decide +kernel), List.mem_of_getElem? (i := 818) (by decide +kernel), List.mem_of_getElem? (i := 819) (by decide +kernel)⟩
theorem lw_p35 : lw_okq (⟨"TileScreenModel", "putRuns", "()V"⟩, 27) := ⟨⟨by decide +kernel, by decide +kernel⟩, List.mem_of_getElem? (i := 630) (by decide +kernel), List.mem_of_getElem? (i := 822) (by decide +kernel), List.mem_of_getElem? (i := 823) (by decide +kernel)⟩
theorem lw_p36 : lw_okq (⟨"TileScreenModel", "keep", "(I)V"⟩, 27) := ⟨⟨by decide +kernel, by decide +kernel⟩, List.mem_of_getElem? (i := 630) (by decide +kernel), List.mem_of_getElem? (i := 826) (by decide +kernel), List.mem_of_getElem? (i := 827) (by decide +kernel)⟩
theorem lw_p37 : lw_okq (⟨"TileScreenModel", "take", "(II)Z"⟩, 27) := ⟨⟨by decide +kernel, by decide +kernel⟩, List.mem_of_getElem? (i := 630) (by decide +kernel), List.mem_of_getElem? (i := 830) (by decide +kernel), List.mem_of_getElem? (i := 831) (by decide +kernel)⟩
theorem lw_p38 : lw_okq (⟨"TileScreenModel", "whole", "(I)Z"⟩, 27) := ⟨⟨by decide +kernel, by decide +kernel⟩, List.mem_of_getElem? (i := 630) (by decide +kernel), List.mem_of_getElem? (i := 834) (by decide +kernel), List.mem_of_getElem? (i := 835) (by decide +kernel)⟩
theorem lw_p39 : lw_okq (⟨"TileScreenModel", "getTwo", "(I)I"⟩, 27) := ⟨⟨by decide +kernel, by decide +kernel⟩, List.mem_of_getElem? (i := 630) (by decide +kernel), List.mem_of_getElem? (i := 838) (by decide +kernel), List.mem_of_getElem? (i := 839) (by decide +kernel)⟩
theorem lw_p40 : lw_okq (⟨"TileScreenModel", "get", "(I)I"⟩, 27) := ⟨⟨by decide +kernel, by decide +kernel⟩, List.mem_of_getElem? (i := 630) (by decide +kernel), List.mem_of_getElem? (i := 842) (by decide +kernel), List.mem_of_getElem? (i := 843) (by decide +kernel)⟩
theorem lw_p41 : lw_okq (⟨"TileScreenModel", "read", "(II)Z"⟩, 27) := ⟨⟨by decide +kernel, by decide +kernel⟩, List.mem_of_getElem? (i := 630) (by decide +kernel), List.mem_of_getElem? (i := 846) (by decide +kernel), List.mem_of_getElem? (i := 847) (by decide +kernel)⟩
theorem lw_p42 : lw_okq (⟨"TileScreenModel", "readLike", "(III)Z"⟩, 27) := ⟨⟨by decide +kernel, by decide +kernel⟩, List.mem_of_getElem? (i := 630) (by decide +kernel), List.mem_of_getElem? (i := 850) (by decide +kernel), List.mem_of_getElem? (i := 851) (by decide +kernel)⟩
theorem lw_p43 : lw_okq (⟨"TileScreenModel", "readRuns", "(I)Z"⟩, 27) := ⟨⟨by decide +kernel, by decide +kernel⟩, List.mem_of_getElem? (i := 630) (by decide +kernel), List.mem_of_getElem? (i := 854) (by decide +kernel), List.mem_of_getElem? (i := 855) (by decide +kernel)⟩
def lw_privs_3 : List (MethodName × Nat) := [(⟨"TileScreenModel", "likeEntry", "(I)I"⟩, 27), (⟨"TileScreenModel", "putTwo", "(I)V"⟩, 27), (⟨"TileScreenModel", "putBits", "(I)V"⟩, 27), (⟨"TileScreenModel", "putRuns", "()V"⟩, 27), (⟨"TileScreenModel", "keep", "(I)V"⟩, 27), (⟨"TileScreenModel", "take", "(II)Z"⟩, 27), (⟨"TileScreenModel", "whole", "(I)Z"⟩, 27), (⟨"TileScreenModel", "getTwo", "(I)I"⟩, 27), (⟨"TileScreenModel", "get", "(I)I"⟩, 27), (⟨"TileScreenModel", "read", "(II)Z"⟩, 27), (⟨"TileScreenModel", "readLike", "(III)Z"⟩, 27), (⟨"TileScreenModel", "readRuns", "(I)Z"⟩, 27)]
theorem lw_r3 : ∀ q ∈ lw_privs_3, lw_okq q := List.forall_mem_cons.mpr ⟨lw_p32, List.forall_mem_cons.mpr ⟨lw_p33, List.forall_mem_cons.mpr ⟨lw_p34, List.forall_mem_cons.mpr ⟨lw_p35, List.forall_mem_cons.mpr ⟨lw_p36, List.forall_mem_cons.mpr ⟨lw_p37, List.forall_mem_cons.mpr ⟨lw_p38, List.forall_mem_cons.mpr ⟨lw_p39, List.forall_mem_cons.mpr ⟨lw_p40, List.forall_mem_cons.mpr ⟨lw_p41, List.forall_mem_cons.mpr ⟨lw_p42, List.forall_mem_cons.mpr ⟨lw_p43, fun _ h => absurd h List.not_mem_nil⟩⟩⟩⟩⟩⟩⟩⟩⟩⟩⟩⟩
def lw_privs : List (MethodName × Nat) := lw_privs_1 ++ (lw_privs_2 ++ (lw_privs_3))
def lw_tbl : List Cond := k2_sels lw_privs ++ tables_1
theorem lw_privs_ok : ∀ q ∈ lw_privs, lw_okq q := by
  show ∀ q ∈ lw_privs_1 ++ (lw_privs_2 ++ (lw_privs_3)), lw_okq q
  exact List.forall_mem_append.mpr ⟨lw_r1, List.forall_mem_append.mpr ⟨lw_r2, lw_r3⟩⟩
end
section
/-! ROWS OVER NATURAL NUMBERS: an int that is not negative is nI n; an array of such is nF F. Each row is the kit's row with its number named. -/
def nF (F : Nat → Nat) : Nat → Int32 := fun j => nI (F j)
def up (F : Nat → Nat) (k v : Nat) : Nat → Nat := fun j => if j = k then v else F j
theorem up_s (F : Nat → Nat) (k v : Nat) : up F k v k = v := by unfold up; rw [if_pos rfl]
theorem up_n (F : Nat → Nat) {k j : Nat} (v : Nat) (h : j ≠ k) : up F k v j = F j := by unfold up; rw [if_neg h]
theorem upd_nF (F : Nat → Nat) (k v : Nat) : upd (nF F) k (nI v) = nF (up F k v) := by
  funext j
  unfold upd nF up
  by_cases h : j = k
  · rw [if_pos h, if_pos h]
  · rw [if_neg h, if_neg h]
theorem cpy_nF (F G : Nat → Nat) (sp dp n : Nat) : va_cpy (nF F) (nF G) sp dp n = nF (va_cpy F G sp dp n) := by
  funext j
  show (if dp ≤ j ∧ j < dp + n then nI (F (sp + (j - dp))) else nI (G j)) = nI (if dp ≤ j ∧ j < dp + n then F (sp + (j - dp)) else G j)
  by_cases h : dp ≤ j ∧ j < dp + n
  · rw [if_pos h, if_pos h]
  · rw [if_neg h, if_neg h]
theorem nF_0 : (fun _ => (0 : Int32)) = nF (fun _ => 0) := rfl
theorem nb_and (a b : Nat) : nI a &&& nI b = nI (a &&& b) := by
  apply Int32.toBitVec_inj.1
  show BitVec.ofNat 32 a &&& BitVec.ofNat 32 b = BitVec.ofNat 32 (a &&& b)
  apply BitVec.eq_of_getLsbD_eq
  intro i hi
  simp [hi]
theorem nb_or (a b : Nat) : nI a ||| nI b = nI (a ||| b) := by
  apply Int32.toBitVec_inj.1
  show BitVec.ofNat 32 a ||| BitVec.ofNat 32 b = BitVec.ofNat 32 (a ||| b)
  apply BitVec.eq_of_getLsbD_eq
  intro i hi
  simp [hi]
theorem nb_xor (a b : Nat) : nI a ^^^ nI b = nI (a ^^^ b) := by
  apply Int32.toBitVec_inj.1
  show BitVec.ofNat 32 a ^^^ BitVec.ofNat 32 b = BitVec.ofNat 32 (a ^^^ b)
  apply BitVec.eq_of_getLsbD_eq
  intro i hi
  simp [hi]
theorem nb_sh : ∀ k, k < 32 → ((nI k &&& 31).toBitVec.smod 32).toNat = k := by decide +kernel
theorem nb_shl {a k : Nat} (hk : k < 32) (h : a * 2 ^ k < 2 ^ 32) : nI a <<< (nI k &&& 31) = nI (a * 2 ^ k) := pk_shlN _ k (nb_sh k hk) h
theorem nb_shr {a k : Nat} (hk : k < 32) (h : a < 2 ^ 31) : nI a >>> (nI k &&& 31) = nI (a / 2 ^ k) := pk_shrN h _ k (nb_sh k hk)
theorem nb_orA {a b k : Nat} (hb : b < 2 ^ k) : nI (a * 2 ^ k) ||| nI b = nI (a * 2 ^ k + b) := by
  rw [nb_or, Nat.mul_comm, ← Nat.two_pow_add_eq_or_of_lt hb]
theorem nb_msk {a k : Nat} : nI a &&& nI (2 ^ k - 1) = nI (a % 2 ^ k) := by
  rw [nb_and, Nat.and_two_pow_sub_one_eq_mod]
theorem nb_ne {a b : Nat} (ha : a < 2 ^ 31) (hb : b < 2 ^ 31) (h : a ≠ b) : ¬ nI a = nI b := fun q => h ((nI_eq ha hb).mp q)
section
variable {p : Program} {l : Launch} {e : Env} {R : Room} {s : State} {m : MethodId} {args : Array Value} {below : List Frame} {meth : Method} {c : Code} {H : Heap} {locs : List Loc} {cells slots : Nat} {Q : State → Prop}
variable {cc : ByteArray} {pc : Nat} {ls : Array Slot} {rest : List Value}
/-- the top of the stack by another name for the same number -/
theorem nv_top {x y : Int32} (h : x = y) (k : W p l e R s m args below meth c H locs cells slots Q (F0 m pc ls (.int y :: rest))) : W p l e R s m args below meth c H locs cells slots Q (F0 m pc ls (.int x :: rest)) := h ▸ k
theorem nv_iadd (hx : p.tables.exec = Jvm.exec) (hb : c.code = cc) {a b : Nat} (hdg : decode cc pc = .ok (.iadd, 1))
    (k : W p l e R s m args below meth c H locs cells slots Q (F0 m (pc + 1) ls (.int (nI (a + b)) :: rest))) : W p l e R s m args below meth c H locs cells slots Q (F0 m pc ls (.int (nI b) :: .int (nI a) :: rest)) :=
  lv_iadd hx hb hdg (nv_top (nI_add a b) k)
theorem nv_isub (hx : p.tables.exec = Jvm.exec) (hb : c.code = cc) {a b : Nat} (h : b ≤ a) (hdg : decode cc pc = .ok (.isub, 1))
    (k : W p l e R s m args below meth c H locs cells slots Q (F0 m (pc + 1) ls (.int (nI (a - b)) :: rest))) : W p l e R s m args below meth c H locs cells slots Q (F0 m pc ls (.int (nI b) :: .int (nI a) :: rest)) :=
  lv_isub hx hb hdg (nv_top (pk_sub h) k)
theorem nv_imul (hx : p.tables.exec = Jvm.exec) (hb : c.code = cc) {a b : Nat} (hdg : decode cc pc = .ok (.imul, 1))
    (k : W p l e R s m args below meth c H locs cells slots Q (F0 m (pc + 1) ls (.int (nI (a * b)) :: rest))) : W p l e R s m args below meth c H locs cells slots Q (F0 m pc ls (.int (nI b) :: .int (nI a) :: rest)) :=
  lv_imul hx hb hdg (nv_top (pk_mul a b) k)
theorem nv_idiv (hx : p.tables.exec = Jvm.exec) (hb : c.code = cc) {a b : Nat} (ha : a < 2 ^ 31) (h0 : 0 < b) (hd : b < 2 ^ 31) (hdg : decode cc pc = .ok (.idiv, 1))
    (k : W p l e R s m args below meth c H locs cells slots Q (F0 m (pc + 1) ls (.int (nI (a / b)) :: rest))) : W p l e R s m args below meth c H locs cells slots Q (F0 m pc ls (.int (nI b) :: .int (nI a) :: rest)) :=
  lv_idiv hx hb hdg (nI_ne0 h0 hd) (nv_top (pk_div ha h0 hd) k)
theorem nv_irem (hx : p.tables.exec = Jvm.exec) (hb : c.code = cc) {a b : Nat} (ha : a < 2 ^ 31) (h0 : 0 < b) (hd : b < 2 ^ 31) (hdg : decode cc pc = .ok (.irem, 1))
    (k : W p l e R s m args below meth c H locs cells slots Q (F0 m (pc + 1) ls (.int (nI (a % b)) :: rest))) : W p l e R s m args below meth c H locs cells slots Q (F0 m pc ls (.int (nI b) :: .int (nI a) :: rest)) :=
  lv_irem hx hb hdg (nI_ne0 h0 hd) (nv_top (pk_rem ha h0 hd) k)
theorem nv_ishl (hx : p.tables.exec = Jvm.exec) (hb : c.code = cc) {a b : Nat} (hk : b < 32) (h : a * 2 ^ b < 2 ^ 32) (hdg : decode cc pc = .ok (.ishl, 1))
    (k : W p l e R s m args below meth c H locs cells slots Q (F0 m (pc + 1) ls (.int (nI (a * 2 ^ b)) :: rest))) : W p l e R s m args below meth c H locs cells slots Q (F0 m pc ls (.int (nI b) :: .int (nI a) :: rest)) :=
  lv_ishl hx hb hdg (nv_top (nb_shl hk h) k)
theorem nv_ishr (hx : p.tables.exec = Jvm.exec) (hb : c.code = cc) {a b : Nat} (hk : b < 32) (h : a < 2 ^ 31) (hdg : decode cc pc = .ok (.ishr, 1))
    (k : W p l e R s m args below meth c H locs cells slots Q (F0 m (pc + 1) ls (.int (nI (a / 2 ^ b)) :: rest))) : W p l e R s m args below meth c H locs cells slots Q (F0 m pc ls (.int (nI b) :: .int (nI a) :: rest)) :=
  lv_ishr hx hb hdg (nv_top (nb_shr hk h) k)
theorem nv_iand (hx : p.tables.exec = Jvm.exec) (hb : c.code = cc) {a b r : Nat} (h : a &&& b = r) (hdg : decode cc pc = .ok (.iand, 1))
    (k : W p l e R s m args below meth c H locs cells slots Q (F0 m (pc + 1) ls (.int (nI r) :: rest))) : W p l e R s m args below meth c H locs cells slots Q (F0 m pc ls (.int (nI b) :: .int (nI a) :: rest)) :=
  lv_iand hx hb hdg (nv_top (by rw [nb_and, h]) k)
/-- a mask of the j lowest bits -/
theorem nv_iandm (hx : p.tables.exec = Jvm.exec) (hb : c.code = cc) {a b : Nat} (j : Nat) (h : b = 2 ^ j - 1) (hdg : decode cc pc = .ok (.iand, 1))
    (k : W p l e R s m args below meth c H locs cells slots Q (F0 m (pc + 1) ls (.int (nI (a % 2 ^ j)) :: rest))) : W p l e R s m args below meth c H locs cells slots Q (F0 m pc ls (.int (nI b) :: .int (nI a) :: rest)) :=
  lv_iand hx hb hdg (nv_top (by rw [h]; exact nb_msk) k)
theorem nv_ior (hx : p.tables.exec = Jvm.exec) (hb : c.code = cc) {a b r : Nat} (h : a ||| b = r) (hdg : decode cc pc = .ok (.ior, 1))
    (k : W p l e R s m args below meth c H locs cells slots Q (F0 m (pc + 1) ls (.int (nI r) :: rest))) : W p l e R s m args below meth c H locs cells slots Q (F0 m pc ls (.int (nI b) :: .int (nI a) :: rest)) :=
  lv_ior hx hb hdg (nv_top (by rw [nb_or, h]) k)
theorem nv_ixor (hx : p.tables.exec = Jvm.exec) (hb : c.code = cc) {a b : Nat} (hdg : decode cc pc = .ok (.ixor, 1))
    (k : W p l e R s m args below meth c H locs cells slots Q (F0 m (pc + 1) ls (.int (nI (a ^^^ b)) :: rest))) : W p l e R s m args below meth c H locs cells slots Q (F0 m pc ls (.int (nI b) :: .int (nI a) :: rest)) :=
  lv_ixor hx hb hdg (nv_top (nb_xor a b) k)
theorem nv_icmp_lt (hx : p.tables.exec = Jvm.exec) (hb : c.code = cc) {a b : Nat} {off : Int} {tgt : Nat} (hdg : decode cc pc = .ok (.if_icmp .lt off, 3)) (ht : (pc : Int) + off = (tgt : Int)) (ha : a < 2 ^ 31) (hb2 : b < 2 ^ 31)
    (kt : a < b → W p l e R s m args below meth c H locs cells slots Q (F0 m tgt ls rest)) (kf : b ≤ a → W p l e R s m args below meth c H locs cells slots Q (F0 m (pc + 3) ls rest)) : W p l e R s m args below meth c H locs cells slots Q (F0 m pc ls (.int (nI b) :: .int (nI a) :: rest)) :=
  lv_icmp_lt hx hb hdg ht (fun h => kt ((nI_ltI ha hb2).mp h)) (fun h => kf (Nat.le_of_not_lt fun q => h ((nI_ltI ha hb2).mpr q)))
theorem nv_icmp_ge (hx : p.tables.exec = Jvm.exec) (hb : c.code = cc) {a b : Nat} {off : Int} {tgt : Nat} (hdg : decode cc pc = .ok (.if_icmp .ge off, 3)) (ht : (pc : Int) + off = (tgt : Int)) (ha : a < 2 ^ 31) (hb2 : b < 2 ^ 31)
    (kt : b ≤ a → W p l e R s m args below meth c H locs cells slots Q (F0 m tgt ls rest)) (kf : a < b → W p l e R s m args below meth c H locs cells slots Q (F0 m (pc + 3) ls rest)) : W p l e R s m args below meth c H locs cells slots Q (F0 m pc ls (.int (nI b) :: .int (nI a) :: rest)) :=
  lv_icmp_ge hx hb hdg ht (fun h => kt ((nI_leI hb2 ha).mp h)) (fun h => kf (Nat.lt_of_not_le fun q => h ((nI_leI hb2 ha).mpr q)))
theorem nv_icmp_le (hx : p.tables.exec = Jvm.exec) (hb : c.code = cc) {a b : Nat} {off : Int} {tgt : Nat} (hdg : decode cc pc = .ok (.if_icmp .le off, 3)) (ht : (pc : Int) + off = (tgt : Int)) (ha : a < 2 ^ 31) (hb2 : b < 2 ^ 31)
    (kt : a ≤ b → W p l e R s m args below meth c H locs cells slots Q (F0 m tgt ls rest)) (kf : b < a → W p l e R s m args below meth c H locs cells slots Q (F0 m (pc + 3) ls rest)) : W p l e R s m args below meth c H locs cells slots Q (F0 m pc ls (.int (nI b) :: .int (nI a) :: rest)) :=
  lv_icmp_le hx hb hdg ht (fun h => kt ((nI_leI ha hb2).mp h)) (fun h => kf (Nat.lt_of_not_le fun q => h ((nI_leI ha hb2).mpr q)))
theorem nv_icmp_gt (hx : p.tables.exec = Jvm.exec) (hb : c.code = cc) {a b : Nat} {off : Int} {tgt : Nat} (hdg : decode cc pc = .ok (.if_icmp .gt off, 3)) (ht : (pc : Int) + off = (tgt : Int)) (ha : a < 2 ^ 31) (hb2 : b < 2 ^ 31)
    (kt : b < a → W p l e R s m args below meth c H locs cells slots Q (F0 m tgt ls rest)) (kf : a ≤ b → W p l e R s m args below meth c H locs cells slots Q (F0 m (pc + 3) ls rest)) : W p l e R s m args below meth c H locs cells slots Q (F0 m pc ls (.int (nI b) :: .int (nI a) :: rest)) :=
  lv_icmp_gt hx hb hdg ht (fun h => kt ((nI_ltI hb2 ha).mp h)) (fun h => kf (Nat.le_of_not_lt fun q => h ((nI_ltI hb2 ha).mpr q)))
theorem nv_icmp_eq (hx : p.tables.exec = Jvm.exec) (hb : c.code = cc) {a b : Nat} {off : Int} {tgt : Nat} (hdg : decode cc pc = .ok (.if_icmp .eq off, 3)) (ht : (pc : Int) + off = (tgt : Int)) (ha : a < 2 ^ 31) (hb2 : b < 2 ^ 31)
    (kt : a = b → W p l e R s m args below meth c H locs cells slots Q (F0 m tgt ls rest)) (kf : a ≠ b → W p l e R s m args below meth c H locs cells slots Q (F0 m (pc + 3) ls rest)) : W p l e R s m args below meth c H locs cells slots Q (F0 m pc ls (.int (nI b) :: .int (nI a) :: rest)) :=
  lv_icmp_eq hx hb hdg ht (fun h => kt ((nI_eq ha hb2).mp h)) (fun h => kf (fun q => h ((nI_eq ha hb2).mpr q)))
theorem nv_icmp_ne (hx : p.tables.exec = Jvm.exec) (hb : c.code = cc) {a b : Nat} {off : Int} {tgt : Nat} (hdg : decode cc pc = .ok (.if_icmp .ne off, 3)) (ht : (pc : Int) + off = (tgt : Int)) (ha : a < 2 ^ 31) (hb2 : b < 2 ^ 31)
    (kt : a ≠ b → W p l e R s m args below meth c H locs cells slots Q (F0 m tgt ls rest)) (kf : a = b → W p l e R s m args below meth c H locs cells slots Q (F0 m (pc + 3) ls rest)) : W p l e R s m args below meth c H locs cells slots Q (F0 m pc ls (.int (nI b) :: .int (nI a) :: rest)) :=
  lv_icmp_ne hx hb hdg ht (fun h => kt (fun q => h ((nI_eq ha hb2).mpr q))) (fun h => kf ((nI_eq ha hb2).mp h))
theorem nv_if_eq (hx : p.tables.exec = Jvm.exec) (hb : c.code = cc) {a : Nat} {off : Int} {tgt : Nat} (hdg : decode cc pc = .ok (.ifCond .eq off, 3)) (ht : (pc : Int) + off = (tgt : Int)) (ha : a < 2 ^ 31)
    (kt : a = 0 → W p l e R s m args below meth c H locs cells slots Q (F0 m tgt ls rest)) (kf : a ≠ 0 → W p l e R s m args below meth c H locs cells slots Q (F0 m (pc + 3) ls rest)) : W p l e R s m args below meth c H locs cells slots Q (F0 m pc ls (.int (nI a) :: rest)) :=
  lv_if_eq hx hb hdg ht (fun h => kt ((nI_eq ha (by decide)).mp h)) (fun h => kf (fun q => h (by rw [q]; rfl)))
theorem nv_if_ne (hx : p.tables.exec = Jvm.exec) (hb : c.code = cc) {a : Nat} {off : Int} {tgt : Nat} (hdg : decode cc pc = .ok (.ifCond .ne off, 3)) (ht : (pc : Int) + off = (tgt : Int)) (ha : a < 2 ^ 31)
    (kt : a ≠ 0 → W p l e R s m args below meth c H locs cells slots Q (F0 m tgt ls rest)) (kf : a = 0 → W p l e R s m args below meth c H locs cells slots Q (F0 m (pc + 3) ls rest)) : W p l e R s m args below meth c H locs cells slots Q (F0 m pc ls (.int (nI a) :: rest)) :=
  lv_if_ne hx hb hdg ht (fun h => kt (fun q => h (by rw [q]; rfl))) (fun h => kf ((nI_eq ha (by decide)).mp h))
/-- a number that is not negative, held against 0 -/
theorem nv_if_ltF (hx : p.tables.exec = Jvm.exec) (hb : c.code = cc) {a : Nat} {off : Int} (tgt : Nat) (hdg : decode cc pc = .ok (.ifCond .lt off, 3)) (ht : (pc : Int) + off = (tgt : Int)) (ha : a < 2 ^ 31)
    (kf : W p l e R s m args below meth c H locs cells slots Q (F0 m (pc + 3) ls rest)) : W p l e R s m args below meth c H locs cells slots Q (F0 m pc ls (.int (nI a) :: rest)) :=
  lv_if_lt hx hb hdg ht (fun h => absurd h (nI_pos ha)) (fun _ => kf)
theorem nv_if_geT (hx : p.tables.exec = Jvm.exec) (hb : c.code = cc) {a : Nat} {off : Int} {tgt : Nat} (hdg : decode cc pc = .ok (.ifCond .ge off, 3)) (ht : (pc : Int) + off = (tgt : Int)) (ha : a < 2 ^ 31)
    (kt : W p l e R s m args below meth c H locs cells slots Q (F0 m tgt ls rest)) : W p l e R s m args below meth c H locs cells slots Q (F0 m pc ls (.int (nI a) :: rest)) :=
  lv_if_ge hx hb hdg ht (fun _ => kt) (fun h => absurd (nI_pos' ha) h)
theorem nv_if_le (hx : p.tables.exec = Jvm.exec) (hb : c.code = cc) {a : Nat} {off : Int} {tgt : Nat} (hdg : decode cc pc = .ok (.ifCond .le off, 3)) (ht : (pc : Int) + off = (tgt : Int)) (ha : a < 2 ^ 31)
    (kt : a = 0 → W p l e R s m args below meth c H locs cells slots Q (F0 m tgt ls rest)) (kf : 0 < a → W p l e R s m args below meth c H locs cells slots Q (F0 m (pc + 3) ls rest)) : W p l e R s m args below meth c H locs cells slots Q (F0 m pc ls (.int (nI a) :: rest)) :=
  lv_if_le hx hb hdg ht (fun h => kt (Nat.le_zero.mp ((nI_leI ha (by decide)).mp h))) (fun h => kf (Nat.pos_of_ne_zero fun q => h (by rw [q]; decide)))
theorem nv_if_gt (hx : p.tables.exec = Jvm.exec) (hb : c.code = cc) {a : Nat} {off : Int} {tgt : Nat} (hdg : decode cc pc = .ok (.ifCond .gt off, 3)) (ht : (pc : Int) + off = (tgt : Int)) (ha : a < 2 ^ 31)
    (kt : 0 < a → W p l e R s m args below meth c H locs cells slots Q (F0 m tgt ls rest)) (kf : a = 0 → W p l e R s m args below meth c H locs cells slots Q (F0 m (pc + 3) ls rest)) : W p l e R s m args below meth c H locs cells slots Q (F0 m pc ls (.int (nI a) :: rest)) :=
  lv_if_gt hx hb hdg ht (fun h => kt (Nat.pos_of_ne_zero fun q => by rw [q] at h; exact absurd h (by decide))) (fun h => kf (Classical.byContradiction fun q => h ((nI_ltI (by decide) ha).mpr (Nat.pos_of_ne_zero q))))
end
end
section
/-! CONTRACTS AND CALLS: one form of contract for all methods: a start world, a post world, the frame; a call is one row. -/
def nw_ok : Cond → Bool
  | .fieldLinkNest .. => true
  | .methodLinkNest .. => true
  | .castable .. => true
  | _ => false
theorem nw_on {w : Cond} (h : nw_ok w = true) : w.onTables = true := by
  cases w with
  | fieldLinkNest => rfl
  | methodLinkNest => rfl
  | castable => rfl
  | _ => exact Bool.noConfusion h
/-- what a world stands on: the classes, the array classes, the words of the nest -/
def gk (cl : List vw_C) (nw : List Cond) (D : va_G) (tys : List (ClassId × FieldType)) (U : State) : Prop := va_K D cl tys U ∧ ∀ w ∈ nw, nw_ok w = true ∧ va_Nw w U
theorem gk.warm {cl : List vw_C} {nw : List Cond} {D : va_G} {tys : List (ClassId × FieldType)} {s U : State} (hW : s.WarmedH U.vm) (h : gk cl nw D tys s) : gk cl nw D tys U := by
  refine ⟨va_K.moved hW.alike h.1, fun w hw => ⟨(h.2 w hw).1, ?_⟩⟩
  obtain ⟨h2, h1⟩ := h.2 w hw
  cases w with
  | fieldLinkNest => exact va_Nw.warmF hW h1
  | methodLinkNest => exact va_Nw.warmM hW h1
  | castable => exact va_Nw.warmC hW h1
  | _ => exact Bool.noConfusion h2
theorem gk.call {cl : List vw_C} {nw : List Cond} {D : va_G} {tys : List (ClassId × FieldType)} {U : State} (g : JFrame) (mk : MethodId) (a : Array Value) (h : gk cl nw D tys U) : gk cl nw D tys (U.calling g mk a) :=
  ⟨va_K.moved (u := U) (U := U.calling g mk a) (Vm.Alike.refl U.vm) h.1, fun w hw => ⟨(h.2 w hw).1, va_Nw.same (u := U) (U := U.calling g mk a) (nw_on (h.2 w hw).1) rfl (h.2 w hw).2⟩⟩
def cPre (cl : List vw_C) (nw : List Cond) (D : va_G) (tys : List (ClassId × FieldType)) (av : List Value) (w0 : va_W) (sz : Nat) : Array Value → State → Prop :=
  va_Pc av (fun U => U.heap.size = sz ∧ va_P D cl w0 U.heap ∧ gk cl nw D tys U ∧ va_D (fun _ => True) w0)
theorem cPre.blind {cl : List vw_C} {nw : List Cond} {D : va_G} {tys : List (ClassId × FieldType)} {av : List Value} {w0 : va_W} {sz : Nat} : FrameBlind (cPre cl nw D tys av w0 sz) := fun a U g mk q => by
  obtain ⟨q0, q1, qP, qK, qD⟩ := q
  exact ⟨q0, q1, qP, qK.call g mk a, qD⟩
/-- the contract of a method that answers an int -/
def CI {S : Type} (l : Launch) (cl : List vw_C) (nw : List Cond) (D : va_G) (tys : List (ClassId × FieldType)) (y : MethodName) (ws : List Cond) (rm : Room) (av : List Value) (w0 : va_W) (post : Int32 → S → Prop) (w1 : S → va_W) : Prop :=
  ∀ sz, Met l y ws rm (cPre cl nw D tys av w0 sz) (va_Qi post (fun u t => va_P D cl (w1 u) t.heap ∧ va_D (va_A w0 sz) (w1 u)) (va_A w0 sz)) rm.cells rm.slots (va_A w0 sz)
/-- the contract of a method that answers nothing -/
def CV {S : Type} (l : Launch) (cl : List vw_C) (nw : List Cond) (D : va_G) (tys : List (ClassId × FieldType)) (y : MethodName) (ws : List Cond) (rm : Room) (av : List Value) (w0 : va_W) (post : S → Prop) (w1 : S → va_W) : Prop :=
  ∀ sz, Met l y ws rm (cPre cl nw D tys av w0 sz) (va_Qv post (fun u t => va_P D cl (w1 u) t.heap ∧ va_D (va_A w0 sz) (w1 u)) (va_A w0 sz)) rm.cells rm.slots (va_A w0 sz)
theorem fm_of {α β : Type} {f : α → Option β} : ∀ (is : List α) (l : List β), is.map f = l.map some → is.filterMap f = l
  | [], [], _ => rfl
  | [], _ :: _, h => by cases h
  | _ :: _, [], h => by cases h
  | i :: is, b :: l, h => by
    rw [List.map_cons, List.map_cons] at h
    have h1 := (List.cons.inj h).1
    have h2 := fm_of is l (List.cons.inj h).2
    rw [List.filterMap_cons, h1, h2]
theorem hP_in {D : va_G} {cl : List vw_C} {ws ws' : va_W} {H : Heap} (h : va_P D cl ws H) (is : List Nat) (hs : is.map (fun i => ws[i]?) = ws'.map some) : va_P D cl ws' H := h.sub is (fm_of is ws' hs)
section
variable {p : Program} {l : Launch} {e : Env} {R : Room} {s : State} {m : MethodId} {args : Array Value} {below : List Frame} {meth : Method} {c : Code} {H : Heap} {locs : List Loc} {cells slots : Nat} {Q : State → Prop}
variable {pc : Nat} {ls : Array Slot} {rest st0 : List Value} {A : Nat → Prop} {H0 : Heap} {cl : List vw_C} {nw : List Cond} {D : va_G} {tys : List (ClassId × FieldType)}
variable {y : MethodName} {bytes cc : ByteArray} {maxL nL n index : Nat} {ret : Option FieldType} {ws : List Cond} {rm : Room} {Ts : List Cond} {own C : String} {b : Addr} {As : List Value} {wh wc wr : va_W}
/-- behind a call: the callee's cells stand in their places (isB) beside the rest -/
theorem kc_i {S : Type} {post : Int32 → S → Prop} {w1 w2 : S → va_W} {a : Array Value} {mc ms : Nat}
    (hr : va_Run p l e R s m args below meth c H locs cells slots mc ms (F0 m pc ls st0) rest (va_Qi post (fun u t => va_P D cl (w1 u) t.heap ∧ va_D (va_A wc H.size) (w1 u)) (va_A wc H.size) a) (va_A wc H.size))
    (hP : va_P D cl wh H) (hD : va_D A wh) (hS : va_S A H0 H locs) (hA : ∀ q, H0.size ≤ q → A q)
    (isC isR isB : List Nat) (hC : isC.map (fun i => wh[i]?) = wc.map some) (hR : isR.map (fun i => wh[i]?) = wr.map some) (hn : va_nd isR = true) (hdis : ∀ i ∈ isR, i ∉ isC) (hnB : va_nd isB = true) (hB2 : ∀ u, isB.map (fun i => (wr ++ w1 u)[i]?) = (w2 u).map some)
    (kk : ∀ (r : Int32) (u : S) (H1 : Heap) (locs1 : List Loc), post r u → va_P D cl (w2 u) H1 → va_D A (w2 u) → va_S A H0 H1 locs1 → W p l e R s m args below meth c H1 locs1 (cells + mc) (slots + ms) Q (F0 m (pc + 3) ls (.int r :: rest))) : W p l e R s m args below meth c H locs cells slots Q (F0 m pc ls st0) := by
  have hF := va_free hD hS hA isC hC
  refine va_calli hr hS (fun q _ h => hF q h) hF (fun r u t H1 locs1 ht _ hw hB _ hk hS1 => ?_)
  obtain ⟨hP1, hD1⟩ := hB
  rw [ht] at hP1
  obtain ⟨hP2, hD2⟩ := va_join hP hD isC isR hC hR hn hdis hk hF hP1 hD1
  exact kk r u H1 locs1 hw (hP_in hP2 isB (hB2 u)) (hD2.sub isB hnB (hB2 u)) hS1
theorem kc_v {S : Type} {post : S → Prop} {w1 w2 : S → va_W} {a : Array Value} {mc ms : Nat}
    (hr : va_Run p l e R s m args below meth c H locs cells slots mc ms (F0 m pc ls st0) rest (va_Qv post (fun u t => va_P D cl (w1 u) t.heap ∧ va_D (va_A wc H.size) (w1 u)) (va_A wc H.size) a) (va_A wc H.size))
    (hP : va_P D cl wh H) (hD : va_D A wh) (hS : va_S A H0 H locs) (hA : ∀ q, H0.size ≤ q → A q)
    (isC isR isB : List Nat) (hC : isC.map (fun i => wh[i]?) = wc.map some) (hR : isR.map (fun i => wh[i]?) = wr.map some) (hn : va_nd isR = true) (hdis : ∀ i ∈ isR, i ∉ isC) (hnB : va_nd isB = true) (hB2 : ∀ u, isB.map (fun i => (wr ++ w1 u)[i]?) = (w2 u).map some)
    (kk : ∀ (u : S) (H1 : Heap) (locs1 : List Loc), post u → va_P D cl (w2 u) H1 → va_D A (w2 u) → va_S A H0 H1 locs1 → W p l e R s m args below meth c H1 locs1 (cells + mc) (slots + ms) Q (F0 m (pc + 3) ls rest)) : W p l e R s m args below meth c H locs cells slots Q (F0 m pc ls st0) := by
  have hF := va_free hD hS hA isC hC
  refine va_callv hr hS (fun q _ h => hF q h) hF (fun u t H1 locs1 ht _ hw hB _ hk hS1 => ?_)
  obtain ⟨hP1, hD1⟩ := hB
  rw [ht] at hP1
  obtain ⟨hP2, hD2⟩ := va_join hP hD isC isR hC hR hn hdis hk hF hP1 hD1
  exact kk u H1 locs1 hw (hP_in hP2 isB (hB2 u)) (hD2.sub isB hnB (hB2 u)) hS1
/-- what a caller gives a callee: its cells out of the caller's -/
theorem k_pre {av : List Value} (hG : gk cl nw D tys s) (hP : va_P D cl wh H) (hD : va_D A wh) (isC : List Nat) (hC : isC.map (fun i => wh[i]?) = wc.map some) (hnC : va_nd isC = true) :
    ∀ U : State, U.heap = H → s.WarmedH U.vm → cPre cl nw D tys av wc H.size av.toArray U := fun U hU hW =>
  ⟨rfl, by rw [hU], by rw [hU]; exact hP_in hP isC hC, hG.warm hW, (hD.sub isC hnC hC).weaken (fun _ _ _ _ => trivial)⟩
/-- the receiver stands in the callee's cells -/
theorem k_rcv {q0 ci : Nat} {fs : List Value} {q : vw_C} (hG : gk cl nw D tys s) (hP : va_P D cl wh H) (isC : List Nat) (hC : isC.map (fun i => wh[i]?) = wc.map some) (hq : wc[q0]? = some (b, .inr (ci, fs))) (hc : cl[ci]? = some q) :
    ∃ cell : Cell, H[b]? = some cell ∧ cell.vm.isStatics = false ∧ s.vm.findClass q.1 = some cell.cls := va_recv hG.1 (hP_in hP isC hC) hc hq
end
theorem gi_tb {TB : List Cond} {c1 c2 : Cond} (hTB : GoodIn TB TB) (h2 : c2 ∈ TB) : GoodIn (c1 :: TB) (c2 :: TB) := fun w hw => by
  rcases List.mem_cons.mp hw with rfl | h
  · exact ⟨List.mem_cons_of_mem _ h2, (hTB _ h2).2⟩
  · exact ⟨List.mem_cons_of_mem _ h, (hTB _ h).2⟩
theorem gi_app {big a b : List Cond} (ha : GoodIn big a) (hb : GoodIn big b) : GoodIn big (a ++ b) := fun w hw => by
  rcases List.mem_append.mp hw with h | h
  · exact ha w h
  · exact hb w h
theorem gi_nil {big : List Cond} : GoodIn big [] := fun _ h => by cases h
theorem gi_cons {TB : List Cond} {c1 w : Cond} {l : List Cond} (hTB : GoodIn TB TB) (h : w ∈ TB) (hl : GoodIn (c1 :: TB) l) : GoodIn (c1 :: TB) (w :: l) := fun v hv => by
  rcases List.mem_cons.mp hv with rfl | h'
  · exact ⟨List.mem_cons_of_mem _ h, (hTB _ h).2⟩
  · exact hl v h'
theorem gi_V {TB : List Cond} {c1 c2 : Cond} {own C : String} {idx : Nat} {y : MethodName} (hTB : GoodIn TB TB) (h2 : c2 ∈ TB) (a1 : Cond.methodLink own idx y ∈ TB) (a2 : Cond.instanceMethod y ∈ TB) (a3 : Cond.selects C y y ∈ TB) (a4 : Cond.initialized C ∈ TB) : GoodIn (c1 :: TB) (wsV own idx C y (c2 :: TB)) :=
  gi_app (gi_cons hTB a1 (gi_cons hTB a2 (gi_cons hTB a3 (gi_cons hTB a4 gi_nil)))) (gi_tb hTB h2)
theorem gi_S {TB : List Cond} {c1 c2 : Cond} {own : String} {idx : Nat} {y : MethodName} (hTB : GoodIn TB TB) (h2 : c2 ∈ TB) (a1 : Cond.methodLink own idx y ∈ TB) (a2 : Cond.static y ∈ TB) (a4 : Cond.initialized own ∈ TB) : GoodIn (c1 :: TB) (wsS own idx y (c2 :: TB)) :=
  gi_app (gi_cons hTB a1 (gi_cons hTB a2 (gi_cons hTB a4 gi_nil))) (gi_tb hTB h2)
/-- a contract at another start and another end -/
theorem Met_cs {l : Launch} {y : MethodName} {ws : List Cond} {rm : Room} {Pc Pc' : Array Value → State → Prop} {Qc Qc' : Array Value → State → Outcome → State → Prop} {mc ms : Nat} {free free' : Addr → Prop} (h : Met l y ws rm Pc Qc mc ms free) (hP : ∀ a s, Pc' a s → Pc a s) (hQ : ∀ a s o t, Pc' a s → Qc a s o t → Qc' a s o t) (hf : ∀ q, free q → free' q) : Met l y ws rm Pc' Qc' mc ms free' := by
  intro p e ha hc hk s m args below hfr hap hpc hK
  obtain ⟨n, o, h1, h2, h3, hq, L, h4, h5⟩ := h p e ha hc hk s m args below hfr hap (hP _ _ hpc) hK
  exact ⟨n, o, h1, h2, h3, hQ _ _ _ _ hpc hq, L, h4, fun q hq => hf _ (h5 q hq)⟩
end
section
/-! A METHOD'S BODY: from the walk of its body, with an end that is left open (Q), to its contract; a call as one row. -/
/-- what stands all along a body: the machine, the code, the class that owns it, the words TB -/
def bd (p : Program) (c : Code) (cc : ByteArray) (nL : Nat) (s : State) (args : Array Value) (TB : List Cond) (own : String) (m : MethodId) : Prop :=
  p.tables.exec = Jvm.exec ∧ c.code = cc ∧ c.maxLocals = nL ∧ s.vm.findClass own = some m.cls ∧ ∀ w ∈ TB, w.before args s = true
theorem CI.of {S : Type} {l : Launch} {cl : List vw_C} {nw : List Cond} {D : va_G} {tys : List (ClassId × FieldType)} {y : MethodName} {cc : ByteArray} {maxL : Nat} {ty : FieldType} {TB : List Cond} {rm : Room} {av : List Value} {w0 : va_W} {post : Int32 → S → Prop} {w1 : S → va_W}
    (hy : plainName y.cls = true) (hlen : (lg_sl av).length ≤ maxL)
    (body : ∀ (p : Program) (e : Env) (s : State) (m : MethodId) (args : Array Value) (below : List Frame) (meth : Method) (c : Code) (A : Nat → Prop) (Q : State → Prop) (ls : Array Slot),
      bd p c cc maxL s args TB y.cls m → gk cl nw D tys s → (∀ q, s.heap.size ≤ q → A q) → va_P D cl w0 s.heap → va_D A w0 → va_S A s.heap s.heap [] → lv_has ls maxL (lv_args 0 av) →
      (∀ (r : Int32) (u : S) (H : Heap) (locs : List Loc) (pc : Nat) (ls : Array Slot), decode cc pc = .ok (.ireturn, 1) → narrow ty (.int r) = .int r → post r u → va_P D cl (w1 u) H → va_D A (w1 u) → va_S A s.heap H locs → W p l e rm s m args below meth c H locs rm.cells rm.slots Q (F0 m pc ls [.int r])) →
      W p l e rm s m args below meth c s.heap [] 0 0 Q (F0 m 0 ls [])) :
    CI l cl nw D tys y (.code y cc maxL (some ty) :: TB) rm av w0 post w1 := by
  intro sz
  refine Met.ofW (cc := cc) (maxL := maxL) (ret := some ty) hy rfl ?_
  intro p e s m args below meth c s₁ B hml hv
  obtain ⟨rfl, hsz, hP, hK, hD0⟩ := hv
  have hts := atoms_spec (ws := .code y cc maxL (some ty) :: TB) B.pre
  have hown : s.vm.findClass y.cls = some m.cls := findClass_of_methodNamed B.named
  have hlocks := B.notSynchronized
  have hr := B.returns
  subst hsz
  have hD := hD0.self (sz := s.heap.size)
  have hl := lv_entry av (n := maxL) hlen
  rw [lg_entry_eq]
  exact body p e s m _ below meth c (va_A w0 s.heap.size) _ _ ⟨B.exec, B.bytes, hml, hown, fun w hw => hts w (List.mem_cons_of_mem _ hw)⟩ hK (fun q h => Or.inr h) hP hD va_S.rf hl
    (fun r u H locs pc ls hdg hn hpost hP1 hD1 hS1 => W.zret B.exec B.bytes hr hn (fun t ht _ => ⟨⟨r, u, rfl, hpost, by rw [ht]; exact hP1, hD1⟩, hS1.F ht⟩) hS1.2.2 hdg hlocks)
theorem CV.of {S : Type} {l : Launch} {cl : List vw_C} {nw : List Cond} {D : va_G} {tys : List (ClassId × FieldType)} {y : MethodName} {cc : ByteArray} {maxL : Nat} {TB : List Cond} {rm : Room} {av : List Value} {w0 : va_W} {post : S → Prop} {w1 : S → va_W}
    (hy : plainName y.cls = true) (hlen : (lg_sl av).length ≤ maxL)
    (body : ∀ (p : Program) (e : Env) (s : State) (m : MethodId) (args : Array Value) (below : List Frame) (meth : Method) (c : Code) (A : Nat → Prop) (Q : State → Prop) (ls : Array Slot),
      bd p c cc maxL s args TB y.cls m → gk cl nw D tys s → (∀ q, s.heap.size ≤ q → A q) → va_P D cl w0 s.heap → va_D A w0 → va_S A s.heap s.heap [] → lv_has ls maxL (lv_args 0 av) → meth.name = y.name →
      (∀ (u : S) (H : Heap) (locs : List Loc) (pc : Nat) (ls : Array Slot), decode cc pc = .ok (.return_, 1) → post u → va_P D cl (w1 u) H → va_D A (w1 u) → va_S A s.heap H locs → W p l e rm s m args below meth c H locs rm.cells rm.slots Q (F0 m pc ls [])) →
      W p l e rm s m args below meth c s.heap [] 0 0 Q (F0 m 0 ls [])) :
    CV l cl nw D tys y (.code y cc maxL none :: TB) rm av w0 post w1 := by
  intro sz
  refine Met.ofW (cc := cc) (maxL := maxL) (ret := none) hy rfl ?_
  intro p e s m args below meth c s₁ B hml hv
  obtain ⟨rfl, hsz, hP, hK, hD0⟩ := hv
  have hts := atoms_spec (ws := .code y cc maxL none :: TB) B.pre
  have hown : s.vm.findClass y.cls = some m.cls := findClass_of_methodNamed B.named
  have hlocks := B.notSynchronized
  have hr := B.returns
  subst hsz
  have hD := hD0.self (sz := s.heap.size)
  have hl := lv_entry av (n := maxL) hlen
  rw [lg_entry_eq]
  exact body p e s m _ below meth c (va_A w0 s.heap.size) _ _ ⟨B.exec, B.bytes, hml, hown, fun w hw => hts w (List.mem_cons_of_mem _ hw)⟩ hK (fun q h => Or.inr h) hP hD va_S.rf hl (name_of_methodNamed B.named B.method).1
    (fun u H locs pc ls hdg hpost hP1 hD1 hS1 => W.vret B.exec B.bytes hr (fun t ht _ => ⟨⟨u, rfl, hpost, by rw [ht]; exact hP1, hD1⟩, hS1.F ht⟩) hS1.2.2 hdg hlocks)
section
variable {p : Program} {l : Launch} {e : Env} {R : Room} {s : State} {m : MethodId} {args : Array Value} {below : List Frame} {meth : Method} {c : Code} {H : Heap} {locs : List Loc} {cells slots : Nat} {Q : State → Prop}
variable {pc : Nat} {ls : Array Slot} {st0 : List Value} {A : Nat → Prop} {H0 : Heap} {cl : List vw_C} {nw : List Cond} {D : va_G} {tys : List (ClassId × FieldType)}
variable {y : MethodName} {bytes cc : ByteArray} {maxL nL n index : Nat} {ret : Option FieldType} {rm : Room} {TB : List Cond} {own C : String} {b : Addr} {wh wc wr : va_W}
/-- the links of a virtual call -/
def lkV (TB : List Cond) (own : String) (index : Nat) (C : String) (y : MethodName) (cd : Cond) : Prop := GoodIn TB (wsV own index C y (cd :: TB)) ∧ (y.cls = C ∧ y.cls ≠ "java/lang/invoke/MethodHandle" ∧ y.cls ≠ "java/lang/invoke/VarHandle")
def lkS (TB : List Cond) (own : String) (index : Nat) (y : MethodName) (cd : Cond) : Prop := GoodIn TB (wsS own index y (cd :: TB)) ∧ (y.cls = own ∧ y.cls ≠ "java/lang/invoke/MethodHandle" ∧ y.cls ≠ "java/lang/invoke/VarHandle")
def fitsRoom (rm R : Room) (maxL : Nat) : Bool := Nat.ble (rm.frames + 1) R.frames && Nat.ble (8 + (maxL + 11) + rm.locals) R.locals
theorem fitsRoom.ok {rm R : Room} {maxL : Nat} (h : fitsRoom rm R maxL = true) : rm.frames + 1 ≤ R.frames ∧ 8 + (maxL + 11) + rm.locals ≤ R.locals := by
  unfold fitsRoom at h
  rw [Bool.and_eq_true] at h
  exact ⟨Nat.le_of_ble_eq_true h.1, Nat.le_of_ble_eq_true h.2⟩
end
end
section
section
variable {p : Program} {l : Launch} {e : Env} {R : Room} {s : State} {m : MethodId} {args : Array Value} {below : List Frame} {meth : Method} {c : Code} {H : Heap} {locs : List Loc} {cells slots : Nat} {Q : State → Prop}
variable {pc : Nat} {ls : Array Slot} {st0 : List Value} {A : Nat → Prop} {H0 : Heap} {cl : List vw_C} {nw : List Cond} {D : va_G} {tys : List (ClassId × FieldType)}
variable {y : MethodName} {bytes cc : ByteArray} {maxL nL index : Nat} {ret : Option FieldType} {rm : Room} {TB : List Cond} {own C host : String} {b : Addr} {wh wc wr : va_W}
def okI (isC isR isB : List Nat) : Bool := va_nd isC && (va_nd isR && (va_nd isB && isR.all (fun i => !isC.contains i)))
theorem okI.ok {isC isR isB : List Nat} (h : okI isC isR isB = true) : va_nd isC = true ∧ va_nd isR = true ∧ va_nd isB = true ∧ ∀ i ∈ isR, i ∉ isC := by
  unfold okI at h
  rw [Bool.and_eq_true, Bool.and_eq_true, Bool.and_eq_true] at h
  refine ⟨h.1, h.2.1, h.2.2.1, fun i hi hc => ?_⟩
  have h1 := List.all_eq_true.mp h.2.2.2 i hi
  rw [List.contains_iff_mem.mpr hc] at h1
  exact Bool.noConfusion h1
theorem kV_i {S : Type} {post : Int32 → S → Prop} {w1 w2 : S → va_W} (As rest : List Value) (Bd : bd p c cc nL s args TB own m) (lk : lkV TB own index C y (.code y bytes maxL ret)) (hpn : (parseMethodDescriptor y.desc).map (fun d => d.parameters.length) = some As.length)
    (hc : CI l cl nw D tys y (.code y bytes maxL ret :: TB) rm (.ref b :: As) wc post w1) (hrm : fitsRoom rm R maxL = true) (hce : cells + rm.cells ≤ R.cells ∧ slots + rm.slots ≤ R.slots)
    (hG : gk cl nw D tys s) (hP : va_P D cl wh H) (hD : va_D A wh) (hS : va_S A H0 H locs) (hA : ∀ q, H0.size ≤ q → A q)
    (isC isR isB : List Nat) (hok : okI isC isR isB = true) (hC : isC.map (fun i => wh[i]?) = wc.map some) (hR : isR.map (fun i => wh[i]?) = wr.map some) (hB2 : ∀ u, isB.map (fun i => (wr ++ w1 u)[i]?) = (w2 u).map some)
    {q0 ci : Nat} {fs : List Value} {q : vw_C} (hq : wc[q0]? = some (b, .inr (ci, fs))) (hcl : cl[ci]? = some q) (hqC : q.1 = C) (hl : ls.size = nL) (hst : st0 = As.reverse ++ .ref b :: rest) (hw : (rest.map fun v => v.category).sum ≤ 8) (hdg : decode cc pc = .ok (.invokevirtual index, 3))
    (kk : ∀ (r : Int32) (u : S) (H1 : Heap) (locs1 : List Loc), post r u → va_P D cl (w2 u) H1 → va_D A (w2 u) → va_S A H0 H1 locs1 → W p l e R s m args below meth c H1 locs1 (cells + rm.cells) (slots + rm.slots) Q (F0 m (pc + 3) ls (.int r :: rest))) : W p l e R s m args below meth c H locs cells slots Q (F0 m pc ls st0) :=
  kc_i (va_runV (As := As) (rest := rest) Bd (hc H.size) (cwV As.length Bd.2.2.2.2 lk.1 rfl rfl rfl ⟨lk.2.1, lk.2.2.1, lk.2.2.2, hpn⟩ (fitsRoom.ok hrm)) ⟨cPre.blind, hqC ▸ k_rcv hG hP isC hC hq hcl, k_pre hG hP hD isC hC (okI.ok hok).1⟩ rfl rfl hl hst (lv_room hw) hdg hce) hP hD hS hA isC isR isB hC hR (okI.ok hok).2.1 (okI.ok hok).2.2.2 (okI.ok hok).2.2.1 hB2 kk
theorem kV_v {S : Type} {post : S → Prop} {w1 w2 : S → va_W} (As rest : List Value) (Bd : bd p c cc nL s args TB own m) (lk : lkV TB own index C y (.code y bytes maxL none)) (hpn : (parseMethodDescriptor y.desc).map (fun d => d.parameters.length) = some As.length)
    (hc : CV l cl nw D tys y (.code y bytes maxL none :: TB) rm (.ref b :: As) wc post w1) (hrm : fitsRoom rm R maxL = true) (hce : cells + rm.cells ≤ R.cells ∧ slots + rm.slots ≤ R.slots)
    (hG : gk cl nw D tys s) (hP : va_P D cl wh H) (hD : va_D A wh) (hS : va_S A H0 H locs) (hA : ∀ q, H0.size ≤ q → A q)
    (isC isR isB : List Nat) (hok : okI isC isR isB = true) (hC : isC.map (fun i => wh[i]?) = wc.map some) (hR : isR.map (fun i => wh[i]?) = wr.map some) (hB2 : ∀ u, isB.map (fun i => (wr ++ w1 u)[i]?) = (w2 u).map some)
    {q0 ci : Nat} {fs : List Value} {q : vw_C} (hq : wc[q0]? = some (b, .inr (ci, fs))) (hcl : cl[ci]? = some q) (hqC : q.1 = C) (hl : ls.size = nL) (hst : st0 = As.reverse ++ .ref b :: rest) (hw : (rest.map fun v => v.category).sum ≤ 8) (hdg : decode cc pc = .ok (.invokevirtual index, 3))
    (kk : ∀ (u : S) (H1 : Heap) (locs1 : List Loc), post u → va_P D cl (w2 u) H1 → va_D A (w2 u) → va_S A H0 H1 locs1 → W p l e R s m args below meth c H1 locs1 (cells + rm.cells) (slots + rm.slots) Q (F0 m (pc + 3) ls rest)) : W p l e R s m args below meth c H locs cells slots Q (F0 m pc ls st0) :=
  kc_v (va_runV (As := As) (rest := rest) Bd (hc H.size) (cwV As.length Bd.2.2.2.2 lk.1 rfl rfl rfl ⟨lk.2.1, lk.2.2.1, lk.2.2.2, hpn⟩ (fitsRoom.ok hrm)) ⟨cPre.blind, hqC ▸ k_rcv hG hP isC hC hq hcl, k_pre hG hP hD isC hC (okI.ok hok).1⟩ rfl rfl hl hst (lv_room hw) hdg hce) hP hD hS hA isC isR isB hC hR (okI.ok hok).2.1 (okI.ok hok).2.2.2 (okI.ok hok).2.2.1 hB2 kk
theorem kVN_i {S : Type} {post : Int32 → S → Prop} {w1 w2 : S → va_W} (As rest : List Value) (Bd : bd p c cc nL s args TB own m) (lk : GoodIn TB ((.code y bytes maxL ret) :: TB) ∧ Cond.instanceMethod y ∈ TB ∧ Cond.selects C y y ∈ TB ∧ Cond.initialized y.cls ∈ TB ∧ Cond.methodLinkNest own index y host ∈ nw ∧ y.cls ≠ "java/lang/invoke/MethodHandle" ∧ y.cls ≠ "java/lang/invoke/VarHandle") (hpn : (parseMethodDescriptor y.desc).map (fun d => d.parameters.length) = some As.length)
    (hc : CI l cl nw D tys y (.code y bytes maxL ret :: TB) rm (.ref b :: As) wc post w1) (hrm : fitsRoom rm R maxL = true) (hce : cells + rm.cells ≤ R.cells ∧ slots + rm.slots ≤ R.slots)
    (hG : gk cl nw D tys s) (hP : va_P D cl wh H) (hD : va_D A wh) (hS : va_S A H0 H locs) (hA : ∀ q, H0.size ≤ q → A q)
    (isC isR isB : List Nat) (hok : okI isC isR isB = true) (hC : isC.map (fun i => wh[i]?) = wc.map some) (hR : isR.map (fun i => wh[i]?) = wr.map some) (hB2 : ∀ u, isB.map (fun i => (wr ++ w1 u)[i]?) = (w2 u).map some)
    {q0 ci : Nat} {fs : List Value} {q : vw_C} (hq : wc[q0]? = some (b, .inr (ci, fs))) (hcl : cl[ci]? = some q) (hqC : q.1 = C) (hl : ls.size = nL) (hst : st0 = As.reverse ++ .ref b :: rest) (hw : (rest.map fun v => v.category).sum ≤ 8) (hdg : decode cc pc = .ok (.invokevirtual index, 3))
    (kk : ∀ (r : Int32) (u : S) (H1 : Heap) (locs1 : List Loc), post r u → va_P D cl (w2 u) H1 → va_D A (w2 u) → va_S A H0 H1 locs1 → W p l e R s m args below meth c H1 locs1 (cells + rm.cells) (slots + rm.slots) Q (F0 m (pc + 3) ls (.int r :: rest))) : W p l e R s m args below meth c H locs cells slots Q (F0 m pc ls st0) :=
  kc_i (va_runVN (As := As) (rest := rest) Bd (hc H.size) ⟨va_cnB As.length Bd.2.2.2.2 lk.1 rfl rfl rfl (hG.2 _ lk.2.2.2.2.1).2 (Bd.2.2.2.2 _ lk.2.2.2.1) ⟨lk.2.2.2.2.2.1, lk.2.2.2.2.2.2, hpn⟩ (fitsRoom.ok hrm), Bd.2.2.2.2 _ lk.2.1, Bd.2.2.2.2 _ lk.2.2.1⟩ ⟨cPre.blind, hqC ▸ k_rcv hG hP isC hC hq hcl, k_pre hG hP hD isC hC (okI.ok hok).1⟩ rfl rfl hl hst (lv_room hw) hdg hce) hP hD hS hA isC isR isB hC hR (okI.ok hok).2.1 (okI.ok hok).2.2.2 (okI.ok hok).2.2.1 hB2 kk
theorem kVN_v {S : Type} {post : S → Prop} {w1 w2 : S → va_W} (As rest : List Value) (Bd : bd p c cc nL s args TB own m) (lk : GoodIn TB ((.code y bytes maxL none) :: TB) ∧ Cond.instanceMethod y ∈ TB ∧ Cond.selects C y y ∈ TB ∧ Cond.initialized y.cls ∈ TB ∧ Cond.methodLinkNest own index y host ∈ nw ∧ y.cls ≠ "java/lang/invoke/MethodHandle" ∧ y.cls ≠ "java/lang/invoke/VarHandle") (hpn : (parseMethodDescriptor y.desc).map (fun d => d.parameters.length) = some As.length)
    (hc : CV l cl nw D tys y (.code y bytes maxL none :: TB) rm (.ref b :: As) wc post w1) (hrm : fitsRoom rm R maxL = true) (hce : cells + rm.cells ≤ R.cells ∧ slots + rm.slots ≤ R.slots)
    (hG : gk cl nw D tys s) (hP : va_P D cl wh H) (hD : va_D A wh) (hS : va_S A H0 H locs) (hA : ∀ q, H0.size ≤ q → A q)
    (isC isR isB : List Nat) (hok : okI isC isR isB = true) (hC : isC.map (fun i => wh[i]?) = wc.map some) (hR : isR.map (fun i => wh[i]?) = wr.map some) (hB2 : ∀ u, isB.map (fun i => (wr ++ w1 u)[i]?) = (w2 u).map some)
    {q0 ci : Nat} {fs : List Value} {q : vw_C} (hq : wc[q0]? = some (b, .inr (ci, fs))) (hcl : cl[ci]? = some q) (hqC : q.1 = C) (hl : ls.size = nL) (hst : st0 = As.reverse ++ .ref b :: rest) (hw : (rest.map fun v => v.category).sum ≤ 8) (hdg : decode cc pc = .ok (.invokevirtual index, 3))
    (kk : ∀ (u : S) (H1 : Heap) (locs1 : List Loc), post u → va_P D cl (w2 u) H1 → va_D A (w2 u) → va_S A H0 H1 locs1 → W p l e R s m args below meth c H1 locs1 (cells + rm.cells) (slots + rm.slots) Q (F0 m (pc + 3) ls rest)) : W p l e R s m args below meth c H locs cells slots Q (F0 m pc ls st0) :=
  kc_v (va_runVN (As := As) (rest := rest) Bd (hc H.size) ⟨va_cnB As.length Bd.2.2.2.2 lk.1 rfl rfl rfl (hG.2 _ lk.2.2.2.2.1).2 (Bd.2.2.2.2 _ lk.2.2.2.1) ⟨lk.2.2.2.2.2.1, lk.2.2.2.2.2.2, hpn⟩ (fitsRoom.ok hrm), Bd.2.2.2.2 _ lk.2.1, Bd.2.2.2.2 _ lk.2.2.1⟩ ⟨cPre.blind, hqC ▸ k_rcv hG hP isC hC hq hcl, k_pre hG hP hD isC hC (okI.ok hok).1⟩ rfl rfl hl hst (lv_room hw) hdg hce) hP hD hS hA isC isR isB hC hR (okI.ok hok).2.1 (okI.ok hok).2.2.2 (okI.ok hok).2.2.1 hB2 kk
theorem kS_i {S : Type} {post : Int32 → S → Prop} {w1 w2 : S → va_W} (As rest : List Value) (Bd : bd p c cc nL s args TB own m) (lk : lkS TB own index y (.code y bytes maxL ret)) (hpn : (parseMethodDescriptor y.desc).map (fun d => d.parameters.length) = some As.length)
    (hc : CI l cl nw D tys y (.code y bytes maxL ret :: TB) rm As wc post w1) (hrm : fitsRoom rm R maxL = true) (hce : cells + rm.cells ≤ R.cells ∧ slots + rm.slots ≤ R.slots)
    (hG : gk cl nw D tys s) (hP : va_P D cl wh H) (hD : va_D A wh) (hS : va_S A H0 H locs) (hA : ∀ q, H0.size ≤ q → A q)
    (isC isR isB : List Nat) (hok : okI isC isR isB = true) (hC : isC.map (fun i => wh[i]?) = wc.map some) (hR : isR.map (fun i => wh[i]?) = wr.map some) (hB2 : ∀ u, isB.map (fun i => (wr ++ w1 u)[i]?) = (w2 u).map some)
     (hl : ls.size = nL) (hst : st0 = As.reverse ++ rest) (hw : (rest.map fun v => v.category).sum ≤ 8) (hdg : decode cc pc = .ok (.invokestatic index, 3))
    (kk : ∀ (r : Int32) (u : S) (H1 : Heap) (locs1 : List Loc), post r u → va_P D cl (w2 u) H1 → va_D A (w2 u) → va_S A H0 H1 locs1 → W p l e R s m args below meth c H1 locs1 (cells + rm.cells) (slots + rm.slots) Q (F0 m (pc + 3) ls (.int r :: rest))) : W p l e R s m args below meth c H locs cells slots Q (F0 m pc ls st0) :=
  kc_i (va_runS (As := As) (rest := rest) Bd (hc H.size) (cwS As.length Bd.2.2.2.2 lk.1 rfl rfl rfl ⟨lk.2.1, lk.2.2.1, lk.2.2.2, hpn⟩ (fitsRoom.ok hrm)) ⟨cPre.blind, k_pre hG hP hD isC hC (okI.ok hok).1⟩ rfl rfl hl hst (lv_room hw) hdg hce) hP hD hS hA isC isR isB hC hR (okI.ok hok).2.1 (okI.ok hok).2.2.2 (okI.ok hok).2.2.1 hB2 kk
theorem kS_v {S : Type} {post : S → Prop} {w1 w2 : S → va_W} (As rest : List Value) (Bd : bd p c cc nL s args TB own m) (lk : lkS TB own index y (.code y bytes maxL none)) (hpn : (parseMethodDescriptor y.desc).map (fun d => d.parameters.length) = some As.length)
    (hc : CV l cl nw D tys y (.code y bytes maxL none :: TB) rm As wc post w1) (hrm : fitsRoom rm R maxL = true) (hce : cells + rm.cells ≤ R.cells ∧ slots + rm.slots ≤ R.slots)
    (hG : gk cl nw D tys s) (hP : va_P D cl wh H) (hD : va_D A wh) (hS : va_S A H0 H locs) (hA : ∀ q, H0.size ≤ q → A q)
    (isC isR isB : List Nat) (hok : okI isC isR isB = true) (hC : isC.map (fun i => wh[i]?) = wc.map some) (hR : isR.map (fun i => wh[i]?) = wr.map some) (hB2 : ∀ u, isB.map (fun i => (wr ++ w1 u)[i]?) = (w2 u).map some)
     (hl : ls.size = nL) (hst : st0 = As.reverse ++ rest) (hw : (rest.map fun v => v.category).sum ≤ 8) (hdg : decode cc pc = .ok (.invokestatic index, 3))
    (kk : ∀ (u : S) (H1 : Heap) (locs1 : List Loc), post u → va_P D cl (w2 u) H1 → va_D A (w2 u) → va_S A H0 H1 locs1 → W p l e R s m args below meth c H1 locs1 (cells + rm.cells) (slots + rm.slots) Q (F0 m (pc + 3) ls rest)) : W p l e R s m args below meth c H locs cells slots Q (F0 m pc ls st0) :=
  kc_v (va_runS (As := As) (rest := rest) Bd (hc H.size) (cwS As.length Bd.2.2.2.2 lk.1 rfl rfl rfl ⟨lk.2.1, lk.2.2.1, lk.2.2.2, hpn⟩ (fitsRoom.ok hrm)) ⟨cPre.blind, k_pre hG hP hD isC hC (okI.ok hok).1⟩ rfl rfl hl hst (lv_room hw) hdg hce) hP hD hS hA isC isR isB hC hR (okI.ok hok).2.1 (okI.ok hok).2.2.2 (okI.ok hok).2.2.1 hB2 kk
theorem kSN_i {S : Type} {post : Int32 → S → Prop} {w1 w2 : S → va_W} (As rest : List Value) (Bd : bd p c cc nL s args TB own m) (lk : GoodIn TB ((.code y bytes maxL ret) :: TB) ∧ Cond.static y ∈ TB ∧ Cond.initialized y.cls ∈ TB ∧ Cond.methodLinkNest own index y host ∈ nw ∧ y.cls ≠ "java/lang/invoke/MethodHandle" ∧ y.cls ≠ "java/lang/invoke/VarHandle") (hpn : (parseMethodDescriptor y.desc).map (fun d => d.parameters.length) = some As.length)
    (hc : CI l cl nw D tys y (.code y bytes maxL ret :: TB) rm As wc post w1) (hrm : fitsRoom rm R maxL = true) (hce : cells + rm.cells ≤ R.cells ∧ slots + rm.slots ≤ R.slots)
    (hG : gk cl nw D tys s) (hP : va_P D cl wh H) (hD : va_D A wh) (hS : va_S A H0 H locs) (hA : ∀ q, H0.size ≤ q → A q)
    (isC isR isB : List Nat) (hok : okI isC isR isB = true) (hC : isC.map (fun i => wh[i]?) = wc.map some) (hR : isR.map (fun i => wh[i]?) = wr.map some) (hB2 : ∀ u, isB.map (fun i => (wr ++ w1 u)[i]?) = (w2 u).map some)
     (hl : ls.size = nL) (hst : st0 = As.reverse ++ rest) (hw : (rest.map fun v => v.category).sum ≤ 8) (hdg : decode cc pc = .ok (.invokestatic index, 3))
    (kk : ∀ (r : Int32) (u : S) (H1 : Heap) (locs1 : List Loc), post r u → va_P D cl (w2 u) H1 → va_D A (w2 u) → va_S A H0 H1 locs1 → W p l e R s m args below meth c H1 locs1 (cells + rm.cells) (slots + rm.slots) Q (F0 m (pc + 3) ls (.int r :: rest))) : W p l e R s m args below meth c H locs cells slots Q (F0 m pc ls st0) :=
  kc_i (va_runSN (As := As) (rest := rest) Bd (hc H.size) ⟨va_cnB As.length Bd.2.2.2.2 lk.1 rfl rfl rfl (hG.2 _ lk.2.2.2.1).2 (Bd.2.2.2.2 _ lk.2.2.1) ⟨lk.2.2.2.2.1, lk.2.2.2.2.2, hpn⟩ (fitsRoom.ok hrm), Bd.2.2.2.2 _ lk.2.1, trivial⟩ ⟨cPre.blind, k_pre hG hP hD isC hC (okI.ok hok).1⟩ rfl rfl hl hst (lv_room hw) hdg hce) hP hD hS hA isC isR isB hC hR (okI.ok hok).2.1 (okI.ok hok).2.2.2 (okI.ok hok).2.2.1 hB2 kk
theorem kSN_v {S : Type} {post : S → Prop} {w1 w2 : S → va_W} (As rest : List Value) (Bd : bd p c cc nL s args TB own m) (lk : GoodIn TB ((.code y bytes maxL none) :: TB) ∧ Cond.static y ∈ TB ∧ Cond.initialized y.cls ∈ TB ∧ Cond.methodLinkNest own index y host ∈ nw ∧ y.cls ≠ "java/lang/invoke/MethodHandle" ∧ y.cls ≠ "java/lang/invoke/VarHandle") (hpn : (parseMethodDescriptor y.desc).map (fun d => d.parameters.length) = some As.length)
    (hc : CV l cl nw D tys y (.code y bytes maxL none :: TB) rm As wc post w1) (hrm : fitsRoom rm R maxL = true) (hce : cells + rm.cells ≤ R.cells ∧ slots + rm.slots ≤ R.slots)
    (hG : gk cl nw D tys s) (hP : va_P D cl wh H) (hD : va_D A wh) (hS : va_S A H0 H locs) (hA : ∀ q, H0.size ≤ q → A q)
    (isC isR isB : List Nat) (hok : okI isC isR isB = true) (hC : isC.map (fun i => wh[i]?) = wc.map some) (hR : isR.map (fun i => wh[i]?) = wr.map some) (hB2 : ∀ u, isB.map (fun i => (wr ++ w1 u)[i]?) = (w2 u).map some)
     (hl : ls.size = nL) (hst : st0 = As.reverse ++ rest) (hw : (rest.map fun v => v.category).sum ≤ 8) (hdg : decode cc pc = .ok (.invokestatic index, 3))
    (kk : ∀ (u : S) (H1 : Heap) (locs1 : List Loc), post u → va_P D cl (w2 u) H1 → va_D A (w2 u) → va_S A H0 H1 locs1 → W p l e R s m args below meth c H1 locs1 (cells + rm.cells) (slots + rm.slots) Q (F0 m (pc + 3) ls rest)) : W p l e R s m args below meth c H locs cells slots Q (F0 m pc ls st0) :=
  kc_v (va_runSN (As := As) (rest := rest) Bd (hc H.size) ⟨va_cnB As.length Bd.2.2.2.2 lk.1 rfl rfl rfl (hG.2 _ lk.2.2.2.1).2 (Bd.2.2.2.2 _ lk.2.2.1) ⟨lk.2.2.2.2.1, lk.2.2.2.2.2, hpn⟩ (fitsRoom.ok hrm), Bd.2.2.2.2 _ lk.2.1, trivial⟩ ⟨cPre.blind, k_pre hG hP hD isC hC (okI.ok hok).1⟩ rfl rfl hl hst (lv_room hw) hdg hce) hP hD hS hA isC isR isB hC hR (okI.ok hok).2.1 (okI.ok hok).2.2.2 (okI.ok hok).2.2.1 hB2 kk
theorem kI_v {S : Type} {post : S → Prop} {w1 w2 : S → va_W} (As rest : List Value) (Bd : bd p c cc nL s args TB own m) (lk : GoodIn TB ((.code y bytes maxL none) :: TB) ∧ Cond.initialized y.cls ∈ TB ∧ Cond.methodLink own index y ∈ TB ∧ Cond.instanceMethod y ∈ TB ∧ y.name = "<init>" ∧ y.cls ≠ "java/lang/invoke/MethodHandle" ∧ y.cls ≠ "java/lang/invoke/VarHandle") (hpn : (parseMethodDescriptor y.desc).map (fun d => d.parameters.length) = some As.length)
    (hc : CV l cl nw D tys y (.code y bytes maxL none :: TB) rm (.ref b :: As) wc post w1) (hrm : fitsRoom rm R maxL = true) (hce : cells + rm.cells ≤ R.cells ∧ slots + rm.slots ≤ R.slots)
    (hG : gk cl nw D tys s) (hP : va_P D cl wh H) (hD : va_D A wh) (hS : va_S A H0 H locs) (hA : ∀ q, H0.size ≤ q → A q)
    (isC isR isB : List Nat) (hok : okI isC isR isB = true) (hC : isC.map (fun i => wh[i]?) = wc.map some) (hR : isR.map (fun i => wh[i]?) = wr.map some) (hB2 : ∀ u, isB.map (fun i => (wr ++ w1 u)[i]?) = (w2 u).map some)
     (hl : ls.size = nL) (hst : st0 = As.reverse ++ .ref b :: rest) (hw : (rest.map fun v => v.category).sum ≤ 8) (hdg : decode cc pc = .ok (.invokespecial index, 3))
    (kk : ∀ (u : S) (H1 : Heap) (locs1 : List Loc), post u → va_P D cl (w2 u) H1 → va_D A (w2 u) → va_S A H0 H1 locs1 → W p l e R s m args below meth c H1 locs1 (cells + rm.cells) (slots + rm.slots) Q (F0 m (pc + 3) ls rest)) : W p l e R s m args below meth c H locs cells slots Q (F0 m pc ls st0) :=
  kc_v (va_runI (As := As) (rest := rest) Bd (hc H.size) (cwI As.length Bd.2.2.2.2 lk.1 rfl rfl rfl (Bd.2.2.2.2 _ lk.2.1) (Bd.2.2.2.2 _ lk.2.2.1) (Bd.2.2.2.2 _ lk.2.2.2.1) lk.2.2.2.2.1 ⟨lk.2.2.2.2.2.1, lk.2.2.2.2.2.2, hpn⟩ (fitsRoom.ok hrm)) ⟨cPre.blind, k_pre hG hP hD isC hC (okI.ok hok).1⟩ rfl rfl hl hst (lv_room hw) hdg hce) hP hD hS hA isC isR isB hC hR (okI.ok hok).2.1 (okI.ok hok).2.2.2 (okI.ok hok).2.2.1 hB2 kk
theorem kIN_v {S : Type} {post : S → Prop} {w1 w2 : S → va_W} (As rest : List Value) (Bd : bd p c cc nL s args TB own m) (lk : GoodIn TB ((.code y bytes maxL none) :: TB) ∧ Cond.initialized y.cls ∈ TB ∧ Cond.methodLinkNest own index y host ∈ nw ∧ Cond.instanceMethod y ∈ TB ∧ y.name = "<init>" ∧ y.cls ≠ "java/lang/invoke/MethodHandle" ∧ y.cls ≠ "java/lang/invoke/VarHandle") (hpn : (parseMethodDescriptor y.desc).map (fun d => d.parameters.length) = some As.length)
    (hc : CV l cl nw D tys y (.code y bytes maxL none :: TB) rm (.ref b :: As) wc post w1) (hrm : fitsRoom rm R maxL = true) (hce : cells + rm.cells ≤ R.cells ∧ slots + rm.slots ≤ R.slots)
    (hG : gk cl nw D tys s) (hP : va_P D cl wh H) (hD : va_D A wh) (hS : va_S A H0 H locs) (hA : ∀ q, H0.size ≤ q → A q)
    (isC isR isB : List Nat) (hok : okI isC isR isB = true) (hC : isC.map (fun i => wh[i]?) = wc.map some) (hR : isR.map (fun i => wh[i]?) = wr.map some) (hB2 : ∀ u, isB.map (fun i => (wr ++ w1 u)[i]?) = (w2 u).map some)
     (hl : ls.size = nL) (hst : st0 = As.reverse ++ .ref b :: rest) (hw : (rest.map fun v => v.category).sum ≤ 8) (hdg : decode cc pc = .ok (.invokespecial index, 3))
    (kk : ∀ (u : S) (H1 : Heap) (locs1 : List Loc), post u → va_P D cl (w2 u) H1 → va_D A (w2 u) → va_S A H0 H1 locs1 → W p l e R s m args below meth c H1 locs1 (cells + rm.cells) (slots + rm.slots) Q (F0 m (pc + 3) ls rest)) : W p l e R s m args below meth c H locs cells slots Q (F0 m pc ls st0) :=
  kc_v (va_runIN (As := As) (rest := rest) Bd (hc H.size) ⟨va_cnB As.length Bd.2.2.2.2 lk.1 rfl rfl rfl (hG.2 _ lk.2.2.1).2 (Bd.2.2.2.2 _ lk.2.1) ⟨lk.2.2.2.2.2.1, lk.2.2.2.2.2.2, hpn⟩ (fitsRoom.ok hrm), lk.2.2.2.2.1, Bd.2.2.2.2 _ lk.2.2.2.1⟩ ⟨cPre.blind, k_pre hG hP hD isC hC (okI.ok hok).1⟩ rfl rfl hl hst (lv_room hw) hdg hce) hP hD hS hA isC isR isB hC hR (okI.ok hok).2.1 (okI.ok hok).2.2.2 (okI.ok hok).2.2.1 hB2 kk
end
end
section
/-! NAMES: the words that every method may use (TB), the words of the nest (NW), classes, methods -/
def TB : List Cond := lw_tbl.filter goodWord
def NW : List Cond := tables_1.filter nw_ok
theorem TB_good : GoodIn TB TB := fun w hw => ⟨hw, good_of_word (List.mem_filter.mp hw).2⟩
theorem tb_in {w : Cond} (h : w ∈ tables_1) (hg : goodWord w = true) : w ∈ TB := List.mem_filter.mpr ⟨List.mem_append_right _ h, hg⟩
theorem tb_sel {w : Cond} (h : w ∈ k2_sels lw_privs) (hg : goodWord w = true) : w ∈ TB := List.mem_filter.mpr ⟨List.mem_append_left _ h, hg⟩
theorem nw_in {w : Cond} (h : w ∈ tables_1) (hg : nw_ok w = true) : w ∈ NW := List.mem_filter.mpr ⟨h, hg⟩
abbrev y_Tiles_init : MethodName := ⟨"TileScreen$Tiles", "<init>", "(I)V"⟩
abbrev b_Tiles_init : ByteArray := prog_8_method_1_code
abbrev y_Tiles_get : MethodName := ⟨"TileScreen$Tiles", "get", "(II)I"⟩
abbrev b_Tiles_get : ByteArray := prog_8_method_2_code
abbrev y_Tiles_set : MethodName := ⟨"TileScreen$Tiles", "set", "(III)V"⟩
abbrev b_Tiles_set : ByteArray := prog_8_method_3_code
abbrev y_Tiles_take : MethodName := ⟨"TileScreen$Tiles", "take", "(ILTileScreen$Tiles;I)V"⟩
abbrev b_Tiles_take : ByteArray := prog_8_method_4_code
abbrev y_Tiles_takeAll : MethodName := ⟨"TileScreen$Tiles", "takeAll", "(LTileScreen$Tiles;)V"⟩
abbrev b_Tiles_takeAll : ByteArray := prog_8_method_5_code
abbrev y_Tiles_isSame : MethodName := ⟨"TileScreen$Tiles", "isSame", "(ILTileScreen$Tiles;I)Z"⟩
abbrev b_Tiles_isSame : ByteArray := prog_8_method_6_code
abbrev y_Tiles_find : MethodName := ⟨"TileScreen$Tiles", "find", "(ILTileScreen$Tiles;I)I"⟩
abbrev b_Tiles_find : ByteArray := prog_8_method_7_code
abbrev y_Tiles_countOther : MethodName := ⟨"TileScreen$Tiles", "countOther", "(LTileScreen$Tiles;)I"⟩
abbrev b_Tiles_countOther : ByteArray := prog_8_method_8_code
abbrev y_Cache_init : MethodName := ⟨"TileScreen$Cache", "<init>", "()V"⟩
abbrev b_Cache_init : ByteArray := prog_2_method_1_code
abbrev y_Cache_clear : MethodName := ⟨"TileScreen$Cache", "clear", "()V"⟩
abbrev b_Cache_clear : ByteArray := prog_2_method_2_code
abbrev y_Cache_put : MethodName := ⟨"TileScreen$Cache", "put", "(LTileScreen$Tiles;I)V"⟩
abbrev b_Cache_put : ByteArray := prog_2_method_3_code
abbrev y_Line_init : MethodName := ⟨"TileScreen$Line", "<init>", "()V"⟩
abbrev b_Line_init : ByteArray := prog_5_method_1_code
abbrev y_Line_clear : MethodName := ⟨"TileScreen$Line", "clear", "()V"⟩
abbrev b_Line_clear : ByteArray := prog_5_method_2_code
abbrev y_Line_add : MethodName := ⟨"TileScreen$Line", "add", "(I)V"⟩
abbrev b_Line_add : ByteArray := prog_5_method_3_code
abbrev y_Line_addPair : MethodName := ⟨"TileScreen$Line", "addPair", "(I)V"⟩
abbrev b_Line_addPair : ByteArray := prog_5_method_4_code
abbrev y_Line_set : MethodName := ⟨"TileScreen$Line", "set", "(II)V"⟩
abbrev b_Line_set : ByteArray := prog_5_method_5_code
abbrev y_Line_get : MethodName := ⟨"TileScreen$Line", "get", "(I)I"⟩
abbrev b_Line_get : ByteArray := prog_5_method_6_code
abbrev y_Line_removeFirst : MethodName := ⟨"TileScreen$Line", "removeFirst", "()I"⟩
abbrev b_Line_removeFirst : ByteArray := prog_5_method_7_code
abbrev y_Poisons_init : MethodName := ⟨"TileScreen$Poisons", "<init>", "()V"⟩
abbrev b_Poisons_init : ByteArray := prog_7_method_1_code
abbrev y_Poisons_add : MethodName := ⟨"TileScreen$Poisons", "add", "(II)V"⟩
abbrev b_Poisons_add : ByteArray := prog_7_method_2_code
abbrev y_Poisons_spoil : MethodName := ⟨"TileScreen$Poisons", "spoil", "(I)I"⟩
abbrev b_Poisons_spoil : ByteArray := prog_7_method_3_code
abbrev y_Look_init : MethodName := ⟨"TileScreen$Look", "<init>", "()V"⟩
abbrev b_Look_init : ByteArray := prog_6_method_1_code
abbrev y_Look_study : MethodName := ⟨"TileScreen$Look", "study", "(LTileScreen$Tiles;I)V"⟩
abbrev b_Look_study : ByteArray := prog_6_method_2_code
abbrev y_Look_meet : MethodName := ⟨"TileScreen$Look", "meet", "(I)V"⟩
abbrev b_Look_meet : ByteArray := prog_6_method_3_code
abbrev y_Look_indexOf : MethodName := ⟨"TileScreen$Look", "indexOf", "(I)I"⟩
abbrev b_Look_indexOf : ByteArray := prog_6_method_4_code
abbrev y_Feed_init : MethodName := ⟨"TileScreen$Feed", "<init>", "()V"⟩
abbrev b_Feed_init : ByteArray := prog_4_method_1_code
abbrev y_Feed_compose : MethodName := ⟨"TileScreen$Feed", "compose", "(LTileScreen$Tiles;I)V"⟩
abbrev b_Feed_compose : ByteArray := prog_4_method_2_code
abbrev y_Feed_addRecord : MethodName := ⟨"TileScreen$Feed", "addRecord", "(LTileScreen$Tiles;I)V"⟩
abbrev b_Feed_addRecord : ByteArray := prog_4_method_3_code
abbrev y_Feed_chooseKind : MethodName := ⟨"TileScreen$Feed", "chooseKind", "()I"⟩
abbrev b_Feed_chooseKind : ByteArray := prog_4_method_4_code
abbrev y_Feed_isFit : MethodName := ⟨"TileScreen$Feed", "isFit", "(I)Z"⟩
abbrev b_Feed_isFit : ByteArray := prog_4_method_5_code
abbrev y_Feed_lengthOf : MethodName := ⟨"TileScreen$Feed", "lengthOf", "(I)I"⟩
abbrev b_Feed_lengthOf : ByteArray := prog_4_method_6_code
abbrev y_Feed_addContent : MethodName := ⟨"TileScreen$Feed", "addContent", "(ILTileScreen$Tiles;I)V"⟩
abbrev b_Feed_addContent : ByteArray := prog_4_method_7_code
abbrev y_Feed_addPalette : MethodName := ⟨"TileScreen$Feed", "addPalette", "()V"⟩
abbrev b_Feed_addPalette : ByteArray := prog_4_method_8_code
abbrev y_Feed_addBits : MethodName := ⟨"TileScreen$Feed", "addBits", "(LTileScreen$Tiles;II)V"⟩
abbrev b_Feed_addBits : ByteArray := prog_4_method_9_code
abbrev y_Feed_addRuns : MethodName := ⟨"TileScreen$Feed", "addRuns", "(LTileScreen$Tiles;I)V"⟩
abbrev b_Feed_addRuns : ByteArray := prog_4_method_10_code
abbrev y_Feed_addRaw : MethodName := ⟨"TileScreen$Feed", "addRaw", "(LTileScreen$Tiles;I)V"⟩
abbrev b_Feed_addRaw : ByteArray := prog_4_method_11_code
abbrev y_Display_init : MethodName := ⟨"TileScreen$Display", "<init>", "()V"⟩
abbrev b_Display_init : ByteArray := prog_3_method_1_code
abbrev y_Display_forget : MethodName := ⟨"TileScreen$Display", "forget", "()V"⟩
abbrev b_Display_forget : ByteArray := prog_3_method_2_code
abbrev y_Display_receive : MethodName := ⟨"TileScreen$Display", "receive", "(I)Z"⟩
abbrev b_Display_receive : ByteArray := prog_3_method_3_code
abbrev y_Display_readUpdate : MethodName := ⟨"TileScreen$Display", "readUpdate", "()Z"⟩
abbrev b_Display_readUpdate : ByteArray := prog_3_method_4_code
abbrev y_Display_numberAbove : MethodName := ⟨"TileScreen$Display", "numberAbove", "(II)I"⟩
abbrev b_Display_numberAbove : ByteArray := prog_3_method_5_code
abbrev y_Display_pairAt : MethodName := ⟨"TileScreen$Display", "pairAt", "(I)I"⟩
abbrev b_Display_pairAt : ByteArray := prog_3_method_6_code
abbrev y_Display_readRecord : MethodName := ⟨"TileScreen$Display", "readRecord", "()V"⟩
abbrev b_Display_readRecord : ByteArray := prog_3_method_7_code
abbrev y_Display_readSource : MethodName := ⟨"TileScreen$Display", "readSource", "(ILTileScreen$Tiles;I)V"⟩
abbrev b_Display_readSource : ByteArray := prog_3_method_8_code
abbrev y_Display_readColourCount : MethodName := ⟨"TileScreen$Display", "readColourCount", "()I"⟩
abbrev b_Display_readColourCount : ByteArray := prog_3_method_9_code
abbrev y_Display_readPixels : MethodName := ⟨"TileScreen$Display", "readPixels", "(III)V"⟩
abbrev b_Display_readPixels : ByteArray := prog_3_method_10_code
abbrev y_Display_readRuns : MethodName := ⟨"TileScreen$Display", "readRuns", "(I)V"⟩
abbrev b_Display_readRuns : ByteArray := prog_3_method_11_code
abbrev y_Display_readRaw : MethodName := ⟨"TileScreen$Display", "readRaw", "(I)V"⟩
abbrev b_Display_readRaw : ByteArray := prog_3_method_12_code
abbrev y_Display_paint : MethodName := ⟨"TileScreen$Display", "paint", "(IIII)V"⟩
abbrev b_Display_paint : ByteArray := prog_3_method_13_code
abbrev y_Display_readColour : MethodName := ⟨"TileScreen$Display", "readColour", "()I"⟩
abbrev b_Display_readColour : ByteArray := prog_3_method_14_code
abbrev y_Display_readByte : MethodName := ⟨"TileScreen$Display", "readByte", "()I"⟩
abbrev b_Display_readByte : ByteArray := prog_3_method_15_code
abbrev y_Viewer_init : MethodName := ⟨"TileScreen$Viewer", "<init>", "()V"⟩
abbrev b_Viewer_init : ByteArray := prog_9_method_1_code
abbrev y_Viewer_connect : MethodName := ⟨"TileScreen$Viewer", "connect", "()V"⟩
abbrev b_Viewer_connect : ByteArray := prog_9_method_2_code
abbrev y_Viewer_disconnect : MethodName := ⟨"TileScreen$Viewer", "disconnect", "()V"⟩
abbrev b_Viewer_disconnect : ByteArray := prog_9_method_3_code
abbrev y_Scr_init : MethodName := ⟨"TileScreen", "<init>", "()V"⟩
abbrev b_Scr_init : ByteArray := prog_1_method_1_code
abbrev y_Scr_fill : MethodName := ⟨"TileScreen", "fill", "(IIIII)Z"⟩
abbrev b_Scr_fill : ByteArray := prog_1_method_2_code
abbrev y_Scr_blit : MethodName := ⟨"TileScreen", "blit", "(IIII)Z"⟩
abbrev b_Scr_blit : ByteArray := prog_1_method_3_code
abbrev y_Scr_shade : MethodName := ⟨"TileScreen", "shade", "(IIII)Z"⟩
abbrev b_Scr_shade : ByteArray := prog_1_method_4_code
abbrev y_Scr_frame : MethodName := ⟨"TileScreen", "frame", "()I"⟩
abbrev b_Scr_frame : ByteArray := prog_1_method_5_code
abbrev y_Scr_join : MethodName := ⟨"TileScreen", "join", "(I)Z"⟩
abbrev b_Scr_join : ByteArray := prog_1_method_6_code
abbrev y_Scr_cut : MethodName := ⟨"TileScreen", "cut", "(I)Z"⟩
abbrev b_Scr_cut : ByteArray := prog_1_method_7_code
abbrev y_Scr_credit : MethodName := ⟨"TileScreen", "credit", "(II)I"⟩
abbrev b_Scr_credit : ByteArray := prog_1_method_8_code
abbrev y_Scr_pump : MethodName := ⟨"TileScreen", "pump", "(I)I"⟩
abbrev b_Scr_pump : ByteArray := prog_1_method_9_code
abbrev y_Scr_poison : MethodName := ⟨"TileScreen", "poison", "(III)Z"⟩
abbrev b_Scr_poison : ByteArray := prog_1_method_10_code
abbrev y_Scr_shown : MethodName := ⟨"TileScreen", "shown", "(I)I"⟩
abbrev b_Scr_shown : ByteArray := prog_1_method_11_code
abbrev y_Scr_at : MethodName := ⟨"TileScreen", "at", "(III)I"⟩
abbrev b_Scr_at : ByteArray := prog_1_method_12_code
abbrev y_Scr_about : MethodName := ⟨"TileScreen", "about", "(II)I"⟩
abbrev b_Scr_about : ByteArray := prog_1_method_13_code
abbrev y_Scr_bytesBy : MethodName := ⟨"TileScreen", "bytesBy", "(II)I"⟩
abbrev b_Scr_bytesBy : ByteArray := prog_1_method_14_code
abbrev y_Scr_onLine : MethodName := ⟨"TileScreen", "onLine", "(II)I"⟩
abbrev b_Scr_onLine : ByteArray := prog_1_method_15_code
abbrev y_Scr_isViewer : MethodName := ⟨"TileScreen", "isViewer", "(I)Z"⟩
abbrev b_Scr_isViewer : ByteArray := prog_1_method_16_code
abbrev y_Scr_isColour : MethodName := ⟨"TileScreen", "isColour", "(I)Z"⟩
abbrev b_Scr_isColour : ByteArray := prog_1_method_17_code
abbrev y_Scr_isInside : MethodName := ⟨"TileScreen", "isInside", "(IIII)Z"⟩
abbrev b_Scr_isInside : ByteArray := prog_1_method_18_code
abbrev y_Scr_tileOf : MethodName := ⟨"TileScreen", "tileOf", "(II)I"⟩
abbrev b_Scr_tileOf : ByteArray := prog_1_method_19_code
abbrev y_Scr_pixelOf : MethodName := ⟨"TileScreen", "pixelOf", "(II)I"⟩
abbrev b_Scr_pixelOf : ByteArray := prog_1_method_20_code
abbrev y_Scr_pixelAt : MethodName := ⟨"TileScreen", "pixelAt", "(LTileScreen$Tiles;II)I"⟩
abbrev b_Scr_pixelAt : ByteArray := prog_1_method_21_code
abbrev y_Scr_sumOf : MethodName := ⟨"TileScreen", "sumOf", "([III)I"⟩
abbrev b_Scr_sumOf : ByteArray := prog_1_method_22_code
abbrev y_Mod_init : MethodName := ⟨"TileScreenModel", "<init>", "()V"⟩
abbrev b_Mod_init : ByteArray := prog_11_method_1_code
abbrev y_Mod_thrown : MethodName := ⟨"TileScreenModel", "thrown", "()I"⟩
abbrev b_Mod_thrown : ByteArray := prog_11_method_2_code
abbrev y_Mod_spot : MethodName := ⟨"TileScreenModel", "spot", "(III)I"⟩
abbrev b_Mod_spot : ByteArray := prog_11_method_3_code
abbrev y_Mod_become : MethodName := ⟨"TileScreenModel", "become", "(II)V"⟩
abbrev b_Mod_become : ByteArray := prog_11_method_4_code
abbrev y_Mod_sameTile : MethodName := ⟨"TileScreenModel", "sameTile", "(IIII)Z"⟩
abbrev b_Mod_sameTile : ByteArray := prog_11_method_5_code
abbrev y_Mod_isRect : MethodName := ⟨"TileScreenModel", "isRect", "(IIII)Z"⟩
abbrev b_Mod_isRect : ByteArray := prog_11_method_6_code
abbrev y_Mod_isColour : MethodName := ⟨"TileScreenModel", "isColour", "(I)Z"⟩
abbrev b_Mod_isColour : ByteArray := prog_11_method_7_code
abbrev y_Mod_isViewer : MethodName := ⟨"TileScreenModel", "isViewer", "(I)Z"⟩
abbrev b_Mod_isViewer : ByteArray := prog_11_method_8_code
abbrev y_Mod_fill : MethodName := ⟨"TileScreenModel", "fill", "(IIIII)Z"⟩
abbrev b_Mod_fill : ByteArray := prog_11_method_9_code
abbrev y_Mod_blit : MethodName := ⟨"TileScreenModel", "blit", "(IIII)Z"⟩
abbrev b_Mod_blit : ByteArray := prog_11_method_10_code
abbrev y_Mod_shade : MethodName := ⟨"TileScreenModel", "shade", "(IIII)Z"⟩
abbrev b_Mod_shade : ByteArray := prog_11_method_11_code
abbrev y_Mod_frame : MethodName := ⟨"TileScreenModel", "frame", "()I"⟩
abbrev b_Mod_frame : ByteArray := prog_11_method_12_code
abbrev y_Mod_join : MethodName := ⟨"TileScreenModel", "join", "(I)Z"⟩
abbrev b_Mod_join : ByteArray := prog_11_method_13_code
abbrev y_Mod_leave : MethodName := ⟨"TileScreenModel", "leave", "(I)V"⟩
abbrev b_Mod_leave : ByteArray := prog_11_method_14_code
abbrev y_Mod_cut : MethodName := ⟨"TileScreenModel", "cut", "(I)Z"⟩
abbrev b_Mod_cut : ByteArray := prog_11_method_15_code
abbrev y_Mod_credit : MethodName := ⟨"TileScreenModel", "credit", "(II)I"⟩
abbrev b_Mod_credit : ByteArray := prog_11_method_16_code
abbrev y_Mod_put : MethodName := ⟨"TileScreenModel", "put", "(I)V"⟩
abbrev b_Mod_put : ByteArray := prog_11_method_17_code
abbrev y_Mod_putTwo : MethodName := ⟨"TileScreenModel", "putTwo", "(I)V"⟩
abbrev b_Mod_putTwo : ByteArray := prog_11_method_18_code
abbrev y_Mod_findColours : MethodName := ⟨"TileScreenModel", "findColours", "()V"⟩
abbrev b_Mod_findColours : ByteArray := prog_11_method_19_code
abbrev y_Mod_numberOf : MethodName := ⟨"TileScreenModel", "numberOf", "(I)I"⟩
abbrev b_Mod_numberOf : ByteArray := prog_11_method_20_code
abbrev y_Mod_likeTile : MethodName := ⟨"TileScreenModel", "likeTile", "(I)I"⟩
abbrev b_Mod_likeTile : ByteArray := prog_11_method_21_code
abbrev y_Mod_likeEntry : MethodName := ⟨"TileScreenModel", "likeEntry", "(I)I"⟩
abbrev b_Mod_likeEntry : ByteArray := prog_11_method_22_code
abbrev y_Mod_putBits : MethodName := ⟨"TileScreenModel", "putBits", "(I)V"⟩
abbrev b_Mod_putBits : ByteArray := prog_11_method_23_code
abbrev y_Mod_putRuns : MethodName := ⟨"TileScreenModel", "putRuns", "()V"⟩
abbrev b_Mod_putRuns : ByteArray := prog_11_method_24_code
abbrev y_Mod_write : MethodName := ⟨"TileScreenModel", "write", "(III)Z"⟩
abbrev b_Mod_write : ByteArray := prog_11_method_25_code
abbrev y_Mod_keep : MethodName := ⟨"TileScreenModel", "keep", "(I)V"⟩
abbrev b_Mod_keep : ByteArray := prog_11_method_26_code
abbrev y_Mod_send : MethodName := ⟨"TileScreenModel", "send", "(II)V"⟩
abbrev b_Mod_send : ByteArray := prog_11_method_27_code
abbrev y_Mod_compose : MethodName := ⟨"TileScreenModel", "compose", "(I)V"⟩
abbrev b_Mod_compose : ByteArray := prog_11_method_28_code
abbrev y_Mod_get : MethodName := ⟨"TileScreenModel", "get", "(I)I"⟩
abbrev b_Mod_get : ByteArray := prog_11_method_29_code
abbrev y_Mod_getTwo : MethodName := ⟨"TileScreenModel", "getTwo", "(I)I"⟩
abbrev b_Mod_getTwo : ByteArray := prog_11_method_30_code
abbrev y_Mod_read : MethodName := ⟨"TileScreenModel", "read", "(II)Z"⟩
abbrev b_Mod_read : ByteArray := prog_11_method_31_code
abbrev y_Mod_readLike : MethodName := ⟨"TileScreenModel", "readLike", "(III)Z"⟩
abbrev b_Mod_readLike : ByteArray := prog_11_method_32_code
abbrev y_Mod_readRuns : MethodName := ⟨"TileScreenModel", "readRuns", "(I)Z"⟩
abbrev b_Mod_readRuns : ByteArray := prog_11_method_33_code
abbrev y_Mod_whole : MethodName := ⟨"TileScreenModel", "whole", "(I)Z"⟩
abbrev b_Mod_whole : ByteArray := prog_11_method_34_code
abbrev y_Mod_take : MethodName := ⟨"TileScreenModel", "take", "(II)Z"⟩
abbrev b_Mod_take : ByteArray := prog_11_method_35_code
abbrev y_Mod_pump : MethodName := ⟨"TileScreenModel", "pump", "(I)I"⟩
abbrev b_Mod_pump : ByteArray := prog_11_method_36_code
abbrev y_Mod_poison : MethodName := ⟨"TileScreenModel", "poison", "(III)Z"⟩
abbrev b_Mod_poison : ByteArray := prog_11_method_37_code
abbrev y_Mod_shown : MethodName := ⟨"TileScreenModel", "shown", "(I)I"⟩
abbrev b_Mod_shown : ByteArray := prog_11_method_38_code
abbrev y_Mod_at : MethodName := ⟨"TileScreenModel", "at", "(III)I"⟩
abbrev b_Mod_at : ByteArray := prog_11_method_39_code
abbrev y_Mod_about : MethodName := ⟨"TileScreenModel", "about", "(II)I"⟩
abbrev b_Mod_about : ByteArray := prog_11_method_40_code
abbrev y_Mod_bytesBy : MethodName := ⟨"TileScreenModel", "bytesBy", "(II)I"⟩
abbrev b_Mod_bytesBy : ByteArray := prog_11_method_41_code
abbrev y_Mod_onLine : MethodName := ⟨"TileScreenModel", "onLine", "(II)I"⟩
abbrev b_Mod_onLine : ByteArray := prog_11_method_42_code
def F_Tiles : u_T := fun k => match k with
  | 0 => ("TileScreen$Tiles", "count", "I", true)
  | _ => ("TileScreen$Tiles", "pixels", "[I", true)
def t_Tiles : Nat → FieldType := fun k => match k with
  | 0 => .int
  | _ => .array (.int)
theorem n_Tiles : ∀ a, a < 2 → ∀ b, b < 2 → a ≠ b → (F_Tiles a).2.1 ≠ (F_Tiles b).2.1 := by decide +kernel
theorem t_Tiles_ok : ∀ k, k < 2 → parseFieldDescriptor (F_Tiles k).2.2.1 = some (t_Tiles k) := by decide +kernel
theorem i_Tiles : ∀ w ∈ u_ws "TileScreen$Tiles" F_Tiles 2, w ∈ TB := by
  have h : (u_ws "TileScreen$Tiles" F_Tiles 2).all (fun w => decide (w ∈ tables_1) && goodWord w) = true := by decide +kernel
  exact fun w hw => by have h1 := List.all_eq_true.mp h w hw; rw [Bool.and_eq_true, decide_eq_true_iff] at h1; exact tb_in h1.1 h1.2
def F_Cache : u_T := fun k => match k with
  | 0 => ("TileScreen$Cache", "tiles", "LTileScreen$Tiles;", true)
  | 1 => ("TileScreen$Cache", "place", "I", false)
  | _ => ("TileScreen$Cache", "used", "I", false)
def t_Cache : Nat → FieldType := fun k => match k with
  | 0 => .object "TileScreen$Tiles"
  | 1 => .int
  | _ => .int
theorem n_Cache : ∀ a, a < 3 → ∀ b, b < 3 → a ≠ b → (F_Cache a).2.1 ≠ (F_Cache b).2.1 := by decide +kernel
theorem t_Cache_ok : ∀ k, k < 3 → parseFieldDescriptor (F_Cache k).2.2.1 = some (t_Cache k) := by decide +kernel
theorem i_Cache : ∀ w ∈ u_ws "TileScreen$Cache" F_Cache 3, w ∈ TB := by
  have h : (u_ws "TileScreen$Cache" F_Cache 3).all (fun w => decide (w ∈ tables_1) && goodWord w) = true := by decide +kernel
  exact fun w hw => by have h1 := List.all_eq_true.mp h w hw; rw [Bool.and_eq_true, decide_eq_true_iff] at h1; exact tb_in h1.1 h1.2
def F_Line : u_T := fun k => match k with
  | 0 => ("TileScreen$Line", "bytes", "[I", true)
  | 1 => ("TileScreen$Line", "first", "I", false)
  | _ => ("TileScreen$Line", "size", "I", false)
def t_Line : Nat → FieldType := fun k => match k with
  | 0 => .array (.int)
  | 1 => .int
  | _ => .int
theorem n_Line : ∀ a, a < 3 → ∀ b, b < 3 → a ≠ b → (F_Line a).2.1 ≠ (F_Line b).2.1 := by decide +kernel
theorem t_Line_ok : ∀ k, k < 3 → parseFieldDescriptor (F_Line k).2.2.1 = some (t_Line k) := by decide +kernel
theorem i_Line : ∀ w ∈ u_ws "TileScreen$Line" F_Line 3, w ∈ TB := by
  have h : (u_ws "TileScreen$Line" F_Line 3).all (fun w => decide (w ∈ tables_1) && goodWord w) = true := by decide +kernel
  exact fun w hw => by have h1 := List.all_eq_true.mp h w hw; rw [Bool.and_eq_true, decide_eq_true_iff] at h1; exact tb_in h1.1 h1.2
def F_Poisons : u_T := fun k => match k with
  | 0 => ("TileScreen$Poisons", "ahead", "[I", true)
  | 1 => ("TileScreen$Poisons", "masks", "[I", true)
  | _ => ("TileScreen$Poisons", "count", "I", false)
def t_Poisons : Nat → FieldType := fun k => match k with
  | 0 => .array (.int)
  | 1 => .array (.int)
  | _ => .int
theorem n_Poisons : ∀ a, a < 3 → ∀ b, b < 3 → a ≠ b → (F_Poisons a).2.1 ≠ (F_Poisons b).2.1 := by decide +kernel
theorem t_Poisons_ok : ∀ k, k < 3 → parseFieldDescriptor (F_Poisons k).2.2.1 = some (t_Poisons k) := by decide +kernel
theorem i_Poisons : ∀ w ∈ u_ws "TileScreen$Poisons" F_Poisons 3, w ∈ TB := by
  have h : (u_ws "TileScreen$Poisons" F_Poisons 3).all (fun w => decide (w ∈ tables_1) && goodWord w) = true := by decide +kernel
  exact fun w hw => by have h1 := List.all_eq_true.mp h w hw; rw [Bool.and_eq_true, decide_eq_true_iff] at h1; exact tb_in h1.1 h1.2
def F_Look : u_T := fun k => match k with
  | 0 => ("TileScreen$Look", "palette", "[I", true)
  | 1 => ("TileScreen$Look", "colours", "I", false)
  | _ => ("TileScreen$Look", "runs", "I", false)
def t_Look : Nat → FieldType := fun k => match k with
  | 0 => .array (.int)
  | 1 => .int
  | _ => .int
theorem n_Look : ∀ a, a < 3 → ∀ b, b < 3 → a ≠ b → (F_Look a).2.1 ≠ (F_Look b).2.1 := by decide +kernel
theorem t_Look_ok : ∀ k, k < 3 → parseFieldDescriptor (F_Look k).2.2.1 = some (t_Look k) := by decide +kernel
theorem i_Look : ∀ w ∈ u_ws "TileScreen$Look" F_Look 3, w ∈ TB := by
  have h : (u_ws "TileScreen$Look" F_Look 3).all (fun w => decide (w ∈ tables_1) && goodWord w) = true := by decide +kernel
  exact fun w hw => by have h1 := List.all_eq_true.mp h w hw; rw [Bool.and_eq_true, decide_eq_true_iff] at h1; exact tb_in h1.1 h1.2
def F_Feed : u_T := fun k => match k with
  | 0 => ("TileScreen$Feed", "sent", "LTileScreen$Tiles;", true)
  | 1 => ("TileScreen$Feed", "sentNumber", "I", false)
  | 2 => ("TileScreen$Feed", "cache", "LTileScreen$Cache;", true)
  | 3 => ("TileScreen$Feed", "line", "LTileScreen$Line;", true)
  | 4 => ("TileScreen$Feed", "composed", "[I", true)
  | 5 => ("TileScreen$Feed", "look", "LTileScreen$Look;", true)
  | 6 => ("TileScreen$Feed", "twin", "I", false)
  | _ => ("TileScreen$Feed", "entry", "I", false)
def t_Feed : Nat → FieldType := fun k => match k with
  | 0 => .object "TileScreen$Tiles"
  | 1 => .int
  | 2 => .object "TileScreen$Cache"
  | 3 => .object "TileScreen$Line"
  | 4 => .array (.int)
  | 5 => .object "TileScreen$Look"
  | 6 => .int
  | _ => .int
theorem n_Feed : ∀ a, a < 8 → ∀ b, b < 8 → a ≠ b → (F_Feed a).2.1 ≠ (F_Feed b).2.1 := by decide +kernel
theorem t_Feed_ok : ∀ k, k < 8 → parseFieldDescriptor (F_Feed k).2.2.1 = some (t_Feed k) := by decide +kernel
theorem i_Feed : ∀ w ∈ u_ws "TileScreen$Feed" F_Feed 8, w ∈ TB := by
  have h : (u_ws "TileScreen$Feed" F_Feed 8).all (fun w => decide (w ∈ tables_1) && goodWord w) = true := by decide +kernel
  exact fun w hw => by have h1 := List.all_eq_true.mp h w hw; rw [Bool.and_eq_true, decide_eq_true_iff] at h1; exact tb_in h1.1 h1.2
def F_Display : u_T := fun k => match k with
  | 0 => ("TileScreen$Display", "front", "LTileScreen$Tiles;", true)
  | 1 => ("TileScreen$Display", "frontNumber", "I", false)
  | 2 => ("TileScreen$Display", "back", "LTileScreen$Tiles;", true)
  | 3 => ("TileScreen$Display", "cache", "LTileScreen$Cache;", true)
  | 4 => ("TileScreen$Display", "came", "[I", true)
  | 5 => ("TileScreen$Display", "cameSize", "I", false)
  | 6 => ("TileScreen$Display", "palette", "[I", true)
  | 7 => ("TileScreen$Display", "position", "I", false)
  | 8 => ("TileScreen$Display", "end", "I", false)
  | _ => ("TileScreen$Display", "wrong", "Z", false)
def t_Display : Nat → FieldType := fun k => match k with
  | 0 => .object "TileScreen$Tiles"
  | 1 => .int
  | 2 => .object "TileScreen$Tiles"
  | 3 => .object "TileScreen$Cache"
  | 4 => .array (.int)
  | 5 => .int
  | 6 => .array (.int)
  | 7 => .int
  | 8 => .int
  | _ => .boolean
theorem n_Display : ∀ a, a < 10 → ∀ b, b < 10 → a ≠ b → (F_Display a).2.1 ≠ (F_Display b).2.1 := by decide +kernel
theorem t_Display_ok : ∀ k, k < 10 → parseFieldDescriptor (F_Display k).2.2.1 = some (t_Display k) := by decide +kernel
theorem i_Display : ∀ w ∈ u_ws "TileScreen$Display" F_Display 10, w ∈ TB := by
  have h : (u_ws "TileScreen$Display" F_Display 10).all (fun w => decide (w ∈ tables_1) && goodWord w) = true := by decide +kernel
  exact fun w hw => by have h1 := List.all_eq_true.mp h w hw; rw [Bool.and_eq_true, decide_eq_true_iff] at h1; exact tb_in h1.1 h1.2
def F_Viewer : u_T := fun k => match k with
  | 0 => ("TileScreen$Viewer", "feed", "LTileScreen$Feed;", true)
  | 1 => ("TileScreen$Viewer", "display", "LTileScreen$Display;", true)
  | 2 => ("TileScreen$Viewer", "poisons", "LTileScreen$Poisons;", true)
  | 3 => ("TileScreen$Viewer", "connected", "Z", false)
  | 4 => ("TileScreen$Viewer", "credit", "I", false)
  | _ => ("TileScreen$Viewer", "epoch", "I", false)
def t_Viewer : Nat → FieldType := fun k => match k with
  | 0 => .object "TileScreen$Feed"
  | 1 => .object "TileScreen$Display"
  | 2 => .object "TileScreen$Poisons"
  | 3 => .boolean
  | 4 => .int
  | _ => .int
theorem n_Viewer : ∀ a, a < 6 → ∀ b, b < 6 → a ≠ b → (F_Viewer a).2.1 ≠ (F_Viewer b).2.1 := by decide +kernel
theorem t_Viewer_ok : ∀ k, k < 6 → parseFieldDescriptor (F_Viewer k).2.2.1 = some (t_Viewer k) := by decide +kernel
theorem i_Viewer : ∀ w ∈ u_ws "TileScreen$Viewer" F_Viewer 6, w ∈ TB := by
  have h : (u_ws "TileScreen$Viewer" F_Viewer 6).all (fun w => decide (w ∈ tables_1) && goodWord w) = true := by decide +kernel
  exact fun w hw => by have h1 := List.all_eq_true.mp h w hw; rw [Bool.and_eq_true, decide_eq_true_iff] at h1; exact tb_in h1.1 h1.2
def F_Scr : u_T := fun k => match k with
  | 0 => ("TileScreen", "drawn", "LTileScreen$Tiles;", true)
  | 1 => ("TileScreen", "closed", "LTileScreen$Tiles;", true)
  | 2 => ("TileScreen", "copy", "LTileScreen$Tiles;", true)
  | 3 => ("TileScreen", "viewers", "[LTileScreen$Viewer;", true)
  | _ => ("TileScreen", "number", "I", false)
def t_Scr : Nat → FieldType := fun k => match k with
  | 0 => .object "TileScreen$Tiles"
  | 1 => .object "TileScreen$Tiles"
  | 2 => .object "TileScreen$Tiles"
  | 3 => .array (.object "TileScreen$Viewer")
  | _ => .int
theorem n_Scr : ∀ a, a < 5 → ∀ b, b < 5 → a ≠ b → (F_Scr a).2.1 ≠ (F_Scr b).2.1 := by decide +kernel
theorem t_Scr_ok : ∀ k, k < 5 → parseFieldDescriptor (F_Scr k).2.2.1 = some (t_Scr k) := by decide +kernel
theorem i_Scr : ∀ w ∈ u_ws "TileScreen" F_Scr 5, w ∈ TB := by
  have h : (u_ws "TileScreen" F_Scr 5).all (fun w => decide (w ∈ tables_1) && goodWord w) = true := by decide +kernel
  exact fun w hw => by have h1 := List.all_eq_true.mp h w hw; rw [Bool.and_eq_true, decide_eq_true_iff] at h1; exact tb_in h1.1 h1.2
def F_Mod : u_T := fun k => match k with
  | 0 => ("TileScreenModel", "code", "I", false)
  | 1 => ("TileScreenModel", "pixel", "[I", true)
  | 2 => ("TileScreenModel", "number", "I", false)
  | 3 => ("TileScreenModel", "cached", "[I", true)
  | 4 => ("TileScreenModel", "place", "[I", true)
  | 5 => ("TileScreenModel", "there", "[Z", true)
  | 6 => ("TileScreenModel", "connected", "[Z", true)
  | 7 => ("TileScreenModel", "shown", "[I", true)
  | 8 => ("TileScreenModel", "sentFrame", "[I", true)
  | 9 => ("TileScreenModel", "credit", "[I", true)
  | 10 => ("TileScreenModel", "epoch", "[I", true)
  | 11 => ("TileScreenModel", "by", "[I", true)
  | 12 => ("TileScreenModel", "line", "[I", true)
  | 13 => ("TileScreenModel", "lineSize", "[I", true)
  | 14 => ("TileScreenModel", "lineAt", "[I", true)
  | 15 => ("TileScreenModel", "came", "[I", true)
  | 16 => ("TileScreenModel", "cameSize", "[I", true)
  | 17 => ("TileScreenModel", "poisonAt", "[I", true)
  | 18 => ("TileScreenModel", "poisonMask", "[I", true)
  | 19 => ("TileScreenModel", "poisons", "[I", true)
  | 20 => ("TileScreenModel", "tile", "[I", true)
  | 21 => ("TileScreenModel", "record", "[I", true)
  | 22 => ("TileScreenModel", "colour", "[I", true)
  | 23 => ("TileScreenModel", "size", "I", false)
  | 24 => ("TileScreenModel", "colours", "I", false)
  | 25 => ("TileScreenModel", "next", "I", false)
  | _ => ("TileScreenModel", "last", "I", false)
def t_Mod : Nat → FieldType := fun k => match k with
  | 0 => .int
  | 1 => .array (.int)
  | 2 => .int
  | 3 => .array (.int)
  | 4 => .array (.int)
  | 5 => .array (.boolean)
  | 6 => .array (.boolean)
  | 7 => .array (.int)
  | 8 => .array (.int)
  | 9 => .array (.int)
  | 10 => .array (.int)
  | 11 => .array (.int)
  | 12 => .array (.int)
  | 13 => .array (.int)
  | 14 => .array (.int)
  | 15 => .array (.int)
  | 16 => .array (.int)
  | 17 => .array (.int)
  | 18 => .array (.int)
  | 19 => .array (.int)
  | 20 => .array (.int)
  | 21 => .array (.int)
  | 22 => .array (.int)
  | 23 => .int
  | 24 => .int
  | 25 => .int
  | _ => .int
theorem n_Mod : ∀ a, a < 27 → ∀ b, b < 27 → a ≠ b → (F_Mod a).2.1 ≠ (F_Mod b).2.1 := by decide +kernel
theorem t_Mod_ok : ∀ k, k < 27 → parseFieldDescriptor (F_Mod k).2.2.1 = some (t_Mod k) := by decide +kernel
theorem i_Mod : ∀ w ∈ u_ws "TileScreenModel" F_Mod 27, w ∈ TB := by
  have h : (u_ws "TileScreenModel" F_Mod 27).all (fun w => decide (w ∈ tables_1) && goodWord w) = true := by decide +kernel
  exact fun w hw => by have h1 := List.all_eq_true.mp h w hw; rw [Bool.and_eq_true, decide_eq_true_iff] at h1; exact tb_in h1.1 h1.2
abbrev classes : List vw_C := [("TileScreen$Tiles", F_Tiles, 2), ("TileScreen$Cache", F_Cache, 3), ("TileScreen$Line", F_Line, 3), ("TileScreen$Poisons", F_Poisons, 3), ("TileScreen$Look", F_Look, 3), ("TileScreen$Feed", F_Feed, 8), ("TileScreen$Display", F_Display, 10), ("TileScreen$Viewer", F_Viewer, 6), ("TileScreen", F_Scr, 5), ("TileScreenModel", F_Mod, 27)]
end
section
/-! the words, one by one: k_n is the n-th of tables_1; s_n the selection of a private method -/
theorem k_0 : (Cond.initialized "TileScreenLaw") ∈ TB := tb_in (List.mem_of_getElem? (i := 0) (by decide +kernel)) (by decide +kernel)
theorem k_1 : (Cond.initialized "TileScreen") ∈ TB := tb_in (List.mem_of_getElem? (i := 1) (by decide +kernel)) (by decide +kernel)
theorem k_2 : (Cond.initialized "TileScreen$Tiles") ∈ TB := tb_in (List.mem_of_getElem? (i := 2) (by decide +kernel)) (by decide +kernel)
theorem k_3 : (Cond.initialized "TileScreen$Viewer") ∈ TB := tb_in (List.mem_of_getElem? (i := 3) (by decide +kernel)) (by decide +kernel)
theorem k_4 : (Cond.initialized "TileScreen$Feed") ∈ TB := tb_in (List.mem_of_getElem? (i := 4) (by decide +kernel)) (by decide +kernel)
theorem k_5 : (Cond.initialized "TileScreen$Cache") ∈ TB := tb_in (List.mem_of_getElem? (i := 5) (by decide +kernel)) (by decide +kernel)
theorem k_6 : (Cond.initialized "TileScreen$Line") ∈ TB := tb_in (List.mem_of_getElem? (i := 6) (by decide +kernel)) (by decide +kernel)
theorem k_7 : (Cond.initialized "TileScreen$Look") ∈ TB := tb_in (List.mem_of_getElem? (i := 7) (by decide +kernel)) (by decide +kernel)
theorem k_8 : (Cond.initialized "TileScreen$Display") ∈ TB := tb_in (List.mem_of_getElem? (i := 8) (by decide +kernel)) (by decide +kernel)
theorem k_9 : (Cond.initialized "TileScreen$Poisons") ∈ TB := tb_in (List.mem_of_getElem? (i := 9) (by decide +kernel)) (by decide +kernel)
theorem k_10 : (Cond.initialized "TileScreenModel") ∈ TB := tb_in (List.mem_of_getElem? (i := 10) (by decide +kernel)) (by decide +kernel)
theorem k_11 : (Cond.initialized "java/lang/System") ∈ TB := tb_in (List.mem_of_getElem? (i := 11) (by decide +kernel)) (by decide +kernel)
theorem k_12 : (Cond.initialized "java/lang/Throwable") ∈ TB := tb_in (List.mem_of_getElem? (i := 12) (by decide +kernel)) (by decide +kernel)
theorem k_13 : (Cond.initialized "java/lang/Exception") ∈ TB := tb_in (List.mem_of_getElem? (i := 13) (by decide +kernel)) (by decide +kernel)
theorem k_14 : (Cond.initialized "java/lang/RuntimeException") ∈ TB := tb_in (List.mem_of_getElem? (i := 14) (by decide +kernel)) (by decide +kernel)
theorem k_15 : (Cond.initialized "java/lang/IllegalArgumentException") ∈ TB := tb_in (List.mem_of_getElem? (i := 15) (by decide +kernel)) (by decide +kernel)
theorem k_16 : (Cond.initialized "java/lang/IllegalStateException") ∈ TB := tb_in (List.mem_of_getElem? (i := 16) (by decide +kernel)) (by decide +kernel)
theorem k_17 : (Cond.initialized "java/lang/Math") ∈ TB := tb_in (List.mem_of_getElem? (i := 17) (by decide +kernel)) (by decide +kernel)
theorem k_18 : (Cond.classLink "TileScreenLaw" 8 "TileScreen") ∈ TB := tb_in (List.mem_of_getElem? (i := 18) (by decide +kernel)) (by decide +kernel)
theorem k_19 : (Cond.instantiable "TileScreen" 5) ∈ TB := tb_in (List.mem_of_getElem? (i := 19) (by decide +kernel)) (by decide +kernel)
theorem k_20 : (Cond.methodLink "TileScreenLaw" 17 ⟨"TileScreen", "<init>", "()V"⟩) ∈ TB := tb_in (List.mem_of_getElem? (i := 20) (by decide +kernel)) (by decide +kernel)
theorem k_21 : (Cond.instanceMethod ⟨"TileScreen", "<init>", "()V"⟩) ∈ TB := tb_in (List.mem_of_getElem? (i := 21) (by decide +kernel)) (by decide +kernel)
theorem k_22 : (Cond.code ⟨"TileScreen", "<init>", "()V"⟩ prog_1_method_1_code 2 none) ∈ TB := tb_in (List.mem_of_getElem? (i := 22) (by decide +kernel)) (by decide +kernel)
theorem k_23 : (Cond.methodLink "TileScreen" 3 ⟨"java/lang/Object", "<init>", "()V"⟩) ∈ TB := tb_in (List.mem_of_getElem? (i := 23) (by decide +kernel)) (by decide +kernel)
theorem k_24 : (Cond.instanceMethod ⟨"java/lang/Object", "<init>", "()V"⟩) ∈ TB := tb_in (List.mem_of_getElem? (i := 24) (by decide +kernel)) (by decide +kernel)
theorem k_25 : (Cond.code ⟨"java/lang/Object", "<init>", "()V"⟩ object_method_1_code 1 none) ∈ TB := tb_in (List.mem_of_getElem? (i := 25) (by decide +kernel)) (by decide +kernel)
theorem k_26 : (Cond.classLink "TileScreen" 9 "TileScreen$Tiles") ∈ TB := tb_in (List.mem_of_getElem? (i := 26) (by decide +kernel)) (by decide +kernel)
theorem k_27 : (Cond.instantiable "TileScreen$Tiles" 2) ∈ TB := tb_in (List.mem_of_getElem? (i := 27) (by decide +kernel)) (by decide +kernel)
theorem k_28 : (Cond.methodLink "TileScreen" 11 ⟨"TileScreen$Tiles", "<init>", "(I)V"⟩) ∈ TB := tb_in (List.mem_of_getElem? (i := 28) (by decide +kernel)) (by decide +kernel)
theorem k_29 : (Cond.instanceMethod ⟨"TileScreen$Tiles", "<init>", "(I)V"⟩) ∈ TB := tb_in (List.mem_of_getElem? (i := 29) (by decide +kernel)) (by decide +kernel)
theorem k_30 : (Cond.code ⟨"TileScreen$Tiles", "<init>", "(I)V"⟩ prog_8_method_1_code 2 none) ∈ TB := tb_in (List.mem_of_getElem? (i := 30) (by decide +kernel)) (by decide +kernel)
theorem k_31 : (Cond.methodLink "TileScreen$Tiles" 3 ⟨"java/lang/Object", "<init>", "()V"⟩) ∈ TB := tb_in (List.mem_of_getElem? (i := 31) (by decide +kernel)) (by decide +kernel)
theorem k_32 : (Cond.fieldLink "TileScreen$Tiles" 9 "TileScreen$Tiles" "count" "I") ∈ TB := tb_in (List.mem_of_getElem? (i := 32) (by decide +kernel)) (by decide +kernel)
theorem k_33 : (Cond.fieldLink "TileScreen$Tiles" 15 "TileScreen$Tiles" "pixels" "[I") ∈ TB := tb_in (List.mem_of_getElem? (i := 33) (by decide +kernel)) (by decide +kernel)
theorem k_39 : (Cond.arrayClass .int) ∈ TB := tb_in (List.mem_of_getElem? (i := 39) (by decide +kernel)) (by decide +kernel)
theorem k_40 : (Cond.classLink "TileScreen" 24 "TileScreen$Viewer") ∈ TB := tb_in (List.mem_of_getElem? (i := 40) (by decide +kernel)) (by decide +kernel)
theorem k_42 : (Cond.instantiable "TileScreen$Viewer" 6) ∈ TB := tb_in (List.mem_of_getElem? (i := 42) (by decide +kernel)) (by decide +kernel)
theorem k_43 : (Cond.methodLinkNest "TileScreen" 30 ⟨"TileScreen$Viewer", "<init>", "()V"⟩ "TileScreen") ∈ NW := nw_in (List.mem_of_getElem? (i := 43) (by decide +kernel)) rfl
theorem k_44 : (Cond.instanceMethod ⟨"TileScreen$Viewer", "<init>", "()V"⟩) ∈ TB := tb_in (List.mem_of_getElem? (i := 44) (by decide +kernel)) (by decide +kernel)
theorem k_45 : (Cond.code ⟨"TileScreen$Viewer", "<init>", "()V"⟩ prog_9_method_1_code 1 none) ∈ TB := tb_in (List.mem_of_getElem? (i := 45) (by decide +kernel)) (by decide +kernel)
theorem k_46 : (Cond.methodLink "TileScreen$Viewer" 1 ⟨"java/lang/Object", "<init>", "()V"⟩) ∈ TB := tb_in (List.mem_of_getElem? (i := 46) (by decide +kernel)) (by decide +kernel)
theorem k_47 : (Cond.classLink "TileScreen$Viewer" 7 "TileScreen$Feed") ∈ TB := tb_in (List.mem_of_getElem? (i := 47) (by decide +kernel)) (by decide +kernel)
theorem k_48 : (Cond.instantiable "TileScreen$Feed" 8) ∈ TB := tb_in (List.mem_of_getElem? (i := 48) (by decide +kernel)) (by decide +kernel)
theorem k_49 : (Cond.methodLinkNest "TileScreen$Viewer" 9 ⟨"TileScreen$Feed", "<init>", "()V"⟩ "TileScreen") ∈ NW := nw_in (List.mem_of_getElem? (i := 49) (by decide +kernel)) rfl
theorem k_50 : (Cond.instanceMethod ⟨"TileScreen$Feed", "<init>", "()V"⟩) ∈ TB := tb_in (List.mem_of_getElem? (i := 50) (by decide +kernel)) (by decide +kernel)
theorem k_51 : (Cond.code ⟨"TileScreen$Feed", "<init>", "()V"⟩ prog_4_method_1_code 1 none) ∈ TB := tb_in (List.mem_of_getElem? (i := 51) (by decide +kernel)) (by decide +kernel)
theorem k_52 : (Cond.methodLink "TileScreen$Feed" 3 ⟨"java/lang/Object", "<init>", "()V"⟩) ∈ TB := tb_in (List.mem_of_getElem? (i := 52) (by decide +kernel)) (by decide +kernel)
theorem k_53 : (Cond.classLink "TileScreen$Feed" 9 "TileScreen$Tiles") ∈ TB := tb_in (List.mem_of_getElem? (i := 53) (by decide +kernel)) (by decide +kernel)
theorem k_54 : (Cond.methodLink "TileScreen$Feed" 11 ⟨"TileScreen$Tiles", "<init>", "(I)V"⟩) ∈ TB := tb_in (List.mem_of_getElem? (i := 54) (by decide +kernel)) (by decide +kernel)
theorem k_55 : (Cond.classLink "TileScreen$Feed" 20 "TileScreen$Cache") ∈ TB := tb_in (List.mem_of_getElem? (i := 55) (by decide +kernel)) (by decide +kernel)
theorem k_56 : (Cond.instantiable "TileScreen$Cache" 3) ∈ TB := tb_in (List.mem_of_getElem? (i := 56) (by decide +kernel)) (by decide +kernel)
theorem k_57 : (Cond.methodLinkNest "TileScreen$Feed" 22 ⟨"TileScreen$Cache", "<init>", "()V"⟩ "TileScreen") ∈ NW := nw_in (List.mem_of_getElem? (i := 57) (by decide +kernel)) rfl
theorem k_58 : (Cond.instanceMethod ⟨"TileScreen$Cache", "<init>", "()V"⟩) ∈ TB := tb_in (List.mem_of_getElem? (i := 58) (by decide +kernel)) (by decide +kernel)
theorem k_59 : (Cond.code ⟨"TileScreen$Cache", "<init>", "()V"⟩ prog_2_method_1_code 1 none) ∈ TB := tb_in (List.mem_of_getElem? (i := 59) (by decide +kernel)) (by decide +kernel)
theorem k_60 : (Cond.methodLink "TileScreen$Cache" 3 ⟨"java/lang/Object", "<init>", "()V"⟩) ∈ TB := tb_in (List.mem_of_getElem? (i := 60) (by decide +kernel)) (by decide +kernel)
theorem k_61 : (Cond.classLink "TileScreen$Cache" 9 "TileScreen$Tiles") ∈ TB := tb_in (List.mem_of_getElem? (i := 61) (by decide +kernel)) (by decide +kernel)
theorem k_62 : (Cond.methodLink "TileScreen$Cache" 11 ⟨"TileScreen$Tiles", "<init>", "(I)V"⟩) ∈ TB := tb_in (List.mem_of_getElem? (i := 62) (by decide +kernel)) (by decide +kernel)
theorem k_63 : (Cond.fieldLink "TileScreen$Cache" 14 "TileScreen$Cache" "tiles" "LTileScreen$Tiles;") ∈ TB := tb_in (List.mem_of_getElem? (i := 63) (by decide +kernel)) (by decide +kernel)
theorem k_64 : (Cond.fieldLinkNest "TileScreen$Feed" 94 "TileScreen$Cache" "tiles" "LTileScreen$Tiles;" "TileScreen") ∈ NW := nw_in (List.mem_of_getElem? (i := 64) (by decide +kernel)) rfl
theorem k_65 : (Cond.fieldLinkNest "TileScreen$Display" 101 "TileScreen$Cache" "tiles" "LTileScreen$Tiles;" "TileScreen") ∈ NW := nw_in (List.mem_of_getElem? (i := 65) (by decide +kernel)) rfl
theorem k_66 : (Cond.fieldLink "TileScreen$Cache" 20 "TileScreen$Cache" "place" "I") ∈ TB := tb_in (List.mem_of_getElem? (i := 66) (by decide +kernel)) (by decide +kernel)
theorem k_67 : (Cond.fieldLinkNest "TileScreen" 164 "TileScreen$Cache" "place" "I" "TileScreen") ∈ NW := nw_in (List.mem_of_getElem? (i := 67) (by decide +kernel)) rfl
theorem k_68 : (Cond.fieldLink "TileScreen$Cache" 24 "TileScreen$Cache" "used" "I") ∈ TB := tb_in (List.mem_of_getElem? (i := 68) (by decide +kernel)) (by decide +kernel)
theorem k_69 : (Cond.fieldLinkNest "TileScreen$Feed" 97 "TileScreen$Cache" "used" "I" "TileScreen") ∈ NW := nw_in (List.mem_of_getElem? (i := 69) (by decide +kernel)) rfl
theorem k_70 : (Cond.fieldLinkNest "TileScreen$Display" 104 "TileScreen$Cache" "used" "I" "TileScreen") ∈ NW := nw_in (List.mem_of_getElem? (i := 70) (by decide +kernel)) rfl
theorem k_78 : (Cond.classLink "TileScreen$Feed" 27 "TileScreen$Line") ∈ TB := tb_in (List.mem_of_getElem? (i := 78) (by decide +kernel)) (by decide +kernel)
theorem k_79 : (Cond.instantiable "TileScreen$Line" 3) ∈ TB := tb_in (List.mem_of_getElem? (i := 79) (by decide +kernel)) (by decide +kernel)
theorem k_80 : (Cond.methodLinkNest "TileScreen$Feed" 29 ⟨"TileScreen$Line", "<init>", "()V"⟩ "TileScreen") ∈ NW := nw_in (List.mem_of_getElem? (i := 80) (by decide +kernel)) rfl
theorem k_81 : (Cond.instanceMethod ⟨"TileScreen$Line", "<init>", "()V"⟩) ∈ TB := tb_in (List.mem_of_getElem? (i := 81) (by decide +kernel)) (by decide +kernel)
theorem k_82 : (Cond.code ⟨"TileScreen$Line", "<init>", "()V"⟩ prog_5_method_1_code 1 none) ∈ TB := tb_in (List.mem_of_getElem? (i := 82) (by decide +kernel)) (by decide +kernel)
theorem k_83 : (Cond.methodLink "TileScreen$Line" 3 ⟨"java/lang/Object", "<init>", "()V"⟩) ∈ TB := tb_in (List.mem_of_getElem? (i := 83) (by decide +kernel)) (by decide +kernel)
theorem k_84 : (Cond.fieldLink "TileScreen$Line" 9 "TileScreen$Line" "bytes" "[I") ∈ TB := tb_in (List.mem_of_getElem? (i := 84) (by decide +kernel)) (by decide +kernel)
theorem k_85 : (Cond.fieldLinkNest "TileScreen$Feed" 62 "TileScreen$Line" "bytes" "[I" "TileScreen") ∈ NW := nw_in (List.mem_of_getElem? (i := 85) (by decide +kernel)) rfl
theorem k_86 : (Cond.fieldLink "TileScreen$Line" 15 "TileScreen$Line" "first" "I") ∈ TB := tb_in (List.mem_of_getElem? (i := 86) (by decide +kernel)) (by decide +kernel)
theorem k_87 : (Cond.fieldLink "TileScreen$Line" 19 "TileScreen$Line" "size" "I") ∈ TB := tb_in (List.mem_of_getElem? (i := 87) (by decide +kernel)) (by decide +kernel)
theorem k_88 : (Cond.fieldLinkNest "TileScreen$Feed" 65 "TileScreen$Line" "size" "I" "TileScreen") ∈ NW := nw_in (List.mem_of_getElem? (i := 88) (by decide +kernel)) rfl
theorem k_89 : (Cond.fieldLinkNest "TileScreen" 102 "TileScreen$Line" "size" "I" "TileScreen") ∈ NW := nw_in (List.mem_of_getElem? (i := 89) (by decide +kernel)) rfl
theorem k_97 : (Cond.classLink "TileScreen$Feed" 38 "TileScreen$Look") ∈ TB := tb_in (List.mem_of_getElem? (i := 97) (by decide +kernel)) (by decide +kernel)
theorem k_98 : (Cond.instantiable "TileScreen$Look" 3) ∈ TB := tb_in (List.mem_of_getElem? (i := 98) (by decide +kernel)) (by decide +kernel)
theorem k_99 : (Cond.methodLinkNest "TileScreen$Feed" 40 ⟨"TileScreen$Look", "<init>", "()V"⟩ "TileScreen") ∈ NW := nw_in (List.mem_of_getElem? (i := 99) (by decide +kernel)) rfl
theorem k_100 : (Cond.instanceMethod ⟨"TileScreen$Look", "<init>", "()V"⟩) ∈ TB := tb_in (List.mem_of_getElem? (i := 100) (by decide +kernel)) (by decide +kernel)
theorem k_101 : (Cond.code ⟨"TileScreen$Look", "<init>", "()V"⟩ prog_6_method_1_code 1 none) ∈ TB := tb_in (List.mem_of_getElem? (i := 101) (by decide +kernel)) (by decide +kernel)
theorem k_102 : (Cond.methodLink "TileScreen$Look" 3 ⟨"java/lang/Object", "<init>", "()V"⟩) ∈ TB := tb_in (List.mem_of_getElem? (i := 102) (by decide +kernel)) (by decide +kernel)
theorem k_103 : (Cond.fieldLink "TileScreen$Look" 9 "TileScreen$Look" "palette" "[I") ∈ TB := tb_in (List.mem_of_getElem? (i := 103) (by decide +kernel)) (by decide +kernel)
theorem k_104 : (Cond.fieldLinkNest "TileScreen$Feed" 128 "TileScreen$Look" "palette" "[I" "TileScreen") ∈ NW := nw_in (List.mem_of_getElem? (i := 104) (by decide +kernel)) rfl
theorem k_105 : (Cond.fieldLink "TileScreen$Look" 15 "TileScreen$Look" "colours" "I") ∈ TB := tb_in (List.mem_of_getElem? (i := 105) (by decide +kernel)) (by decide +kernel)
theorem k_106 : (Cond.fieldLinkNest "TileScreen$Feed" 122 "TileScreen$Look" "colours" "I" "TileScreen") ∈ NW := nw_in (List.mem_of_getElem? (i := 106) (by decide +kernel)) rfl
theorem k_107 : (Cond.fieldLink "TileScreen$Look" 19 "TileScreen$Look" "runs" "I") ∈ TB := tb_in (List.mem_of_getElem? (i := 107) (by decide +kernel)) (by decide +kernel)
theorem k_108 : (Cond.fieldLinkNest "TileScreen$Feed" 125 "TileScreen$Look" "runs" "I" "TileScreen") ∈ NW := nw_in (List.mem_of_getElem? (i := 108) (by decide +kernel)) rfl
theorem k_116 : (Cond.fieldLink "TileScreen$Feed" 14 "TileScreen$Feed" "sent" "LTileScreen$Tiles;") ∈ TB := tb_in (List.mem_of_getElem? (i := 116) (by decide +kernel)) (by decide +kernel)
theorem k_117 : (Cond.fieldLinkNest "TileScreen$Viewer" 38 "TileScreen$Feed" "sent" "LTileScreen$Tiles;" "TileScreen") ∈ NW := nw_in (List.mem_of_getElem? (i := 117) (by decide +kernel)) rfl
theorem k_118 : (Cond.fieldLinkNest "TileScreen" 153 "TileScreen$Feed" "sent" "LTileScreen$Tiles;" "TileScreen") ∈ NW := nw_in (List.mem_of_getElem? (i := 118) (by decide +kernel)) rfl
theorem k_119 : (Cond.fieldLinkNest "TileScreen$Viewer" 54 "TileScreen$Feed" "sentNumber" "I" "TileScreen") ∈ NW := nw_in (List.mem_of_getElem? (i := 119) (by decide +kernel)) rfl
theorem k_120 : (Cond.fieldLink "TileScreen$Feed" 81 "TileScreen$Feed" "sentNumber" "I") ∈ TB := tb_in (List.mem_of_getElem? (i := 120) (by decide +kernel)) (by decide +kernel)
theorem k_121 : (Cond.fieldLinkNest "TileScreen" 107 "TileScreen$Feed" "sentNumber" "I" "TileScreen") ∈ NW := nw_in (List.mem_of_getElem? (i := 121) (by decide +kernel)) rfl
theorem k_122 : (Cond.fieldLink "TileScreen$Feed" 23 "TileScreen$Feed" "cache" "LTileScreen$Cache;") ∈ TB := tb_in (List.mem_of_getElem? (i := 122) (by decide +kernel)) (by decide +kernel)
theorem k_123 : (Cond.fieldLinkNest "TileScreen$Viewer" 57 "TileScreen$Feed" "cache" "LTileScreen$Cache;" "TileScreen") ∈ NW := nw_in (List.mem_of_getElem? (i := 123) (by decide +kernel)) rfl
theorem k_124 : (Cond.fieldLinkNest "TileScreen" 160 "TileScreen$Feed" "cache" "LTileScreen$Cache;" "TileScreen") ∈ NW := nw_in (List.mem_of_getElem? (i := 124) (by decide +kernel)) rfl
theorem k_125 : (Cond.fieldLink "TileScreen$Feed" 30 "TileScreen$Feed" "line" "LTileScreen$Line;") ∈ TB := tb_in (List.mem_of_getElem? (i := 125) (by decide +kernel)) (by decide +kernel)
theorem k_126 : (Cond.fieldLinkNest "TileScreen$Viewer" 70 "TileScreen$Feed" "line" "LTileScreen$Line;" "TileScreen") ∈ NW := nw_in (List.mem_of_getElem? (i := 126) (by decide +kernel)) rfl
theorem k_127 : (Cond.fieldLinkNest "TileScreen" 96 "TileScreen$Feed" "line" "LTileScreen$Line;" "TileScreen") ∈ NW := nw_in (List.mem_of_getElem? (i := 127) (by decide +kernel)) rfl
theorem k_128 : (Cond.fieldLink "TileScreen$Feed" 34 "TileScreen$Feed" "composed" "[I") ∈ TB := tb_in (List.mem_of_getElem? (i := 128) (by decide +kernel)) (by decide +kernel)
theorem k_129 : (Cond.fieldLinkNest "TileScreen" 169 "TileScreen$Feed" "composed" "[I" "TileScreen") ∈ NW := nw_in (List.mem_of_getElem? (i := 129) (by decide +kernel)) rfl
theorem k_130 : (Cond.fieldLink "TileScreen$Feed" 41 "TileScreen$Feed" "look" "LTileScreen$Look;") ∈ TB := tb_in (List.mem_of_getElem? (i := 130) (by decide +kernel)) (by decide +kernel)
theorem k_131 : (Cond.fieldLink "TileScreen$Feed" 91 "TileScreen$Feed" "twin" "I") ∈ TB := tb_in (List.mem_of_getElem? (i := 131) (by decide +kernel)) (by decide +kernel)
theorem k_132 : (Cond.fieldLink "TileScreen$Feed" 100 "TileScreen$Feed" "entry" "I") ∈ TB := tb_in (List.mem_of_getElem? (i := 132) (by decide +kernel)) (by decide +kernel)
theorem k_150 : (Cond.classLink "TileScreen$Viewer" 16 "TileScreen$Display") ∈ TB := tb_in (List.mem_of_getElem? (i := 150) (by decide +kernel)) (by decide +kernel)
theorem k_151 : (Cond.instantiable "TileScreen$Display" 10) ∈ TB := tb_in (List.mem_of_getElem? (i := 151) (by decide +kernel)) (by decide +kernel)
theorem k_152 : (Cond.methodLinkNest "TileScreen$Viewer" 18 ⟨"TileScreen$Display", "<init>", "()V"⟩ "TileScreen") ∈ NW := nw_in (List.mem_of_getElem? (i := 152) (by decide +kernel)) rfl
theorem k_153 : (Cond.instanceMethod ⟨"TileScreen$Display", "<init>", "()V"⟩) ∈ TB := tb_in (List.mem_of_getElem? (i := 153) (by decide +kernel)) (by decide +kernel)
theorem k_154 : (Cond.code ⟨"TileScreen$Display", "<init>", "()V"⟩ prog_3_method_1_code 1 none) ∈ TB := tb_in (List.mem_of_getElem? (i := 154) (by decide +kernel)) (by decide +kernel)
theorem k_155 : (Cond.methodLink "TileScreen$Display" 3 ⟨"java/lang/Object", "<init>", "()V"⟩) ∈ TB := tb_in (List.mem_of_getElem? (i := 155) (by decide +kernel)) (by decide +kernel)
theorem k_156 : (Cond.classLink "TileScreen$Display" 9 "TileScreen$Tiles") ∈ TB := tb_in (List.mem_of_getElem? (i := 156) (by decide +kernel)) (by decide +kernel)
theorem k_157 : (Cond.methodLink "TileScreen$Display" 11 ⟨"TileScreen$Tiles", "<init>", "(I)V"⟩) ∈ TB := tb_in (List.mem_of_getElem? (i := 157) (by decide +kernel)) (by decide +kernel)
theorem k_158 : (Cond.classLink "TileScreen$Display" 23 "TileScreen$Cache") ∈ TB := tb_in (List.mem_of_getElem? (i := 158) (by decide +kernel)) (by decide +kernel)
theorem k_159 : (Cond.methodLinkNest "TileScreen$Display" 25 ⟨"TileScreen$Cache", "<init>", "()V"⟩ "TileScreen") ∈ NW := nw_in (List.mem_of_getElem? (i := 159) (by decide +kernel)) rfl
theorem k_160 : (Cond.fieldLink "TileScreen$Display" 14 "TileScreen$Display" "front" "LTileScreen$Tiles;") ∈ TB := tb_in (List.mem_of_getElem? (i := 160) (by decide +kernel)) (by decide +kernel)
theorem k_161 : (Cond.fieldLinkNest "TileScreen$Viewer" 42 "TileScreen$Display" "front" "LTileScreen$Tiles;" "TileScreen") ∈ NW := nw_in (List.mem_of_getElem? (i := 161) (by decide +kernel)) rfl
theorem k_162 : (Cond.fieldLinkNest "TileScreen" 144 "TileScreen$Display" "front" "LTileScreen$Tiles;" "TileScreen") ∈ NW := nw_in (List.mem_of_getElem? (i := 162) (by decide +kernel)) rfl
theorem k_163 : (Cond.fieldLinkNest "TileScreen$Viewer" 51 "TileScreen$Display" "frontNumber" "I" "TileScreen") ∈ NW := nw_in (List.mem_of_getElem? (i := 163) (by decide +kernel)) rfl
theorem k_164 : (Cond.fieldLink "TileScreen$Display" 73 "TileScreen$Display" "frontNumber" "I") ∈ TB := tb_in (List.mem_of_getElem? (i := 164) (by decide +kernel)) (by decide +kernel)
theorem k_165 : (Cond.fieldLinkNest "TileScreen" 141 "TileScreen$Display" "frontNumber" "I" "TileScreen") ∈ NW := nw_in (List.mem_of_getElem? (i := 165) (by decide +kernel)) rfl
theorem k_166 : (Cond.fieldLink "TileScreen$Display" 20 "TileScreen$Display" "back" "LTileScreen$Tiles;") ∈ TB := tb_in (List.mem_of_getElem? (i := 166) (by decide +kernel)) (by decide +kernel)
theorem k_167 : (Cond.fieldLink "TileScreen$Display" 26 "TileScreen$Display" "cache" "LTileScreen$Cache;") ∈ TB := tb_in (List.mem_of_getElem? (i := 167) (by decide +kernel)) (by decide +kernel)
theorem k_168 : (Cond.fieldLinkNest "TileScreen$Viewer" 66 "TileScreen$Display" "cache" "LTileScreen$Cache;" "TileScreen") ∈ NW := nw_in (List.mem_of_getElem? (i := 168) (by decide +kernel)) rfl
theorem k_169 : (Cond.fieldLink "TileScreen$Display" 30 "TileScreen$Display" "came" "[I") ∈ TB := tb_in (List.mem_of_getElem? (i := 169) (by decide +kernel)) (by decide +kernel)
theorem k_170 : (Cond.fieldLink "TileScreen$Display" 37 "TileScreen$Display" "cameSize" "I") ∈ TB := tb_in (List.mem_of_getElem? (i := 170) (by decide +kernel)) (by decide +kernel)
theorem k_171 : (Cond.fieldLinkNest "TileScreen" 147 "TileScreen$Display" "cameSize" "I" "TileScreen") ∈ NW := nw_in (List.mem_of_getElem? (i := 171) (by decide +kernel)) rfl
theorem k_172 : (Cond.fieldLink "TileScreen$Display" 34 "TileScreen$Display" "palette" "[I") ∈ TB := tb_in (List.mem_of_getElem? (i := 172) (by decide +kernel)) (by decide +kernel)
theorem k_173 : (Cond.fieldLink "TileScreen$Display" 48 "TileScreen$Display" "position" "I") ∈ TB := tb_in (List.mem_of_getElem? (i := 173) (by decide +kernel)) (by decide +kernel)
theorem k_174 : (Cond.fieldLink "TileScreen$Display" 51 "TileScreen$Display" "end" "I") ∈ TB := tb_in (List.mem_of_getElem? (i := 174) (by decide +kernel)) (by decide +kernel)
theorem k_175 : (Cond.fieldLink "TileScreen$Display" 62 "TileScreen$Display" "wrong" "Z") ∈ TB := tb_in (List.mem_of_getElem? (i := 175) (by decide +kernel)) (by decide +kernel)
theorem k_197 : (Cond.classLink "TileScreen$Viewer" 23 "TileScreen$Poisons") ∈ TB := tb_in (List.mem_of_getElem? (i := 197) (by decide +kernel)) (by decide +kernel)
theorem k_198 : (Cond.instantiable "TileScreen$Poisons" 3) ∈ TB := tb_in (List.mem_of_getElem? (i := 198) (by decide +kernel)) (by decide +kernel)
theorem k_199 : (Cond.methodLinkNest "TileScreen$Viewer" 25 ⟨"TileScreen$Poisons", "<init>", "()V"⟩ "TileScreen") ∈ NW := nw_in (List.mem_of_getElem? (i := 199) (by decide +kernel)) rfl
theorem k_200 : (Cond.instanceMethod ⟨"TileScreen$Poisons", "<init>", "()V"⟩) ∈ TB := tb_in (List.mem_of_getElem? (i := 200) (by decide +kernel)) (by decide +kernel)
theorem k_201 : (Cond.code ⟨"TileScreen$Poisons", "<init>", "()V"⟩ prog_7_method_1_code 1 none) ∈ TB := tb_in (List.mem_of_getElem? (i := 201) (by decide +kernel)) (by decide +kernel)
theorem k_202 : (Cond.methodLink "TileScreen$Poisons" 3 ⟨"java/lang/Object", "<init>", "()V"⟩) ∈ TB := tb_in (List.mem_of_getElem? (i := 202) (by decide +kernel)) (by decide +kernel)
theorem k_203 : (Cond.fieldLink "TileScreen$Poisons" 9 "TileScreen$Poisons" "ahead" "[I") ∈ TB := tb_in (List.mem_of_getElem? (i := 203) (by decide +kernel)) (by decide +kernel)
theorem k_204 : (Cond.fieldLink "TileScreen$Poisons" 15 "TileScreen$Poisons" "masks" "[I") ∈ TB := tb_in (List.mem_of_getElem? (i := 204) (by decide +kernel)) (by decide +kernel)
theorem k_205 : (Cond.fieldLink "TileScreen$Poisons" 18 "TileScreen$Poisons" "count" "I") ∈ TB := tb_in (List.mem_of_getElem? (i := 205) (by decide +kernel)) (by decide +kernel)
theorem k_213 : (Cond.fieldLink "TileScreen$Viewer" 10 "TileScreen$Viewer" "feed" "LTileScreen$Feed;") ∈ TB := tb_in (List.mem_of_getElem? (i := 213) (by decide +kernel)) (by decide +kernel)
theorem k_214 : (Cond.fieldLinkNest "TileScreen" 92 "TileScreen$Viewer" "feed" "LTileScreen$Feed;" "TileScreen") ∈ NW := nw_in (List.mem_of_getElem? (i := 214) (by decide +kernel)) rfl
theorem k_215 : (Cond.fieldLink "TileScreen$Viewer" 19 "TileScreen$Viewer" "display" "LTileScreen$Display;") ∈ TB := tb_in (List.mem_of_getElem? (i := 215) (by decide +kernel)) (by decide +kernel)
theorem k_216 : (Cond.fieldLinkNest "TileScreen" 114 "TileScreen$Viewer" "display" "LTileScreen$Display;" "TileScreen") ∈ NW := nw_in (List.mem_of_getElem? (i := 216) (by decide +kernel)) rfl
theorem k_217 : (Cond.fieldLink "TileScreen$Viewer" 26 "TileScreen$Viewer" "poisons" "LTileScreen$Poisons;") ∈ TB := tb_in (List.mem_of_getElem? (i := 217) (by decide +kernel)) (by decide +kernel)
theorem k_218 : (Cond.fieldLinkNest "TileScreen" 118 "TileScreen$Viewer" "poisons" "LTileScreen$Poisons;" "TileScreen") ∈ NW := nw_in (List.mem_of_getElem? (i := 218) (by decide +kernel)) rfl
theorem k_219 : (Cond.fieldLink "TileScreen$Viewer" 30 "TileScreen$Viewer" "connected" "Z") ∈ TB := tb_in (List.mem_of_getElem? (i := 219) (by decide +kernel)) (by decide +kernel)
theorem k_220 : (Cond.fieldLinkNest "TileScreen" 66 "TileScreen$Viewer" "connected" "Z" "TileScreen") ∈ NW := nw_in (List.mem_of_getElem? (i := 220) (by decide +kernel)) rfl
theorem k_221 : (Cond.fieldLink "TileScreen$Viewer" 67 "TileScreen$Viewer" "credit" "I") ∈ TB := tb_in (List.mem_of_getElem? (i := 221) (by decide +kernel)) (by decide +kernel)
theorem k_222 : (Cond.fieldLinkNest "TileScreen" 84 "TileScreen$Viewer" "credit" "I" "TileScreen") ∈ NW := nw_in (List.mem_of_getElem? (i := 222) (by decide +kernel)) rfl
theorem k_223 : (Cond.fieldLink "TileScreen$Viewer" 34 "TileScreen$Viewer" "epoch" "I") ∈ TB := tb_in (List.mem_of_getElem? (i := 223) (by decide +kernel)) (by decide +kernel)
theorem k_224 : (Cond.fieldLinkNest "TileScreen" 150 "TileScreen$Viewer" "epoch" "I" "TileScreen") ∈ NW := nw_in (List.mem_of_getElem? (i := 224) (by decide +kernel)) rfl
theorem k_238 : (Cond.fieldLink "TileScreen" 14 "TileScreen" "drawn" "LTileScreen$Tiles;") ∈ TB := tb_in (List.mem_of_getElem? (i := 238) (by decide +kernel)) (by decide +kernel)
theorem k_239 : (Cond.fieldLink "TileScreen" 18 "TileScreen" "closed" "LTileScreen$Tiles;") ∈ TB := tb_in (List.mem_of_getElem? (i := 239) (by decide +kernel)) (by decide +kernel)
theorem k_240 : (Cond.fieldLink "TileScreen" 21 "TileScreen" "copy" "LTileScreen$Tiles;") ∈ TB := tb_in (List.mem_of_getElem? (i := 240) (by decide +kernel)) (by decide +kernel)
theorem k_241 : (Cond.fieldLink "TileScreen" 26 "TileScreen" "viewers" "[LTileScreen$Viewer;") ∈ TB := tb_in (List.mem_of_getElem? (i := 241) (by decide +kernel)) (by decide +kernel)
theorem k_242 : (Cond.fieldLink "TileScreen" 31 "TileScreen" "number" "I") ∈ TB := tb_in (List.mem_of_getElem? (i := 242) (by decide +kernel)) (by decide +kernel)
theorem k_254 : (Cond.methodLink "TileScreenLaw" 21 ⟨"TileScreen", "fill", "(IIIII)Z"⟩) ∈ TB := tb_in (List.mem_of_getElem? (i := 254) (by decide +kernel)) (by decide +kernel)
theorem k_255 : (Cond.instanceMethod ⟨"TileScreen", "fill", "(IIIII)Z"⟩) ∈ TB := tb_in (List.mem_of_getElem? (i := 255) (by decide +kernel)) (by decide +kernel)
theorem k_256 : (Cond.selects "TileScreen" ⟨"TileScreen", "fill", "(IIIII)Z"⟩ ⟨"TileScreen", "fill", "(IIIII)Z"⟩) ∈ TB := tb_in (List.mem_of_getElem? (i := 256) (by decide +kernel)) (by decide +kernel)
theorem k_257 : (Cond.code ⟨"TileScreen", "fill", "(IIIII)Z"⟩ prog_1_method_2_code 8 (some .boolean)) ∈ TB := tb_in (List.mem_of_getElem? (i := 257) (by decide +kernel)) (by decide +kernel)
theorem k_258 : (Cond.methodLink "TileScreen" 35 ⟨"TileScreen", "isInside", "(IIII)Z"⟩) ∈ TB := tb_in (List.mem_of_getElem? (i := 258) (by decide +kernel)) (by decide +kernel)
theorem k_259 : (Cond.static ⟨"TileScreen", "isInside", "(IIII)Z"⟩) ∈ TB := tb_in (List.mem_of_getElem? (i := 259) (by decide +kernel)) (by decide +kernel)
theorem k_260 : (Cond.code ⟨"TileScreen", "isInside", "(IIII)Z"⟩ prog_1_method_18_code 4 (some .boolean)) ∈ TB := tb_in (List.mem_of_getElem? (i := 260) (by decide +kernel)) (by decide +kernel)
theorem k_261 : (Cond.methodLink "TileScreen" 39 ⟨"TileScreen", "isColour", "(I)Z"⟩) ∈ TB := tb_in (List.mem_of_getElem? (i := 261) (by decide +kernel)) (by decide +kernel)
theorem k_262 : (Cond.static ⟨"TileScreen", "isColour", "(I)Z"⟩) ∈ TB := tb_in (List.mem_of_getElem? (i := 262) (by decide +kernel)) (by decide +kernel)
theorem k_263 : (Cond.code ⟨"TileScreen", "isColour", "(I)Z"⟩ prog_1_method_17_code 1 (some .boolean)) ∈ TB := tb_in (List.mem_of_getElem? (i := 263) (by decide +kernel)) (by decide +kernel)
theorem k_264 : (Cond.constant "TileScreen" 176 65536) ∈ TB := tb_in (List.mem_of_getElem? (i := 264) (by decide +kernel)) (by decide +kernel)
theorem k_265 : (Cond.methodLink "TileScreen" 43 ⟨"TileScreen", "tileOf", "(II)I"⟩) ∈ TB := tb_in (List.mem_of_getElem? (i := 265) (by decide +kernel)) (by decide +kernel)
theorem k_266 : (Cond.static ⟨"TileScreen", "tileOf", "(II)I"⟩) ∈ TB := tb_in (List.mem_of_getElem? (i := 266) (by decide +kernel)) (by decide +kernel)
theorem k_267 : (Cond.code ⟨"TileScreen", "tileOf", "(II)I"⟩ prog_1_method_19_code 2 (some .int)) ∈ TB := tb_in (List.mem_of_getElem? (i := 267) (by decide +kernel)) (by decide +kernel)
theorem k_268 : (Cond.methodLink "TileScreen" 47 ⟨"TileScreen", "pixelOf", "(II)I"⟩) ∈ TB := tb_in (List.mem_of_getElem? (i := 268) (by decide +kernel)) (by decide +kernel)
theorem k_269 : (Cond.static ⟨"TileScreen", "pixelOf", "(II)I"⟩) ∈ TB := tb_in (List.mem_of_getElem? (i := 269) (by decide +kernel)) (by decide +kernel)
theorem k_270 : (Cond.code ⟨"TileScreen", "pixelOf", "(II)I"⟩ prog_1_method_20_code 2 (some .int)) ∈ TB := tb_in (List.mem_of_getElem? (i := 270) (by decide +kernel)) (by decide +kernel)
theorem k_271 : (Cond.methodLink "TileScreen" 50 ⟨"TileScreen$Tiles", "set", "(III)V"⟩) ∈ TB := tb_in (List.mem_of_getElem? (i := 271) (by decide +kernel)) (by decide +kernel)
theorem k_272 : (Cond.instanceMethod ⟨"TileScreen$Tiles", "set", "(III)V"⟩) ∈ TB := tb_in (List.mem_of_getElem? (i := 272) (by decide +kernel)) (by decide +kernel)
theorem k_273 : (Cond.selects "TileScreen$Tiles" ⟨"TileScreen$Tiles", "set", "(III)V"⟩ ⟨"TileScreen$Tiles", "set", "(III)V"⟩) ∈ TB := tb_in (List.mem_of_getElem? (i := 273) (by decide +kernel)) (by decide +kernel)
theorem k_274 : (Cond.code ⟨"TileScreen$Tiles", "set", "(III)V"⟩ prog_8_method_3_code 4 none) ∈ TB := tb_in (List.mem_of_getElem? (i := 274) (by decide +kernel)) (by decide +kernel)
theorem k_275 : (Cond.methodLink "TileScreenLaw" 26 ⟨"TileScreen", "blit", "(IIII)Z"⟩) ∈ TB := tb_in (List.mem_of_getElem? (i := 275) (by decide +kernel)) (by decide +kernel)
theorem k_276 : (Cond.instanceMethod ⟨"TileScreen", "blit", "(IIII)Z"⟩) ∈ TB := tb_in (List.mem_of_getElem? (i := 276) (by decide +kernel)) (by decide +kernel)
theorem k_277 : (Cond.selects "TileScreen" ⟨"TileScreen", "blit", "(IIII)Z"⟩ ⟨"TileScreen", "blit", "(IIII)Z"⟩) ∈ TB := tb_in (List.mem_of_getElem? (i := 277) (by decide +kernel)) (by decide +kernel)
theorem k_278 : (Cond.code ⟨"TileScreen", "blit", "(IIII)Z"⟩ prog_1_method_3_code 12 (some .boolean)) ∈ TB := tb_in (List.mem_of_getElem? (i := 278) (by decide +kernel)) (by decide +kernel)
theorem k_279 : (Cond.methodLink "TileScreen" 54 ⟨"TileScreen$Tiles", "takeAll", "(LTileScreen$Tiles;)V"⟩) ∈ TB := tb_in (List.mem_of_getElem? (i := 279) (by decide +kernel)) (by decide +kernel)
theorem k_280 : (Cond.instanceMethod ⟨"TileScreen$Tiles", "takeAll", "(LTileScreen$Tiles;)V"⟩) ∈ TB := tb_in (List.mem_of_getElem? (i := 280) (by decide +kernel)) (by decide +kernel)
theorem k_281 : (Cond.selects "TileScreen$Tiles" ⟨"TileScreen$Tiles", "takeAll", "(LTileScreen$Tiles;)V"⟩ ⟨"TileScreen$Tiles", "takeAll", "(LTileScreen$Tiles;)V"⟩) ∈ TB := tb_in (List.mem_of_getElem? (i := 281) (by decide +kernel)) (by decide +kernel)
theorem k_282 : (Cond.code ⟨"TileScreen$Tiles", "takeAll", "(LTileScreen$Tiles;)V"⟩ prog_8_method_5_code 2 none) ∈ TB := tb_in (List.mem_of_getElem? (i := 282) (by decide +kernel)) (by decide +kernel)
theorem k_283 : (Cond.methodLink "TileScreen$Tiles" 19 ⟨"java/lang/System", "arraycopy", "(Ljava/lang/Object;ILjava/lang/Object;II)V"⟩) ∈ TB := tb_in (List.mem_of_getElem? (i := 283) (by decide +kernel)) (by decide +kernel)
theorem k_284 : (Cond.static ⟨"java/lang/System", "arraycopy", "(Ljava/lang/Object;ILjava/lang/Object;II)V"⟩) ∈ TB := tb_in (List.mem_of_getElem? (i := 284) (by decide +kernel)) (by decide +kernel)
theorem k_285 : (Cond.native ⟨"java/lang/System", "arraycopy", "(Ljava/lang/Object;ILjava/lang/Object;II)V"⟩) ∈ TB := tb_in (List.mem_of_getElem? (i := 285) (by decide +kernel)) (by decide +kernel)
theorem k_286 : (Cond.methodLink "TileScreen" 58 ⟨"TileScreen", "pixelAt", "(LTileScreen$Tiles;II)I"⟩) ∈ TB := tb_in (List.mem_of_getElem? (i := 286) (by decide +kernel)) (by decide +kernel)
theorem k_287 : (Cond.static ⟨"TileScreen", "pixelAt", "(LTileScreen$Tiles;II)I"⟩) ∈ TB := tb_in (List.mem_of_getElem? (i := 287) (by decide +kernel)) (by decide +kernel)
theorem k_288 : (Cond.code ⟨"TileScreen", "pixelAt", "(LTileScreen$Tiles;II)I"⟩ prog_1_method_21_code 3 (some .int)) ∈ TB := tb_in (List.mem_of_getElem? (i := 288) (by decide +kernel)) (by decide +kernel)
theorem k_289 : (Cond.methodLink "TileScreen" 177 ⟨"TileScreen$Tiles", "get", "(II)I"⟩) ∈ TB := tb_in (List.mem_of_getElem? (i := 289) (by decide +kernel)) (by decide +kernel)
theorem k_290 : (Cond.instanceMethod ⟨"TileScreen$Tiles", "get", "(II)I"⟩) ∈ TB := tb_in (List.mem_of_getElem? (i := 290) (by decide +kernel)) (by decide +kernel)
theorem k_291 : (Cond.selects "TileScreen$Tiles" ⟨"TileScreen$Tiles", "get", "(II)I"⟩ ⟨"TileScreen$Tiles", "get", "(II)I"⟩) ∈ TB := tb_in (List.mem_of_getElem? (i := 291) (by decide +kernel)) (by decide +kernel)
theorem k_292 : (Cond.code ⟨"TileScreen$Tiles", "get", "(II)I"⟩ prog_8_method_2_code 3 (some .int)) ∈ TB := tb_in (List.mem_of_getElem? (i := 292) (by decide +kernel)) (by decide +kernel)
theorem k_293 : (Cond.methodLink "TileScreenLaw" 31 ⟨"TileScreen", "shade", "(IIII)Z"⟩) ∈ TB := tb_in (List.mem_of_getElem? (i := 293) (by decide +kernel)) (by decide +kernel)
theorem k_294 : (Cond.instanceMethod ⟨"TileScreen", "shade", "(IIII)Z"⟩) ∈ TB := tb_in (List.mem_of_getElem? (i := 294) (by decide +kernel)) (by decide +kernel)
theorem k_295 : (Cond.selects "TileScreen" ⟨"TileScreen", "shade", "(IIII)Z"⟩ ⟨"TileScreen", "shade", "(IIII)Z"⟩) ∈ TB := tb_in (List.mem_of_getElem? (i := 295) (by decide +kernel)) (by decide +kernel)
theorem k_296 : (Cond.code ⟨"TileScreen", "shade", "(IIII)Z"⟩ prog_1_method_4_code 6 (some .boolean)) ∈ TB := tb_in (List.mem_of_getElem? (i := 296) (by decide +kernel)) (by decide +kernel)
theorem k_297 : (Cond.constant "TileScreen" 62 65535) ∈ TB := tb_in (List.mem_of_getElem? (i := 297) (by decide +kernel)) (by decide +kernel)
theorem k_298 : (Cond.methodLink "TileScreenLaw" 35 ⟨"TileScreen", "frame", "()I"⟩) ∈ TB := tb_in (List.mem_of_getElem? (i := 298) (by decide +kernel)) (by decide +kernel)
theorem k_299 : (Cond.instanceMethod ⟨"TileScreen", "frame", "()I"⟩) ∈ TB := tb_in (List.mem_of_getElem? (i := 299) (by decide +kernel)) (by decide +kernel)
theorem k_300 : (Cond.selects "TileScreen" ⟨"TileScreen", "frame", "()I"⟩ ⟨"TileScreen", "frame", "()I"⟩) ∈ TB := tb_in (List.mem_of_getElem? (i := 300) (by decide +kernel)) (by decide +kernel)
theorem k_301 : (Cond.code ⟨"TileScreen", "frame", "()I"⟩ prog_1_method_5_code 1 (some .int)) ∈ TB := tb_in (List.mem_of_getElem? (i := 301) (by decide +kernel)) (by decide +kernel)
theorem k_302 : (Cond.methodLink "TileScreenLaw" 40 ⟨"TileScreen", "join", "(I)Z"⟩) ∈ TB := tb_in (List.mem_of_getElem? (i := 302) (by decide +kernel)) (by decide +kernel)
theorem k_303 : (Cond.instanceMethod ⟨"TileScreen", "join", "(I)Z"⟩) ∈ TB := tb_in (List.mem_of_getElem? (i := 303) (by decide +kernel)) (by decide +kernel)
theorem k_304 : (Cond.selects "TileScreen" ⟨"TileScreen", "join", "(I)Z"⟩ ⟨"TileScreen", "join", "(I)Z"⟩) ∈ TB := tb_in (List.mem_of_getElem? (i := 304) (by decide +kernel)) (by decide +kernel)
theorem k_305 : (Cond.code ⟨"TileScreen", "join", "(I)Z"⟩ prog_1_method_6_code 2 (some .boolean)) ∈ TB := tb_in (List.mem_of_getElem? (i := 305) (by decide +kernel)) (by decide +kernel)
theorem k_306 : (Cond.methodLink "TileScreen" 63 ⟨"TileScreen", "isViewer", "(I)Z"⟩) ∈ TB := tb_in (List.mem_of_getElem? (i := 306) (by decide +kernel)) (by decide +kernel)
theorem k_307 : (Cond.static ⟨"TileScreen", "isViewer", "(I)Z"⟩) ∈ TB := tb_in (List.mem_of_getElem? (i := 307) (by decide +kernel)) (by decide +kernel)
theorem k_308 : (Cond.code ⟨"TileScreen", "isViewer", "(I)Z"⟩ prog_1_method_16_code 1 (some .boolean)) ∈ TB := tb_in (List.mem_of_getElem? (i := 308) (by decide +kernel)) (by decide +kernel)
theorem k_309 : (Cond.methodLink "TileScreen" 70 ⟨"TileScreen$Viewer", "connect", "()V"⟩) ∈ TB := tb_in (List.mem_of_getElem? (i := 309) (by decide +kernel)) (by decide +kernel)
theorem k_310 : (Cond.instanceMethod ⟨"TileScreen$Viewer", "connect", "()V"⟩) ∈ TB := tb_in (List.mem_of_getElem? (i := 310) (by decide +kernel)) (by decide +kernel)
theorem k_311 : (Cond.selects "TileScreen$Viewer" ⟨"TileScreen$Viewer", "connect", "()V"⟩ ⟨"TileScreen$Viewer", "connect", "()V"⟩) ∈ TB := tb_in (List.mem_of_getElem? (i := 311) (by decide +kernel)) (by decide +kernel)
theorem k_312 : (Cond.code ⟨"TileScreen$Viewer", "connect", "()V"⟩ prog_9_method_2_code 1 none) ∈ TB := tb_in (List.mem_of_getElem? (i := 312) (by decide +kernel)) (by decide +kernel)
theorem k_313 : (Cond.methodLink "TileScreen$Viewer" 45 ⟨"TileScreen$Tiles", "takeAll", "(LTileScreen$Tiles;)V"⟩) ∈ TB := tb_in (List.mem_of_getElem? (i := 313) (by decide +kernel)) (by decide +kernel)
theorem k_314 : (Cond.methodLink "TileScreen$Viewer" 61 ⟨"TileScreen$Cache", "clear", "()V"⟩) ∈ TB := tb_in (List.mem_of_getElem? (i := 314) (by decide +kernel)) (by decide +kernel)
theorem k_315 : (Cond.instanceMethod ⟨"TileScreen$Cache", "clear", "()V"⟩) ∈ TB := tb_in (List.mem_of_getElem? (i := 315) (by decide +kernel)) (by decide +kernel)
theorem k_316 : (Cond.selects "TileScreen$Cache" ⟨"TileScreen$Cache", "clear", "()V"⟩ ⟨"TileScreen$Cache", "clear", "()V"⟩) ∈ TB := tb_in (List.mem_of_getElem? (i := 316) (by decide +kernel)) (by decide +kernel)
theorem k_317 : (Cond.code ⟨"TileScreen$Cache", "clear", "()V"⟩ prog_2_method_2_code 1 none) ∈ TB := tb_in (List.mem_of_getElem? (i := 317) (by decide +kernel)) (by decide +kernel)
theorem k_318 : (Cond.methodLink "TileScreenLaw" 45 ⟨"TileScreen", "cut", "(I)Z"⟩) ∈ TB := tb_in (List.mem_of_getElem? (i := 318) (by decide +kernel)) (by decide +kernel)
theorem k_319 : (Cond.instanceMethod ⟨"TileScreen", "cut", "(I)Z"⟩) ∈ TB := tb_in (List.mem_of_getElem? (i := 319) (by decide +kernel)) (by decide +kernel)
theorem k_320 : (Cond.selects "TileScreen" ⟨"TileScreen", "cut", "(I)Z"⟩ ⟨"TileScreen", "cut", "(I)Z"⟩) ∈ TB := tb_in (List.mem_of_getElem? (i := 320) (by decide +kernel)) (by decide +kernel)
theorem k_321 : (Cond.code ⟨"TileScreen", "cut", "(I)Z"⟩ prog_1_method_7_code 2 (some .boolean)) ∈ TB := tb_in (List.mem_of_getElem? (i := 321) (by decide +kernel)) (by decide +kernel)
theorem k_322 : (Cond.methodLink "TileScreen" 73 ⟨"TileScreen$Viewer", "disconnect", "()V"⟩) ∈ TB := tb_in (List.mem_of_getElem? (i := 322) (by decide +kernel)) (by decide +kernel)
theorem k_323 : (Cond.instanceMethod ⟨"TileScreen$Viewer", "disconnect", "()V"⟩) ∈ TB := tb_in (List.mem_of_getElem? (i := 323) (by decide +kernel)) (by decide +kernel)
theorem k_324 : (Cond.selects "TileScreen$Viewer" ⟨"TileScreen$Viewer", "disconnect", "()V"⟩ ⟨"TileScreen$Viewer", "disconnect", "()V"⟩) ∈ TB := tb_in (List.mem_of_getElem? (i := 324) (by decide +kernel)) (by decide +kernel)
theorem k_325 : (Cond.code ⟨"TileScreen$Viewer", "disconnect", "()V"⟩ prog_9_method_3_code 1 none) ∈ TB := tb_in (List.mem_of_getElem? (i := 325) (by decide +kernel)) (by decide +kernel)
theorem k_326 : (Cond.methodLink "TileScreen$Viewer" 74 ⟨"TileScreen$Line", "clear", "()V"⟩) ∈ TB := tb_in (List.mem_of_getElem? (i := 326) (by decide +kernel)) (by decide +kernel)
theorem k_327 : (Cond.instanceMethod ⟨"TileScreen$Line", "clear", "()V"⟩) ∈ TB := tb_in (List.mem_of_getElem? (i := 327) (by decide +kernel)) (by decide +kernel)
theorem k_328 : (Cond.selects "TileScreen$Line" ⟨"TileScreen$Line", "clear", "()V"⟩ ⟨"TileScreen$Line", "clear", "()V"⟩) ∈ TB := tb_in (List.mem_of_getElem? (i := 328) (by decide +kernel)) (by decide +kernel)
theorem k_329 : (Cond.code ⟨"TileScreen$Line", "clear", "()V"⟩ prog_5_method_2_code 1 none) ∈ TB := tb_in (List.mem_of_getElem? (i := 329) (by decide +kernel)) (by decide +kernel)
theorem k_330 : (Cond.methodLink "TileScreen$Viewer" 77 ⟨"TileScreen$Display", "forget", "()V"⟩) ∈ TB := tb_in (List.mem_of_getElem? (i := 330) (by decide +kernel)) (by decide +kernel)
theorem k_331 : (Cond.instanceMethod ⟨"TileScreen$Display", "forget", "()V"⟩) ∈ TB := tb_in (List.mem_of_getElem? (i := 331) (by decide +kernel)) (by decide +kernel)
theorem k_332 : (Cond.selects "TileScreen$Display" ⟨"TileScreen$Display", "forget", "()V"⟩ ⟨"TileScreen$Display", "forget", "()V"⟩) ∈ TB := tb_in (List.mem_of_getElem? (i := 332) (by decide +kernel)) (by decide +kernel)
theorem k_333 : (Cond.code ⟨"TileScreen$Display", "forget", "()V"⟩ prog_3_method_2_code 1 none) ∈ TB := tb_in (List.mem_of_getElem? (i := 333) (by decide +kernel)) (by decide +kernel)
theorem k_334 : (Cond.methodLink "TileScreen$Display" 41 ⟨"TileScreen$Cache", "clear", "()V"⟩) ∈ TB := tb_in (List.mem_of_getElem? (i := 334) (by decide +kernel)) (by decide +kernel)
theorem k_335 : (Cond.methodLink "TileScreenLaw" 58 ⟨"TileScreen", "pump", "(I)I"⟩) ∈ TB := tb_in (List.mem_of_getElem? (i := 335) (by decide +kernel)) (by decide +kernel)
theorem k_336 : (Cond.instanceMethod ⟨"TileScreen", "pump", "(I)I"⟩) ∈ TB := tb_in (List.mem_of_getElem? (i := 336) (by decide +kernel)) (by decide +kernel)
theorem k_337 : (Cond.selects "TileScreen" ⟨"TileScreen", "pump", "(I)I"⟩ ⟨"TileScreen", "pump", "(I)I"⟩) ∈ TB := tb_in (List.mem_of_getElem? (i := 337) (by decide +kernel)) (by decide +kernel)
theorem k_338 : (Cond.code ⟨"TileScreen", "pump", "(I)I"⟩ prog_1_method_9_code 6 (some .int)) ∈ TB := tb_in (List.mem_of_getElem? (i := 338) (by decide +kernel)) (by decide +kernel)
theorem k_339 : (Cond.methodLink "TileScreen" 110 ⟨"TileScreen$Feed", "compose", "(LTileScreen$Tiles;I)V"⟩) ∈ TB := tb_in (List.mem_of_getElem? (i := 339) (by decide +kernel)) (by decide +kernel)
theorem k_340 : (Cond.instanceMethod ⟨"TileScreen$Feed", "compose", "(LTileScreen$Tiles;I)V"⟩) ∈ TB := tb_in (List.mem_of_getElem? (i := 340) (by decide +kernel)) (by decide +kernel)
theorem k_341 : (Cond.selects "TileScreen$Feed" ⟨"TileScreen$Feed", "compose", "(LTileScreen$Tiles;I)V"⟩ ⟨"TileScreen$Feed", "compose", "(LTileScreen$Tiles;I)V"⟩) ∈ TB := tb_in (List.mem_of_getElem? (i := 341) (by decide +kernel)) (by decide +kernel)
theorem k_342 : (Cond.code ⟨"TileScreen$Feed", "compose", "(LTileScreen$Tiles;I)V"⟩ prog_4_method_2_code 4 none) ∈ TB := tb_in (List.mem_of_getElem? (i := 342) (by decide +kernel)) (by decide +kernel)
theorem k_343 : (Cond.methodLink "TileScreen$Feed" 45 ⟨"TileScreen$Line", "clear", "()V"⟩) ∈ TB := tb_in (List.mem_of_getElem? (i := 343) (by decide +kernel)) (by decide +kernel)
theorem k_344 : (Cond.methodLink "TileScreen$Feed" 48 ⟨"TileScreen$Line", "add", "(I)V"⟩) ∈ TB := tb_in (List.mem_of_getElem? (i := 344) (by decide +kernel)) (by decide +kernel)
theorem k_345 : (Cond.instanceMethod ⟨"TileScreen$Line", "add", "(I)V"⟩) ∈ TB := tb_in (List.mem_of_getElem? (i := 345) (by decide +kernel)) (by decide +kernel)
theorem k_346 : (Cond.selects "TileScreen$Line" ⟨"TileScreen$Line", "add", "(I)V"⟩ ⟨"TileScreen$Line", "add", "(I)V"⟩) ∈ TB := tb_in (List.mem_of_getElem? (i := 346) (by decide +kernel)) (by decide +kernel)
theorem k_347 : (Cond.code ⟨"TileScreen$Line", "add", "(I)V"⟩ prog_5_method_3_code 2 none) ∈ TB := tb_in (List.mem_of_getElem? (i := 347) (by decide +kernel)) (by decide +kernel)
theorem k_348 : (Cond.methodLink "TileScreen$Feed" 51 ⟨"TileScreen$Line", "addPair", "(I)V"⟩) ∈ TB := tb_in (List.mem_of_getElem? (i := 348) (by decide +kernel)) (by decide +kernel)
theorem k_349 : (Cond.instanceMethod ⟨"TileScreen$Line", "addPair", "(I)V"⟩) ∈ TB := tb_in (List.mem_of_getElem? (i := 349) (by decide +kernel)) (by decide +kernel)
theorem k_350 : (Cond.selects "TileScreen$Line" ⟨"TileScreen$Line", "addPair", "(I)V"⟩ ⟨"TileScreen$Line", "addPair", "(I)V"⟩) ∈ TB := tb_in (List.mem_of_getElem? (i := 350) (by decide +kernel)) (by decide +kernel)
theorem k_351 : (Cond.code ⟨"TileScreen$Line", "addPair", "(I)V"⟩ prog_5_method_4_code 2 none) ∈ TB := tb_in (List.mem_of_getElem? (i := 351) (by decide +kernel)) (by decide +kernel)
theorem k_352 : (Cond.methodLink "TileScreen$Line" 22 ⟨"TileScreen$Line", "add", "(I)V"⟩) ∈ TB := tb_in (List.mem_of_getElem? (i := 352) (by decide +kernel)) (by decide +kernel)
theorem k_353 : (Cond.methodLink "TileScreen$Feed" 54 ⟨"TileScreen$Tiles", "isSame", "(ILTileScreen$Tiles;I)Z"⟩) ∈ TB := tb_in (List.mem_of_getElem? (i := 353) (by decide +kernel)) (by decide +kernel)
theorem k_354 : (Cond.instanceMethod ⟨"TileScreen$Tiles", "isSame", "(ILTileScreen$Tiles;I)Z"⟩) ∈ TB := tb_in (List.mem_of_getElem? (i := 354) (by decide +kernel)) (by decide +kernel)
theorem k_355 : (Cond.selects "TileScreen$Tiles" ⟨"TileScreen$Tiles", "isSame", "(ILTileScreen$Tiles;I)Z"⟩ ⟨"TileScreen$Tiles", "isSame", "(ILTileScreen$Tiles;I)Z"⟩) ∈ TB := tb_in (List.mem_of_getElem? (i := 355) (by decide +kernel)) (by decide +kernel)
theorem k_356 : (Cond.code ⟨"TileScreen$Tiles", "isSame", "(ILTileScreen$Tiles;I)Z"⟩ prog_8_method_6_code 7 (some .boolean)) ∈ TB := tb_in (List.mem_of_getElem? (i := 356) (by decide +kernel)) (by decide +kernel)
theorem k_357 : (Cond.methodLink "TileScreen$Feed" 58 ⟨"TileScreen$Feed", "addRecord", "(LTileScreen$Tiles;I)V"⟩) ∈ TB := tb_in (List.mem_of_getElem? (i := 357) (by decide +kernel)) (by decide +kernel)
theorem k_359 : (Cond.instanceMethod ⟨"TileScreen$Feed", "addRecord", "(LTileScreen$Tiles;I)V"⟩) ∈ TB := tb_in (List.mem_of_getElem? (i := 359) (by decide +kernel)) (by decide +kernel)
theorem k_360 : (Cond.code ⟨"TileScreen$Feed", "addRecord", "(LTileScreen$Tiles;I)V"⟩ prog_4_method_3_code 5 none) ∈ TB := tb_in (List.mem_of_getElem? (i := 360) (by decide +kernel)) (by decide +kernel)
theorem k_361 : (Cond.methodLink "TileScreen$Feed" 84 ⟨"TileScreen$Look", "study", "(LTileScreen$Tiles;I)V"⟩) ∈ TB := tb_in (List.mem_of_getElem? (i := 361) (by decide +kernel)) (by decide +kernel)
theorem k_362 : (Cond.instanceMethod ⟨"TileScreen$Look", "study", "(LTileScreen$Tiles;I)V"⟩) ∈ TB := tb_in (List.mem_of_getElem? (i := 362) (by decide +kernel)) (by decide +kernel)
theorem k_363 : (Cond.selects "TileScreen$Look" ⟨"TileScreen$Look", "study", "(LTileScreen$Tiles;I)V"⟩ ⟨"TileScreen$Look", "study", "(LTileScreen$Tiles;I)V"⟩) ∈ TB := tb_in (List.mem_of_getElem? (i := 363) (by decide +kernel)) (by decide +kernel)
theorem k_364 : (Cond.code ⟨"TileScreen$Look", "study", "(LTileScreen$Tiles;I)V"⟩ prog_6_method_2_code 6 none) ∈ TB := tb_in (List.mem_of_getElem? (i := 364) (by decide +kernel)) (by decide +kernel)
theorem k_365 : (Cond.methodLink "TileScreen$Look" 22 ⟨"TileScreen$Tiles", "get", "(II)I"⟩) ∈ TB := tb_in (List.mem_of_getElem? (i := 365) (by decide +kernel)) (by decide +kernel)
theorem k_366 : (Cond.methodLink "TileScreen$Look" 28 ⟨"TileScreen$Look", "meet", "(I)V"⟩) ∈ TB := tb_in (List.mem_of_getElem? (i := 366) (by decide +kernel)) (by decide +kernel)
theorem k_368 : (Cond.instanceMethod ⟨"TileScreen$Look", "meet", "(I)V"⟩) ∈ TB := tb_in (List.mem_of_getElem? (i := 368) (by decide +kernel)) (by decide +kernel)
theorem k_369 : (Cond.code ⟨"TileScreen$Look", "meet", "(I)V"⟩ prog_6_method_3_code 2 none) ∈ TB := tb_in (List.mem_of_getElem? (i := 369) (by decide +kernel)) (by decide +kernel)
theorem k_370 : (Cond.methodLink "TileScreen$Look" 32 ⟨"TileScreen$Look", "indexOf", "(I)I"⟩) ∈ TB := tb_in (List.mem_of_getElem? (i := 370) (by decide +kernel)) (by decide +kernel)
theorem k_371 : (Cond.instanceMethod ⟨"TileScreen$Look", "indexOf", "(I)I"⟩) ∈ TB := tb_in (List.mem_of_getElem? (i := 371) (by decide +kernel)) (by decide +kernel)
theorem k_372 : (Cond.selects "TileScreen$Look" ⟨"TileScreen$Look", "indexOf", "(I)I"⟩ ⟨"TileScreen$Look", "indexOf", "(I)I"⟩) ∈ TB := tb_in (List.mem_of_getElem? (i := 372) (by decide +kernel)) (by decide +kernel)
theorem k_373 : (Cond.code ⟨"TileScreen$Look", "indexOf", "(I)I"⟩ prog_6_method_4_code 3 (some .int)) ∈ TB := tb_in (List.mem_of_getElem? (i := 373) (by decide +kernel)) (by decide +kernel)
theorem k_374 : (Cond.methodLink "TileScreen$Feed" 87 ⟨"TileScreen$Tiles", "find", "(ILTileScreen$Tiles;I)I"⟩) ∈ TB := tb_in (List.mem_of_getElem? (i := 374) (by decide +kernel)) (by decide +kernel)
theorem k_375 : (Cond.instanceMethod ⟨"TileScreen$Tiles", "find", "(ILTileScreen$Tiles;I)I"⟩) ∈ TB := tb_in (List.mem_of_getElem? (i := 375) (by decide +kernel)) (by decide +kernel)
theorem k_376 : (Cond.selects "TileScreen$Tiles" ⟨"TileScreen$Tiles", "find", "(ILTileScreen$Tiles;I)I"⟩ ⟨"TileScreen$Tiles", "find", "(ILTileScreen$Tiles;I)I"⟩) ∈ TB := tb_in (List.mem_of_getElem? (i := 376) (by decide +kernel)) (by decide +kernel)
theorem k_377 : (Cond.code ⟨"TileScreen$Tiles", "find", "(ILTileScreen$Tiles;I)I"⟩ prog_8_method_7_code 5 (some .int)) ∈ TB := tb_in (List.mem_of_getElem? (i := 377) (by decide +kernel)) (by decide +kernel)
theorem k_378 : (Cond.methodLink "TileScreen$Tiles" 25 ⟨"TileScreen$Tiles", "isSame", "(ILTileScreen$Tiles;I)Z"⟩) ∈ TB := tb_in (List.mem_of_getElem? (i := 378) (by decide +kernel)) (by decide +kernel)
theorem k_379 : (Cond.methodLink "TileScreen$Feed" 103 ⟨"TileScreen$Feed", "chooseKind", "()I"⟩) ∈ TB := tb_in (List.mem_of_getElem? (i := 379) (by decide +kernel)) (by decide +kernel)
theorem k_381 : (Cond.instanceMethod ⟨"TileScreen$Feed", "chooseKind", "()I"⟩) ∈ TB := tb_in (List.mem_of_getElem? (i := 381) (by decide +kernel)) (by decide +kernel)
theorem k_382 : (Cond.code ⟨"TileScreen$Feed", "chooseKind", "()I"⟩ prog_4_method_4_code 3 (some .int)) ∈ TB := tb_in (List.mem_of_getElem? (i := 382) (by decide +kernel)) (by decide +kernel)
theorem k_383 : (Cond.methodLink "TileScreen$Feed" 114 ⟨"TileScreen$Feed", "isFit", "(I)Z"⟩) ∈ TB := tb_in (List.mem_of_getElem? (i := 383) (by decide +kernel)) (by decide +kernel)
theorem k_385 : (Cond.instanceMethod ⟨"TileScreen$Feed", "isFit", "(I)Z"⟩) ∈ TB := tb_in (List.mem_of_getElem? (i := 385) (by decide +kernel)) (by decide +kernel)
theorem k_386 : (Cond.code ⟨"TileScreen$Feed", "isFit", "(I)Z"⟩ prog_4_method_5_code 2 (some .boolean)) ∈ TB := tb_in (List.mem_of_getElem? (i := 386) (by decide +kernel)) (by decide +kernel)
theorem k_387 : (Cond.methodLink "TileScreen$Feed" 118 ⟨"TileScreen$Feed", "lengthOf", "(I)I"⟩) ∈ TB := tb_in (List.mem_of_getElem? (i := 387) (by decide +kernel)) (by decide +kernel)
theorem k_389 : (Cond.instanceMethod ⟨"TileScreen$Feed", "lengthOf", "(I)I"⟩) ∈ TB := tb_in (List.mem_of_getElem? (i := 389) (by decide +kernel)) (by decide +kernel)
theorem k_390 : (Cond.code ⟨"TileScreen$Feed", "lengthOf", "(I)I"⟩ prog_4_method_6_code 2 (some .int)) ∈ TB := tb_in (List.mem_of_getElem? (i := 390) (by decide +kernel)) (by decide +kernel)
theorem k_391 : (Cond.methodLink "TileScreen$Feed" 107 ⟨"TileScreen$Feed", "addContent", "(ILTileScreen$Tiles;I)V"⟩) ∈ TB := tb_in (List.mem_of_getElem? (i := 391) (by decide +kernel)) (by decide +kernel)
theorem k_393 : (Cond.instanceMethod ⟨"TileScreen$Feed", "addContent", "(ILTileScreen$Tiles;I)V"⟩) ∈ TB := tb_in (List.mem_of_getElem? (i := 393) (by decide +kernel)) (by decide +kernel)
theorem k_394 : (Cond.code ⟨"TileScreen$Feed", "addContent", "(ILTileScreen$Tiles;I)V"⟩ prog_4_method_7_code 4 none) ∈ TB := tb_in (List.mem_of_getElem? (i := 394) (by decide +kernel)) (by decide +kernel)
theorem k_395 : (Cond.methodLink "TileScreen$Feed" 131 ⟨"TileScreen$Feed", "addPalette", "()V"⟩) ∈ TB := tb_in (List.mem_of_getElem? (i := 395) (by decide +kernel)) (by decide +kernel)
theorem k_397 : (Cond.instanceMethod ⟨"TileScreen$Feed", "addPalette", "()V"⟩) ∈ TB := tb_in (List.mem_of_getElem? (i := 397) (by decide +kernel)) (by decide +kernel)
theorem k_398 : (Cond.code ⟨"TileScreen$Feed", "addPalette", "()V"⟩ prog_4_method_8_code 2 none) ∈ TB := tb_in (List.mem_of_getElem? (i := 398) (by decide +kernel)) (by decide +kernel)
theorem k_399 : (Cond.methodLink "TileScreen$Feed" 134 ⟨"TileScreen$Feed", "addBits", "(LTileScreen$Tiles;II)V"⟩) ∈ TB := tb_in (List.mem_of_getElem? (i := 399) (by decide +kernel)) (by decide +kernel)
theorem k_401 : (Cond.instanceMethod ⟨"TileScreen$Feed", "addBits", "(LTileScreen$Tiles;II)V"⟩) ∈ TB := tb_in (List.mem_of_getElem? (i := 401) (by decide +kernel)) (by decide +kernel)
theorem k_402 : (Cond.code ⟨"TileScreen$Feed", "addBits", "(LTileScreen$Tiles;II)V"⟩ prog_4_method_9_code 7 none) ∈ TB := tb_in (List.mem_of_getElem? (i := 402) (by decide +kernel)) (by decide +kernel)
theorem k_403 : (Cond.methodLink "TileScreen$Feed" 144 ⟨"TileScreen$Tiles", "get", "(II)I"⟩) ∈ TB := tb_in (List.mem_of_getElem? (i := 403) (by decide +kernel)) (by decide +kernel)
theorem k_404 : (Cond.methodLink "TileScreen$Feed" 148 ⟨"TileScreen$Look", "indexOf", "(I)I"⟩) ∈ TB := tb_in (List.mem_of_getElem? (i := 404) (by decide +kernel)) (by decide +kernel)
theorem k_405 : (Cond.methodLink "TileScreen$Feed" 138 ⟨"TileScreen$Feed", "addRuns", "(LTileScreen$Tiles;I)V"⟩) ∈ TB := tb_in (List.mem_of_getElem? (i := 405) (by decide +kernel)) (by decide +kernel)
theorem k_407 : (Cond.instanceMethod ⟨"TileScreen$Feed", "addRuns", "(LTileScreen$Tiles;I)V"⟩) ∈ TB := tb_in (List.mem_of_getElem? (i := 407) (by decide +kernel)) (by decide +kernel)
theorem k_408 : (Cond.code ⟨"TileScreen$Feed", "addRuns", "(LTileScreen$Tiles;I)V"⟩ prog_4_method_10_code 6 none) ∈ TB := tb_in (List.mem_of_getElem? (i := 408) (by decide +kernel)) (by decide +kernel)
theorem k_409 : (Cond.methodLink "TileScreen$Feed" 141 ⟨"TileScreen$Feed", "addRaw", "(LTileScreen$Tiles;I)V"⟩) ∈ TB := tb_in (List.mem_of_getElem? (i := 409) (by decide +kernel)) (by decide +kernel)
theorem k_411 : (Cond.instanceMethod ⟨"TileScreen$Feed", "addRaw", "(LTileScreen$Tiles;I)V"⟩) ∈ TB := tb_in (List.mem_of_getElem? (i := 411) (by decide +kernel)) (by decide +kernel)
theorem k_412 : (Cond.code ⟨"TileScreen$Feed", "addRaw", "(LTileScreen$Tiles;I)V"⟩ prog_4_method_11_code 4 none) ∈ TB := tb_in (List.mem_of_getElem? (i := 412) (by decide +kernel)) (by decide +kernel)
theorem k_413 : (Cond.methodLink "TileScreen$Feed" 111 ⟨"TileScreen$Cache", "put", "(LTileScreen$Tiles;I)V"⟩) ∈ TB := tb_in (List.mem_of_getElem? (i := 413) (by decide +kernel)) (by decide +kernel)
theorem k_414 : (Cond.instanceMethod ⟨"TileScreen$Cache", "put", "(LTileScreen$Tiles;I)V"⟩) ∈ TB := tb_in (List.mem_of_getElem? (i := 414) (by decide +kernel)) (by decide +kernel)
theorem k_415 : (Cond.selects "TileScreen$Cache" ⟨"TileScreen$Cache", "put", "(LTileScreen$Tiles;I)V"⟩ ⟨"TileScreen$Cache", "put", "(LTileScreen$Tiles;I)V"⟩) ∈ TB := tb_in (List.mem_of_getElem? (i := 415) (by decide +kernel)) (by decide +kernel)
theorem k_416 : (Cond.code ⟨"TileScreen$Cache", "put", "(LTileScreen$Tiles;I)V"⟩ prog_2_method_3_code 3 none) ∈ TB := tb_in (List.mem_of_getElem? (i := 416) (by decide +kernel)) (by decide +kernel)
theorem k_417 : (Cond.methodLink "TileScreen$Cache" 27 ⟨"TileScreen$Tiles", "take", "(ILTileScreen$Tiles;I)V"⟩) ∈ TB := tb_in (List.mem_of_getElem? (i := 417) (by decide +kernel)) (by decide +kernel)
theorem k_418 : (Cond.instanceMethod ⟨"TileScreen$Tiles", "take", "(ILTileScreen$Tiles;I)V"⟩) ∈ TB := tb_in (List.mem_of_getElem? (i := 418) (by decide +kernel)) (by decide +kernel)
theorem k_419 : (Cond.selects "TileScreen$Tiles" ⟨"TileScreen$Tiles", "take", "(ILTileScreen$Tiles;I)V"⟩ ⟨"TileScreen$Tiles", "take", "(ILTileScreen$Tiles;I)V"⟩) ∈ TB := tb_in (List.mem_of_getElem? (i := 419) (by decide +kernel)) (by decide +kernel)
theorem k_420 : (Cond.code ⟨"TileScreen$Tiles", "take", "(ILTileScreen$Tiles;I)V"⟩ prog_8_method_4_code 4 none) ∈ TB := tb_in (List.mem_of_getElem? (i := 420) (by decide +kernel)) (by decide +kernel)
theorem k_421 : (Cond.methodLink "TileScreen$Cache" 31 ⟨"java/lang/Math", "max", "(II)I"⟩) ∈ TB := tb_in (List.mem_of_getElem? (i := 421) (by decide +kernel)) (by decide +kernel)
theorem k_422 : (Cond.static ⟨"java/lang/Math", "max", "(II)I"⟩) ∈ TB := tb_in (List.mem_of_getElem? (i := 422) (by decide +kernel)) (by decide +kernel)
theorem k_423 : (Cond.code ⟨"java/lang/Math", "max", "(II)I"⟩ prog_15_method_65_code 2 (some .int)) ∈ TB := tb_in (List.mem_of_getElem? (i := 423) (by decide +kernel)) (by decide +kernel)
theorem k_424 : (Cond.methodLinkNest "TileScreen$Feed" 69 ⟨"TileScreen", "sumOf", "([III)I"⟩ "TileScreen") ∈ NW := nw_in (List.mem_of_getElem? (i := 424) (by decide +kernel)) rfl
theorem k_425 : (Cond.static ⟨"TileScreen", "sumOf", "([III)I"⟩) ∈ TB := tb_in (List.mem_of_getElem? (i := 425) (by decide +kernel)) (by decide +kernel)
theorem k_426 : (Cond.code ⟨"TileScreen", "sumOf", "([III)I"⟩ prog_1_method_22_code 5 (some .int)) ∈ TB := tb_in (List.mem_of_getElem? (i := 426) (by decide +kernel)) (by decide +kernel)
theorem k_427 : (Cond.methodLink "TileScreen$Feed" 73 ⟨"TileScreen$Line", "set", "(II)V"⟩) ∈ TB := tb_in (List.mem_of_getElem? (i := 427) (by decide +kernel)) (by decide +kernel)
theorem k_428 : (Cond.instanceMethod ⟨"TileScreen$Line", "set", "(II)V"⟩) ∈ TB := tb_in (List.mem_of_getElem? (i := 428) (by decide +kernel)) (by decide +kernel)
theorem k_429 : (Cond.selects "TileScreen$Line" ⟨"TileScreen$Line", "set", "(II)V"⟩ ⟨"TileScreen$Line", "set", "(II)V"⟩) ∈ TB := tb_in (List.mem_of_getElem? (i := 429) (by decide +kernel)) (by decide +kernel)
theorem k_430 : (Cond.code ⟨"TileScreen$Line", "set", "(II)V"⟩ prog_5_method_5_code 3 none) ∈ TB := tb_in (List.mem_of_getElem? (i := 430) (by decide +kernel)) (by decide +kernel)
theorem k_431 : (Cond.methodLink "TileScreen$Feed" 77 ⟨"TileScreen$Tiles", "takeAll", "(LTileScreen$Tiles;)V"⟩) ∈ TB := tb_in (List.mem_of_getElem? (i := 431) (by decide +kernel)) (by decide +kernel)
theorem k_432 : (Cond.methodLink "TileScreen" 122 ⟨"TileScreen$Line", "removeFirst", "()I"⟩) ∈ TB := tb_in (List.mem_of_getElem? (i := 432) (by decide +kernel)) (by decide +kernel)
theorem k_433 : (Cond.instanceMethod ⟨"TileScreen$Line", "removeFirst", "()I"⟩) ∈ TB := tb_in (List.mem_of_getElem? (i := 433) (by decide +kernel)) (by decide +kernel)
theorem k_434 : (Cond.selects "TileScreen$Line" ⟨"TileScreen$Line", "removeFirst", "()I"⟩ ⟨"TileScreen$Line", "removeFirst", "()I"⟩) ∈ TB := tb_in (List.mem_of_getElem? (i := 434) (by decide +kernel)) (by decide +kernel)
theorem k_435 : (Cond.code ⟨"TileScreen$Line", "removeFirst", "()I"⟩ prog_5_method_7_code 2 (some .int)) ∈ TB := tb_in (List.mem_of_getElem? (i := 435) (by decide +kernel)) (by decide +kernel)
theorem k_436 : (Cond.methodLink "TileScreen" 126 ⟨"TileScreen$Poisons", "spoil", "(I)I"⟩) ∈ TB := tb_in (List.mem_of_getElem? (i := 436) (by decide +kernel)) (by decide +kernel)
theorem k_437 : (Cond.instanceMethod ⟨"TileScreen$Poisons", "spoil", "(I)I"⟩) ∈ TB := tb_in (List.mem_of_getElem? (i := 437) (by decide +kernel)) (by decide +kernel)
theorem k_438 : (Cond.selects "TileScreen$Poisons" ⟨"TileScreen$Poisons", "spoil", "(I)I"⟩ ⟨"TileScreen$Poisons", "spoil", "(I)I"⟩) ∈ TB := tb_in (List.mem_of_getElem? (i := 438) (by decide +kernel)) (by decide +kernel)
theorem k_439 : (Cond.code ⟨"TileScreen$Poisons", "spoil", "(I)I"⟩ prog_7_method_3_code 5 (some .int)) ∈ TB := tb_in (List.mem_of_getElem? (i := 439) (by decide +kernel)) (by decide +kernel)
theorem k_440 : (Cond.methodLink "TileScreen" 132 ⟨"TileScreen$Display", "receive", "(I)Z"⟩) ∈ TB := tb_in (List.mem_of_getElem? (i := 440) (by decide +kernel)) (by decide +kernel)
theorem k_441 : (Cond.instanceMethod ⟨"TileScreen$Display", "receive", "(I)Z"⟩) ∈ TB := tb_in (List.mem_of_getElem? (i := 441) (by decide +kernel)) (by decide +kernel)
theorem k_442 : (Cond.selects "TileScreen$Display" ⟨"TileScreen$Display", "receive", "(I)Z"⟩ ⟨"TileScreen$Display", "receive", "(I)Z"⟩) ∈ TB := tb_in (List.mem_of_getElem? (i := 442) (by decide +kernel)) (by decide +kernel)
theorem k_443 : (Cond.code ⟨"TileScreen$Display", "receive", "(I)Z"⟩ prog_3_method_3_code 3 (some .boolean)) ∈ TB := tb_in (List.mem_of_getElem? (i := 443) (by decide +kernel)) (by decide +kernel)
theorem k_444 : (Cond.methodLink "TileScreen$Display" 44 ⟨"TileScreen$Display", "readUpdate", "()Z"⟩) ∈ TB := tb_in (List.mem_of_getElem? (i := 444) (by decide +kernel)) (by decide +kernel)
theorem k_446 : (Cond.instanceMethod ⟨"TileScreen$Display", "readUpdate", "()Z"⟩) ∈ TB := tb_in (List.mem_of_getElem? (i := 446) (by decide +kernel)) (by decide +kernel)
theorem k_447 : (Cond.code ⟨"TileScreen$Display", "readUpdate", "()Z"⟩ prog_3_method_4_code 2 (some .boolean)) ∈ TB := tb_in (List.mem_of_getElem? (i := 447) (by decide +kernel)) (by decide +kernel)
theorem k_448 : (Cond.methodLinkNest "TileScreen$Display" 54 ⟨"TileScreen", "sumOf", "([III)I"⟩ "TileScreen") ∈ NW := nw_in (List.mem_of_getElem? (i := 448) (by decide +kernel)) rfl
theorem k_449 : (Cond.methodLink "TileScreen$Display" 58 ⟨"TileScreen$Display", "pairAt", "(I)I"⟩) ∈ TB := tb_in (List.mem_of_getElem? (i := 449) (by decide +kernel)) (by decide +kernel)
theorem k_451 : (Cond.instanceMethod ⟨"TileScreen$Display", "pairAt", "(I)I"⟩) ∈ TB := tb_in (List.mem_of_getElem? (i := 451) (by decide +kernel)) (by decide +kernel)
theorem k_452 : (Cond.code ⟨"TileScreen$Display", "pairAt", "(I)I"⟩ prog_3_method_6_code 2 (some .int)) ∈ TB := tb_in (List.mem_of_getElem? (i := 452) (by decide +kernel)) (by decide +kernel)
theorem k_453 : (Cond.methodLink "TileScreen$Display" 66 ⟨"TileScreen$Tiles", "takeAll", "(LTileScreen$Tiles;)V"⟩) ∈ TB := tb_in (List.mem_of_getElem? (i := 453) (by decide +kernel)) (by decide +kernel)
theorem k_454 : (Cond.methodLink "TileScreen$Display" 70 ⟨"TileScreen$Display", "readRecord", "()V"⟩) ∈ TB := tb_in (List.mem_of_getElem? (i := 454) (by decide +kernel)) (by decide +kernel)
theorem k_456 : (Cond.instanceMethod ⟨"TileScreen$Display", "readRecord", "()V"⟩) ∈ TB := tb_in (List.mem_of_getElem? (i := 456) (by decide +kernel)) (by decide +kernel)
theorem k_457 : (Cond.code ⟨"TileScreen$Display", "readRecord", "()V"⟩ prog_3_method_7_code 3 none) ∈ TB := tb_in (List.mem_of_getElem? (i := 457) (by decide +kernel)) (by decide +kernel)
theorem k_458 : (Cond.methodLink "TileScreen$Display" 86 ⟨"TileScreen$Display", "readByte", "()I"⟩) ∈ TB := tb_in (List.mem_of_getElem? (i := 458) (by decide +kernel)) (by decide +kernel)
theorem k_460 : (Cond.instanceMethod ⟨"TileScreen$Display", "readByte", "()I"⟩) ∈ TB := tb_in (List.mem_of_getElem? (i := 460) (by decide +kernel)) (by decide +kernel)
theorem k_461 : (Cond.code ⟨"TileScreen$Display", "readByte", "()I"⟩ prog_3_method_15_code 2 (some .int)) ∈ TB := tb_in (List.mem_of_getElem? (i := 461) (by decide +kernel)) (by decide +kernel)
theorem k_462 : (Cond.methodLink "TileScreen$Display" 90 ⟨"TileScreen$Display", "readColour", "()I"⟩) ∈ TB := tb_in (List.mem_of_getElem? (i := 462) (by decide +kernel)) (by decide +kernel)
theorem k_464 : (Cond.instanceMethod ⟨"TileScreen$Display", "readColour", "()I"⟩) ∈ TB := tb_in (List.mem_of_getElem? (i := 464) (by decide +kernel)) (by decide +kernel)
theorem k_465 : (Cond.code ⟨"TileScreen$Display", "readColour", "()I"⟩ prog_3_method_14_code 2 (some .int)) ∈ TB := tb_in (List.mem_of_getElem? (i := 465) (by decide +kernel)) (by decide +kernel)
theorem k_466 : (Cond.methodLink "TileScreen$Display" 93 ⟨"TileScreen$Display", "paint", "(IIII)V"⟩) ∈ TB := tb_in (List.mem_of_getElem? (i := 466) (by decide +kernel)) (by decide +kernel)
theorem k_468 : (Cond.instanceMethod ⟨"TileScreen$Display", "paint", "(IIII)V"⟩) ∈ TB := tb_in (List.mem_of_getElem? (i := 468) (by decide +kernel)) (by decide +kernel)
theorem k_469 : (Cond.code ⟨"TileScreen$Display", "paint", "(IIII)V"⟩ prog_3_method_13_code 6 none) ∈ TB := tb_in (List.mem_of_getElem? (i := 469) (by decide +kernel)) (by decide +kernel)
theorem k_470 : (Cond.methodLink "TileScreen$Display" 127 ⟨"TileScreen$Tiles", "set", "(III)V"⟩) ∈ TB := tb_in (List.mem_of_getElem? (i := 470) (by decide +kernel)) (by decide +kernel)
theorem k_471 : (Cond.methodLink "TileScreen$Display" 97 ⟨"TileScreen$Display", "readSource", "(ILTileScreen$Tiles;I)V"⟩) ∈ TB := tb_in (List.mem_of_getElem? (i := 471) (by decide +kernel)) (by decide +kernel)
theorem k_473 : (Cond.instanceMethod ⟨"TileScreen$Display", "readSource", "(ILTileScreen$Tiles;I)V"⟩) ∈ TB := tb_in (List.mem_of_getElem? (i := 473) (by decide +kernel)) (by decide +kernel)
theorem k_474 : (Cond.code ⟨"TileScreen$Display", "readSource", "(ILTileScreen$Tiles;I)V"⟩ prog_3_method_8_code 5 none) ∈ TB := tb_in (List.mem_of_getElem? (i := 474) (by decide +kernel)) (by decide +kernel)
theorem k_475 : (Cond.methodLink "TileScreen$Display" 124 ⟨"TileScreen$Tiles", "take", "(ILTileScreen$Tiles;I)V"⟩) ∈ TB := tb_in (List.mem_of_getElem? (i := 475) (by decide +kernel)) (by decide +kernel)
theorem k_476 : (Cond.methodLink "TileScreen$Display" 107 ⟨"TileScreen$Display", "readPixels", "(III)V"⟩) ∈ TB := tb_in (List.mem_of_getElem? (i := 476) (by decide +kernel)) (by decide +kernel)
theorem k_478 : (Cond.instanceMethod ⟨"TileScreen$Display", "readPixels", "(III)V"⟩) ∈ TB := tb_in (List.mem_of_getElem? (i := 478) (by decide +kernel)) (by decide +kernel)
theorem k_479 : (Cond.code ⟨"TileScreen$Display", "readPixels", "(III)V"⟩ prog_3_method_10_code 8 none) ∈ TB := tb_in (List.mem_of_getElem? (i := 479) (by decide +kernel)) (by decide +kernel)
theorem k_480 : (Cond.methodLink "TileScreen$Display" 111 ⟨"TileScreen$Display", "readColourCount", "()I"⟩) ∈ TB := tb_in (List.mem_of_getElem? (i := 480) (by decide +kernel)) (by decide +kernel)
theorem k_482 : (Cond.instanceMethod ⟨"TileScreen$Display", "readColourCount", "()I"⟩) ∈ TB := tb_in (List.mem_of_getElem? (i := 482) (by decide +kernel)) (by decide +kernel)
theorem k_483 : (Cond.code ⟨"TileScreen$Display", "readColourCount", "()I"⟩ prog_3_method_9_code 2 (some .int)) ∈ TB := tb_in (List.mem_of_getElem? (i := 483) (by decide +kernel)) (by decide +kernel)
theorem k_484 : (Cond.methodLink "TileScreen$Display" 114 ⟨"TileScreen$Display", "readRuns", "(I)V"⟩) ∈ TB := tb_in (List.mem_of_getElem? (i := 484) (by decide +kernel)) (by decide +kernel)
theorem k_486 : (Cond.instanceMethod ⟨"TileScreen$Display", "readRuns", "(I)V"⟩) ∈ TB := tb_in (List.mem_of_getElem? (i := 486) (by decide +kernel)) (by decide +kernel)
theorem k_487 : (Cond.code ⟨"TileScreen$Display", "readRuns", "(I)V"⟩ prog_3_method_11_code 7 none) ∈ TB := tb_in (List.mem_of_getElem? (i := 487) (by decide +kernel)) (by decide +kernel)
theorem k_488 : (Cond.methodLink "TileScreen$Display" 117 ⟨"TileScreen$Display", "readRaw", "(I)V"⟩) ∈ TB := tb_in (List.mem_of_getElem? (i := 488) (by decide +kernel)) (by decide +kernel)
theorem k_490 : (Cond.instanceMethod ⟨"TileScreen$Display", "readRaw", "(I)V"⟩) ∈ TB := tb_in (List.mem_of_getElem? (i := 490) (by decide +kernel)) (by decide +kernel)
theorem k_491 : (Cond.code ⟨"TileScreen$Display", "readRaw", "(I)V"⟩ prog_3_method_12_code 3 none) ∈ TB := tb_in (List.mem_of_getElem? (i := 491) (by decide +kernel)) (by decide +kernel)
theorem k_492 : (Cond.methodLink "TileScreen$Display" 120 ⟨"TileScreen$Cache", "put", "(LTileScreen$Tiles;I)V"⟩) ∈ TB := tb_in (List.mem_of_getElem? (i := 492) (by decide +kernel)) (by decide +kernel)
theorem k_493 : (Cond.methodLink "TileScreen$Display" 76 ⟨"TileScreen$Display", "numberAbove", "(II)I"⟩) ∈ TB := tb_in (List.mem_of_getElem? (i := 493) (by decide +kernel)) (by decide +kernel)
theorem k_494 : (Cond.static ⟨"TileScreen$Display", "numberAbove", "(II)I"⟩) ∈ TB := tb_in (List.mem_of_getElem? (i := 494) (by decide +kernel)) (by decide +kernel)
theorem k_495 : (Cond.code ⟨"TileScreen$Display", "numberAbove", "(II)I"⟩ prog_3_method_5_code 2 (some .int)) ∈ TB := tb_in (List.mem_of_getElem? (i := 495) (by decide +kernel)) (by decide +kernel)
theorem k_496 : (Cond.constant "TileScreen$Display" 80 65536) ∈ TB := tb_in (List.mem_of_getElem? (i := 496) (by decide +kernel)) (by decide +kernel)
theorem k_497 : (Cond.methodLink "TileScreen$Display" 81 ⟨"java/lang/Math", "floorMod", "(II)I"⟩) ∈ TB := tb_in (List.mem_of_getElem? (i := 497) (by decide +kernel)) (by decide +kernel)
theorem k_498 : (Cond.static ⟨"java/lang/Math", "floorMod", "(II)I"⟩) ∈ TB := tb_in (List.mem_of_getElem? (i := 498) (by decide +kernel)) (by decide +kernel)
theorem k_499 : (Cond.code ⟨"java/lang/Math", "floorMod", "(II)I"⟩ prog_15_method_50_code 3 (some .int)) ∈ TB := tb_in (List.mem_of_getElem? (i := 499) (by decide +kernel)) (by decide +kernel)
theorem k_500 : (Cond.methodLink "TileScreenLaw" 63 ⟨"TileScreen", "poison", "(III)Z"⟩) ∈ TB := tb_in (List.mem_of_getElem? (i := 500) (by decide +kernel)) (by decide +kernel)
theorem k_501 : (Cond.instanceMethod ⟨"TileScreen", "poison", "(III)Z"⟩) ∈ TB := tb_in (List.mem_of_getElem? (i := 501) (by decide +kernel)) (by decide +kernel)
theorem k_502 : (Cond.selects "TileScreen" ⟨"TileScreen", "poison", "(III)Z"⟩ ⟨"TileScreen", "poison", "(III)Z"⟩) ∈ TB := tb_in (List.mem_of_getElem? (i := 502) (by decide +kernel)) (by decide +kernel)
theorem k_503 : (Cond.code ⟨"TileScreen", "poison", "(III)Z"⟩ prog_1_method_10_code 4 (some .boolean)) ∈ TB := tb_in (List.mem_of_getElem? (i := 503) (by decide +kernel)) (by decide +kernel)
theorem k_504 : (Cond.methodLink "TileScreen" 137 ⟨"TileScreen$Poisons", "add", "(II)V"⟩) ∈ TB := tb_in (List.mem_of_getElem? (i := 504) (by decide +kernel)) (by decide +kernel)
theorem k_505 : (Cond.instanceMethod ⟨"TileScreen$Poisons", "add", "(II)V"⟩) ∈ TB := tb_in (List.mem_of_getElem? (i := 505) (by decide +kernel)) (by decide +kernel)
theorem k_506 : (Cond.selects "TileScreen$Poisons" ⟨"TileScreen$Poisons", "add", "(II)V"⟩ ⟨"TileScreen$Poisons", "add", "(II)V"⟩) ∈ TB := tb_in (List.mem_of_getElem? (i := 506) (by decide +kernel)) (by decide +kernel)
theorem k_507 : (Cond.code ⟨"TileScreen$Poisons", "add", "(II)V"⟩ prog_7_method_2_code 3 none) ∈ TB := tb_in (List.mem_of_getElem? (i := 507) (by decide +kernel)) (by decide +kernel)
theorem k_508 : (Cond.methodLink "TileScreenLaw" 68 ⟨"TileScreen", "shown", "(I)I"⟩) ∈ TB := tb_in (List.mem_of_getElem? (i := 508) (by decide +kernel)) (by decide +kernel)
theorem k_509 : (Cond.instanceMethod ⟨"TileScreen", "shown", "(I)I"⟩) ∈ TB := tb_in (List.mem_of_getElem? (i := 509) (by decide +kernel)) (by decide +kernel)
theorem k_510 : (Cond.selects "TileScreen" ⟨"TileScreen", "shown", "(I)I"⟩ ⟨"TileScreen", "shown", "(I)I"⟩) ∈ TB := tb_in (List.mem_of_getElem? (i := 510) (by decide +kernel)) (by decide +kernel)
theorem k_511 : (Cond.code ⟨"TileScreen", "shown", "(I)I"⟩ prog_1_method_11_code 2 (some .int)) ∈ TB := tb_in (List.mem_of_getElem? (i := 511) (by decide +kernel)) (by decide +kernel)
theorem k_512 : (Cond.methodLink "TileScreenLaw" 72 ⟨"TileScreen", "at", "(III)I"⟩) ∈ TB := tb_in (List.mem_of_getElem? (i := 512) (by decide +kernel)) (by decide +kernel)
theorem k_513 : (Cond.instanceMethod ⟨"TileScreen", "at", "(III)I"⟩) ∈ TB := tb_in (List.mem_of_getElem? (i := 513) (by decide +kernel)) (by decide +kernel)
theorem k_514 : (Cond.selects "TileScreen" ⟨"TileScreen", "at", "(III)I"⟩ ⟨"TileScreen", "at", "(III)I"⟩) ∈ TB := tb_in (List.mem_of_getElem? (i := 514) (by decide +kernel)) (by decide +kernel)
theorem k_515 : (Cond.code ⟨"TileScreen", "at", "(III)I"⟩ prog_1_method_12_code 4 (some .int)) ∈ TB := tb_in (List.mem_of_getElem? (i := 515) (by decide +kernel)) (by decide +kernel)
theorem k_516 : (Cond.methodLink "TileScreenLaw" 77 ⟨"TileScreen", "about", "(II)I"⟩) ∈ TB := tb_in (List.mem_of_getElem? (i := 516) (by decide +kernel)) (by decide +kernel)
theorem k_517 : (Cond.instanceMethod ⟨"TileScreen", "about", "(II)I"⟩) ∈ TB := tb_in (List.mem_of_getElem? (i := 517) (by decide +kernel)) (by decide +kernel)
theorem k_518 : (Cond.selects "TileScreen" ⟨"TileScreen", "about", "(II)I"⟩ ⟨"TileScreen", "about", "(II)I"⟩) ∈ TB := tb_in (List.mem_of_getElem? (i := 518) (by decide +kernel)) (by decide +kernel)
theorem k_519 : (Cond.code ⟨"TileScreen", "about", "(II)I"⟩ prog_1_method_13_code 4 (some .int)) ∈ TB := tb_in (List.mem_of_getElem? (i := 519) (by decide +kernel)) (by decide +kernel)
theorem k_520 : (Cond.methodLink "TileScreen" 156 ⟨"TileScreen$Tiles", "countOther", "(LTileScreen$Tiles;)I"⟩) ∈ TB := tb_in (List.mem_of_getElem? (i := 520) (by decide +kernel)) (by decide +kernel)
theorem k_521 : (Cond.instanceMethod ⟨"TileScreen$Tiles", "countOther", "(LTileScreen$Tiles;)I"⟩) ∈ TB := tb_in (List.mem_of_getElem? (i := 521) (by decide +kernel)) (by decide +kernel)
theorem k_522 : (Cond.selects "TileScreen$Tiles" ⟨"TileScreen$Tiles", "countOther", "(LTileScreen$Tiles;)I"⟩ ⟨"TileScreen$Tiles", "countOther", "(LTileScreen$Tiles;)I"⟩) ∈ TB := tb_in (List.mem_of_getElem? (i := 522) (by decide +kernel)) (by decide +kernel)
theorem k_523 : (Cond.code ⟨"TileScreen$Tiles", "countOther", "(LTileScreen$Tiles;)I"⟩ prog_8_method_8_code 4 (some .int)) ∈ TB := tb_in (List.mem_of_getElem? (i := 523) (by decide +kernel)) (by decide +kernel)
theorem k_524 : (Cond.methodLink "TileScreenLaw" 81 ⟨"TileScreen", "bytesBy", "(II)I"⟩) ∈ TB := tb_in (List.mem_of_getElem? (i := 524) (by decide +kernel)) (by decide +kernel)
theorem k_525 : (Cond.instanceMethod ⟨"TileScreen", "bytesBy", "(II)I"⟩) ∈ TB := tb_in (List.mem_of_getElem? (i := 525) (by decide +kernel)) (by decide +kernel)
theorem k_526 : (Cond.selects "TileScreen" ⟨"TileScreen", "bytesBy", "(II)I"⟩ ⟨"TileScreen", "bytesBy", "(II)I"⟩) ∈ TB := tb_in (List.mem_of_getElem? (i := 526) (by decide +kernel)) (by decide +kernel)
theorem k_527 : (Cond.code ⟨"TileScreen", "bytesBy", "(II)I"⟩ prog_1_method_14_code 3 (some .int)) ∈ TB := tb_in (List.mem_of_getElem? (i := 527) (by decide +kernel)) (by decide +kernel)
theorem k_528 : (Cond.methodLink "TileScreenLaw" 85 ⟨"TileScreen", "onLine", "(II)I"⟩) ∈ TB := tb_in (List.mem_of_getElem? (i := 528) (by decide +kernel)) (by decide +kernel)
theorem k_529 : (Cond.instanceMethod ⟨"TileScreen", "onLine", "(II)I"⟩) ∈ TB := tb_in (List.mem_of_getElem? (i := 529) (by decide +kernel)) (by decide +kernel)
theorem k_530 : (Cond.selects "TileScreen" ⟨"TileScreen", "onLine", "(II)I"⟩ ⟨"TileScreen", "onLine", "(II)I"⟩) ∈ TB := tb_in (List.mem_of_getElem? (i := 530) (by decide +kernel)) (by decide +kernel)
theorem k_531 : (Cond.code ⟨"TileScreen", "onLine", "(II)I"⟩ prog_1_method_15_code 3 (some .int)) ∈ TB := tb_in (List.mem_of_getElem? (i := 531) (by decide +kernel)) (by decide +kernel)
theorem k_532 : (Cond.methodLink "TileScreen" 173 ⟨"TileScreen$Line", "get", "(I)I"⟩) ∈ TB := tb_in (List.mem_of_getElem? (i := 532) (by decide +kernel)) (by decide +kernel)
theorem k_533 : (Cond.instanceMethod ⟨"TileScreen$Line", "get", "(I)I"⟩) ∈ TB := tb_in (List.mem_of_getElem? (i := 533) (by decide +kernel)) (by decide +kernel)
theorem k_534 : (Cond.selects "TileScreen$Line" ⟨"TileScreen$Line", "get", "(I)I"⟩ ⟨"TileScreen$Line", "get", "(I)I"⟩) ∈ TB := tb_in (List.mem_of_getElem? (i := 534) (by decide +kernel)) (by decide +kernel)
theorem k_535 : (Cond.code ⟨"TileScreen$Line", "get", "(I)I"⟩ prog_5_method_6_code 2 (some .int)) ∈ TB := tb_in (List.mem_of_getElem? (i := 535) (by decide +kernel)) (by decide +kernel)
theorem k_536 : (Cond.methodLink "TileScreenLaw" 49 ⟨"TileScreenLaw", "credit", "(LTileScreen;II[J)I"⟩) ∈ TB := tb_in (List.mem_of_getElem? (i := 536) (by decide +kernel)) (by decide +kernel)
theorem k_537 : (Cond.static ⟨"TileScreenLaw", "credit", "(LTileScreen;II[J)I"⟩) ∈ TB := tb_in (List.mem_of_getElem? (i := 537) (by decide +kernel)) (by decide +kernel)
theorem k_539 : (Cond.classLink "TileScreenLaw" 13 "java/lang/IllegalArgumentException") ∈ TB := tb_in (List.mem_of_getElem? (i := 539) (by decide +kernel)) (by decide +kernel)
theorem k_540 : (Cond.classLink "TileScreenLaw" 15 "java/lang/IllegalStateException") ∈ TB := tb_in (List.mem_of_getElem? (i := 540) (by decide +kernel)) (by decide +kernel)
theorem k_541 : (Cond.methodLink "TileScreenLaw" 7 ⟨"TileScreen", "credit", "(II)I"⟩) ∈ TB := tb_in (List.mem_of_getElem? (i := 541) (by decide +kernel)) (by decide +kernel)
theorem k_542 : (Cond.instanceMethod ⟨"TileScreen", "credit", "(II)I"⟩) ∈ TB := tb_in (List.mem_of_getElem? (i := 542) (by decide +kernel)) (by decide +kernel)
theorem k_543 : (Cond.selects "TileScreen" ⟨"TileScreen", "credit", "(II)I"⟩ ⟨"TileScreen", "credit", "(II)I"⟩) ∈ TB := tb_in (List.mem_of_getElem? (i := 543) (by decide +kernel)) (by decide +kernel)
theorem k_544 : (Cond.code ⟨"TileScreen", "credit", "(II)I"⟩ prog_1_method_8_code 4 (some .int)) ∈ TB := tb_in (List.mem_of_getElem? (i := 544) (by decide +kernel)) (by decide +kernel)
theorem k_545 : (Cond.constant "TileScreen" 76 1000000) ∈ TB := tb_in (List.mem_of_getElem? (i := 545) (by decide +kernel)) (by decide +kernel)
theorem k_546 : (Cond.classLink "TileScreen" 77 "java/lang/IllegalArgumentException") ∈ TB := tb_in (List.mem_of_getElem? (i := 546) (by decide +kernel)) (by decide +kernel)
theorem k_547 : (Cond.instantiable "java/lang/IllegalArgumentException" 6) ∈ TB := tb_in (List.mem_of_getElem? (i := 547) (by decide +kernel)) (by decide +kernel)
theorem k_555 : (Cond.selects "java/lang/IllegalArgumentException" ⟨"java/lang/Throwable", "fillInStackTrace", "(I)Ljava/lang/Throwable;"⟩ ⟨"java/lang/Throwable", "fillInStackTrace", "(I)Ljava/lang/Throwable;"⟩) ∈ TB := tb_in (List.mem_of_getElem? (i := 555) (by decide +kernel)) (by decide +kernel)
theorem k_556 : (Cond.selects "java/lang/IllegalArgumentException" ⟨"java/lang/Throwable", "fillInStackTrace", "()Ljava/lang/Throwable;"⟩ ⟨"java/lang/Throwable", "fillInStackTrace", "()Ljava/lang/Throwable;"⟩) ∈ TB := tb_in (List.mem_of_getElem? (i := 556) (by decide +kernel)) (by decide +kernel)
theorem k_567 : (Cond.fieldLink "java/lang/Throwable" 198 "java/lang/Throwable" "backtrace" "Ljava/lang/Object;") ∈ TB := tb_in (List.mem_of_getElem? (i := 567) (by decide +kernel)) (by decide +kernel)
theorem k_569 : (Cond.instanceMethod ⟨"java/lang/Throwable", "<init>", "()V"⟩) ∈ TB := tb_in (List.mem_of_getElem? (i := 569) (by decide +kernel)) (by decide +kernel)
theorem k_570 : (Cond.code ⟨"java/lang/Throwable", "<init>", "()V"⟩ prog_19_method_1_code 1 none) ∈ TB := tb_in (List.mem_of_getElem? (i := 570) (by decide +kernel)) (by decide +kernel)
theorem k_571 : (Cond.methodLink "java/lang/Throwable" 1 ⟨"java/lang/Object", "<init>", "()V"⟩) ∈ TB := tb_in (List.mem_of_getElem? (i := 571) (by decide +kernel)) (by decide +kernel)
theorem k_572 : (Cond.fieldLink "java/lang/Throwable" 13 "java/lang/Throwable" "UNASSIGNED_STACK" "[Ljava/lang/StackTraceElement;") ∈ TB := tb_in (List.mem_of_getElem? (i := 572) (by decide +kernel)) (by decide +kernel)
theorem k_574 : (Cond.fieldLink "java/lang/Throwable" 20 "java/lang/Throwable" "SUPPRESSED_SENTINEL" "Ljava/util/List;") ∈ TB := tb_in (List.mem_of_getElem? (i := 574) (by decide +kernel)) (by decide +kernel)
theorem k_576 : (Cond.methodLink "java/lang/Throwable" 27 ⟨"java/lang/Throwable", "fillInStackTrace", "()Ljava/lang/Throwable;"⟩) ∈ TB := tb_in (List.mem_of_getElem? (i := 576) (by decide +kernel)) (by decide +kernel)
theorem k_577 : (Cond.instanceMethod ⟨"java/lang/Throwable", "fillInStackTrace", "()Ljava/lang/Throwable;"⟩) ∈ TB := tb_in (List.mem_of_getElem? (i := 577) (by decide +kernel)) (by decide +kernel)
theorem k_579 : (Cond.selects "java/lang/IllegalStateException" ⟨"java/lang/Throwable", "fillInStackTrace", "()Ljava/lang/Throwable;"⟩ ⟨"java/lang/Throwable", "fillInStackTrace", "()Ljava/lang/Throwable;"⟩) ∈ TB := tb_in (List.mem_of_getElem? (i := 579) (by decide +kernel)) (by decide +kernel)
theorem k_581 : (Cond.methodLink "java/lang/Throwable" 202 ⟨"java/lang/Throwable", "fillInStackTrace", "(I)Ljava/lang/Throwable;"⟩) ∈ TB := tb_in (List.mem_of_getElem? (i := 581) (by decide +kernel)) (by decide +kernel)
theorem k_583 : (Cond.instanceMethod ⟨"java/lang/Throwable", "fillInStackTrace", "(I)Ljava/lang/Throwable;"⟩) ∈ TB := tb_in (List.mem_of_getElem? (i := 583) (by decide +kernel)) (by decide +kernel)
theorem k_584 : (Cond.instantiable "java/lang/Throwable" 6) ∈ TB := tb_in (List.mem_of_getElem? (i := 584) (by decide +kernel)) (by decide +kernel)
theorem k_585 : (Cond.native ⟨"java/lang/Throwable", "fillInStackTrace", "(I)Ljava/lang/Throwable;"⟩) ∈ TB := tb_in (List.mem_of_getElem? (i := 585) (by decide +kernel)) (by decide +kernel)
theorem k_587 : (Cond.methodLink "TileScreen" 81 ⟨"java/lang/IllegalArgumentException", "<init>", "(Ljava/lang/String;)V"⟩) ∈ TB := tb_in (List.mem_of_getElem? (i := 587) (by decide +kernel)) (by decide +kernel)
theorem k_588 : (Cond.instanceMethod ⟨"java/lang/IllegalArgumentException", "<init>", "(Ljava/lang/String;)V"⟩) ∈ TB := tb_in (List.mem_of_getElem? (i := 588) (by decide +kernel)) (by decide +kernel)
theorem k_589 : (Cond.code ⟨"java/lang/IllegalArgumentException", "<init>", "(Ljava/lang/String;)V"⟩ prog_13_method_2_code 2 none) ∈ TB := tb_in (List.mem_of_getElem? (i := 589) (by decide +kernel)) (by decide +kernel)
theorem k_590 : (Cond.methodLink "java/lang/IllegalArgumentException" 7 ⟨"java/lang/RuntimeException", "<init>", "(Ljava/lang/String;)V"⟩) ∈ TB := tb_in (List.mem_of_getElem? (i := 590) (by decide +kernel)) (by decide +kernel)
theorem k_591 : (Cond.instanceMethod ⟨"java/lang/RuntimeException", "<init>", "(Ljava/lang/String;)V"⟩) ∈ TB := tb_in (List.mem_of_getElem? (i := 591) (by decide +kernel)) (by decide +kernel)
theorem k_592 : (Cond.code ⟨"java/lang/RuntimeException", "<init>", "(Ljava/lang/String;)V"⟩ prog_16_method_2_code 2 none) ∈ TB := tb_in (List.mem_of_getElem? (i := 592) (by decide +kernel)) (by decide +kernel)
theorem k_593 : (Cond.methodLink "java/lang/RuntimeException" 7 ⟨"java/lang/Exception", "<init>", "(Ljava/lang/String;)V"⟩) ∈ TB := tb_in (List.mem_of_getElem? (i := 593) (by decide +kernel)) (by decide +kernel)
theorem k_594 : (Cond.instanceMethod ⟨"java/lang/Exception", "<init>", "(Ljava/lang/String;)V"⟩) ∈ TB := tb_in (List.mem_of_getElem? (i := 594) (by decide +kernel)) (by decide +kernel)
theorem k_595 : (Cond.code ⟨"java/lang/Exception", "<init>", "(Ljava/lang/String;)V"⟩ prog_12_method_2_code 2 none) ∈ TB := tb_in (List.mem_of_getElem? (i := 595) (by decide +kernel)) (by decide +kernel)
theorem k_596 : (Cond.methodLink "java/lang/Exception" 7 ⟨"java/lang/Throwable", "<init>", "(Ljava/lang/String;)V"⟩) ∈ TB := tb_in (List.mem_of_getElem? (i := 596) (by decide +kernel)) (by decide +kernel)
theorem k_597 : (Cond.instanceMethod ⟨"java/lang/Throwable", "<init>", "(Ljava/lang/String;)V"⟩) ∈ TB := tb_in (List.mem_of_getElem? (i := 597) (by decide +kernel)) (by decide +kernel)
theorem k_598 : (Cond.code ⟨"java/lang/Throwable", "<init>", "(Ljava/lang/String;)V"⟩ prog_19_method_2_code 2 none) ∈ TB := tb_in (List.mem_of_getElem? (i := 598) (by decide +kernel)) (by decide +kernel)
theorem k_599 : (Cond.fieldLink "java/lang/Throwable" 198 "java/lang/Throwable" "backtrace" "Ljava/lang/Object;") ∈ TB := tb_in (List.mem_of_getElem? (i := 599) (by decide +kernel)) (by decide +kernel)
theorem k_600 : (Cond.fieldLink "java/lang/Throwable" 31 "java/lang/Throwable" "detailMessage" "Ljava/lang/String;") ∈ TB := tb_in (List.mem_of_getElem? (i := 600) (by decide +kernel)) (by decide +kernel)
theorem k_601 : (Cond.fieldLink "java/lang/Throwable" 7 "java/lang/Throwable" "cause" "Ljava/lang/Throwable;") ∈ TB := tb_in (List.mem_of_getElem? (i := 601) (by decide +kernel)) (by decide +kernel)
theorem k_602 : (Cond.fieldLink "java/lang/Throwable" 17 "java/lang/Throwable" "stackTrace" "[Ljava/lang/StackTraceElement;") ∈ TB := tb_in (List.mem_of_getElem? (i := 602) (by decide +kernel)) (by decide +kernel)
theorem k_603 : (Cond.fieldLink "java/lang/Throwable" 24 "java/lang/Throwable" "suppressedExceptions" "Ljava/util/List;") ∈ TB := tb_in (List.mem_of_getElem? (i := 603) (by decide +kernel)) (by decide +kernel)
theorem k_612 : (Cond.arrayClass .byte) ∈ TB := tb_in (List.mem_of_getElem? (i := 612) (by decide +kernel)) (by decide +kernel)
theorem k_613 : (Cond.classLink "TileScreen" 87 "java/lang/IllegalStateException") ∈ TB := tb_in (List.mem_of_getElem? (i := 613) (by decide +kernel)) (by decide +kernel)
theorem k_614 : (Cond.instantiable "java/lang/IllegalStateException" 6) ∈ TB := tb_in (List.mem_of_getElem? (i := 614) (by decide +kernel)) (by decide +kernel)
theorem k_616 : (Cond.selects "java/lang/IllegalStateException" ⟨"java/lang/Throwable", "fillInStackTrace", "(I)Ljava/lang/Throwable;"⟩ ⟨"java/lang/Throwable", "fillInStackTrace", "(I)Ljava/lang/Throwable;"⟩) ∈ TB := tb_in (List.mem_of_getElem? (i := 616) (by decide +kernel)) (by decide +kernel)
theorem k_623 : (Cond.methodLink "TileScreen" 91 ⟨"java/lang/IllegalStateException", "<init>", "(Ljava/lang/String;)V"⟩) ∈ TB := tb_in (List.mem_of_getElem? (i := 623) (by decide +kernel)) (by decide +kernel)
theorem k_624 : (Cond.instanceMethod ⟨"java/lang/IllegalStateException", "<init>", "(Ljava/lang/String;)V"⟩) ∈ TB := tb_in (List.mem_of_getElem? (i := 624) (by decide +kernel)) (by decide +kernel)
theorem k_625 : (Cond.code ⟨"java/lang/IllegalStateException", "<init>", "(Ljava/lang/String;)V"⟩ prog_14_method_2_code 2 none) ∈ TB := tb_in (List.mem_of_getElem? (i := 625) (by decide +kernel)) (by decide +kernel)
theorem k_626 : (Cond.methodLink "java/lang/IllegalStateException" 7 ⟨"java/lang/RuntimeException", "<init>", "(Ljava/lang/String;)V"⟩) ∈ TB := tb_in (List.mem_of_getElem? (i := 626) (by decide +kernel)) (by decide +kernel)
theorem k_629 : (Cond.classLink "TileScreenLaw" 18 "TileScreenModel") ∈ TB := tb_in (List.mem_of_getElem? (i := 629) (by decide +kernel)) (by decide +kernel)
theorem k_630 : (Cond.instantiable "TileScreenModel" 27) ∈ TB := tb_in (List.mem_of_getElem? (i := 630) (by decide +kernel)) (by decide +kernel)
theorem k_631 : (Cond.methodLink "TileScreenLaw" 20 ⟨"TileScreenModel", "<init>", "()V"⟩) ∈ TB := tb_in (List.mem_of_getElem? (i := 631) (by decide +kernel)) (by decide +kernel)
theorem k_632 : (Cond.instanceMethod ⟨"TileScreenModel", "<init>", "()V"⟩) ∈ TB := tb_in (List.mem_of_getElem? (i := 632) (by decide +kernel)) (by decide +kernel)
theorem k_633 : (Cond.code ⟨"TileScreenModel", "<init>", "()V"⟩ prog_11_method_1_code 1 none) ∈ TB := tb_in (List.mem_of_getElem? (i := 633) (by decide +kernel)) (by decide +kernel)
theorem k_634 : (Cond.methodLink "TileScreenModel" 1 ⟨"java/lang/Object", "<init>", "()V"⟩) ∈ TB := tb_in (List.mem_of_getElem? (i := 634) (by decide +kernel)) (by decide +kernel)
theorem k_635 : (Cond.fieldLink "TileScreenModel" 74 "TileScreenModel" "code" "I") ∈ TB := tb_in (List.mem_of_getElem? (i := 635) (by decide +kernel)) (by decide +kernel)
theorem k_636 : (Cond.fieldLink "TileScreenModel" 7 "TileScreenModel" "pixel" "[I") ∈ TB := tb_in (List.mem_of_getElem? (i := 636) (by decide +kernel)) (by decide +kernel)
theorem k_637 : (Cond.fieldLink "TileScreenModel" 96 "TileScreenModel" "number" "I") ∈ TB := tb_in (List.mem_of_getElem? (i := 637) (by decide +kernel)) (by decide +kernel)
theorem k_638 : (Cond.fieldLink "TileScreenModel" 13 "TileScreenModel" "cached" "[I") ∈ TB := tb_in (List.mem_of_getElem? (i := 638) (by decide +kernel)) (by decide +kernel)
theorem k_639 : (Cond.fieldLink "TileScreenModel" 16 "TileScreenModel" "place" "[I") ∈ TB := tb_in (List.mem_of_getElem? (i := 639) (by decide +kernel)) (by decide +kernel)
theorem k_640 : (Cond.fieldLink "TileScreenModel" 19 "TileScreenModel" "there" "[Z") ∈ TB := tb_in (List.mem_of_getElem? (i := 640) (by decide +kernel)) (by decide +kernel)
theorem k_641 : (Cond.fieldLink "TileScreenModel" 23 "TileScreenModel" "connected" "[Z") ∈ TB := tb_in (List.mem_of_getElem? (i := 641) (by decide +kernel)) (by decide +kernel)
theorem k_642 : (Cond.fieldLink "TileScreenModel" 26 "TileScreenModel" "shown" "[I") ∈ TB := tb_in (List.mem_of_getElem? (i := 642) (by decide +kernel)) (by decide +kernel)
theorem k_643 : (Cond.fieldLink "TileScreenModel" 29 "TileScreenModel" "sentFrame" "[I") ∈ TB := tb_in (List.mem_of_getElem? (i := 643) (by decide +kernel)) (by decide +kernel)
theorem k_644 : (Cond.fieldLink "TileScreenModel" 32 "TileScreenModel" "credit" "[I") ∈ TB := tb_in (List.mem_of_getElem? (i := 644) (by decide +kernel)) (by decide +kernel)
theorem k_645 : (Cond.fieldLink "TileScreenModel" 35 "TileScreenModel" "epoch" "[I") ∈ TB := tb_in (List.mem_of_getElem? (i := 645) (by decide +kernel)) (by decide +kernel)
theorem k_646 : (Cond.fieldLink "TileScreenModel" 38 "TileScreenModel" "by" "[I") ∈ TB := tb_in (List.mem_of_getElem? (i := 646) (by decide +kernel)) (by decide +kernel)
theorem k_647 : (Cond.fieldLink "TileScreenModel" 41 "TileScreenModel" "line" "[I") ∈ TB := tb_in (List.mem_of_getElem? (i := 647) (by decide +kernel)) (by decide +kernel)
theorem k_648 : (Cond.fieldLink "TileScreenModel" 44 "TileScreenModel" "lineSize" "[I") ∈ TB := tb_in (List.mem_of_getElem? (i := 648) (by decide +kernel)) (by decide +kernel)
theorem k_649 : (Cond.fieldLink "TileScreenModel" 47 "TileScreenModel" "lineAt" "[I") ∈ TB := tb_in (List.mem_of_getElem? (i := 649) (by decide +kernel)) (by decide +kernel)
theorem k_650 : (Cond.fieldLink "TileScreenModel" 50 "TileScreenModel" "came" "[I") ∈ TB := tb_in (List.mem_of_getElem? (i := 650) (by decide +kernel)) (by decide +kernel)
theorem k_651 : (Cond.fieldLink "TileScreenModel" 53 "TileScreenModel" "cameSize" "[I") ∈ TB := tb_in (List.mem_of_getElem? (i := 651) (by decide +kernel)) (by decide +kernel)
theorem k_652 : (Cond.fieldLink "TileScreenModel" 56 "TileScreenModel" "poisonAt" "[I") ∈ TB := tb_in (List.mem_of_getElem? (i := 652) (by decide +kernel)) (by decide +kernel)
theorem k_653 : (Cond.fieldLink "TileScreenModel" 59 "TileScreenModel" "poisonMask" "[I") ∈ TB := tb_in (List.mem_of_getElem? (i := 653) (by decide +kernel)) (by decide +kernel)
theorem k_654 : (Cond.fieldLink "TileScreenModel" 62 "TileScreenModel" "poisons" "[I") ∈ TB := tb_in (List.mem_of_getElem? (i := 654) (by decide +kernel)) (by decide +kernel)
theorem k_655 : (Cond.fieldLink "TileScreenModel" 65 "TileScreenModel" "tile" "[I") ∈ TB := tb_in (List.mem_of_getElem? (i := 655) (by decide +kernel)) (by decide +kernel)
theorem k_656 : (Cond.fieldLink "TileScreenModel" 68 "TileScreenModel" "record" "[I") ∈ TB := tb_in (List.mem_of_getElem? (i := 656) (by decide +kernel)) (by decide +kernel)
theorem k_657 : (Cond.fieldLink "TileScreenModel" 71 "TileScreenModel" "colour" "[I") ∈ TB := tb_in (List.mem_of_getElem? (i := 657) (by decide +kernel)) (by decide +kernel)
theorem k_658 : (Cond.fieldLink "TileScreenModel" 107 "TileScreenModel" "size" "I") ∈ TB := tb_in (List.mem_of_getElem? (i := 658) (by decide +kernel)) (by decide +kernel)
theorem k_659 : (Cond.fieldLink "TileScreenModel" 113 "TileScreenModel" "colours" "I") ∈ TB := tb_in (List.mem_of_getElem? (i := 659) (by decide +kernel)) (by decide +kernel)
theorem k_660 : (Cond.fieldLink "TileScreenModel" 151 "TileScreenModel" "next" "I") ∈ TB := tb_in (List.mem_of_getElem? (i := 660) (by decide +kernel)) (by decide +kernel)
theorem k_661 : (Cond.fieldLink "TileScreenModel" 154 "TileScreenModel" "last" "I") ∈ TB := tb_in (List.mem_of_getElem? (i := 661) (by decide +kernel)) (by decide +kernel)
theorem k_717 : (Cond.arrayClass .boolean) ∈ TB := tb_in (List.mem_of_getElem? (i := 717) (by decide +kernel)) (by decide +kernel)
theorem k_718 : (Cond.methodLink "TileScreenLaw" 55 ⟨"TileScreenModel", "thrown", "()I"⟩) ∈ TB := tb_in (List.mem_of_getElem? (i := 718) (by decide +kernel)) (by decide +kernel)
theorem k_719 : (Cond.instanceMethod ⟨"TileScreenModel", "thrown", "()I"⟩) ∈ TB := tb_in (List.mem_of_getElem? (i := 719) (by decide +kernel)) (by decide +kernel)
theorem k_720 : (Cond.selects "TileScreenModel" ⟨"TileScreenModel", "thrown", "()I"⟩ ⟨"TileScreenModel", "thrown", "()I"⟩) ∈ TB := tb_in (List.mem_of_getElem? (i := 720) (by decide +kernel)) (by decide +kernel)
theorem k_721 : (Cond.code ⟨"TileScreenModel", "thrown", "()I"⟩ prog_11_method_2_code 1 (some .int)) ∈ TB := tb_in (List.mem_of_getElem? (i := 721) (by decide +kernel)) (by decide +kernel)
theorem k_722 : (Cond.methodLink "TileScreenLaw" 25 ⟨"TileScreenModel", "fill", "(IIIII)Z"⟩) ∈ TB := tb_in (List.mem_of_getElem? (i := 722) (by decide +kernel)) (by decide +kernel)
theorem k_723 : (Cond.instanceMethod ⟨"TileScreenModel", "fill", "(IIIII)Z"⟩) ∈ TB := tb_in (List.mem_of_getElem? (i := 723) (by decide +kernel)) (by decide +kernel)
theorem k_724 : (Cond.selects "TileScreenModel" ⟨"TileScreenModel", "fill", "(IIIII)Z"⟩ ⟨"TileScreenModel", "fill", "(IIIII)Z"⟩) ∈ TB := tb_in (List.mem_of_getElem? (i := 724) (by decide +kernel)) (by decide +kernel)
theorem k_725 : (Cond.code ⟨"TileScreenModel", "fill", "(IIIII)Z"⟩ prog_11_method_9_code 7 (some .boolean)) ∈ TB := tb_in (List.mem_of_getElem? (i := 725) (by decide +kernel)) (by decide +kernel)
theorem k_726 : (Cond.methodLink "TileScreenModel" 83 ⟨"TileScreenModel", "isRect", "(IIII)Z"⟩) ∈ TB := tb_in (List.mem_of_getElem? (i := 726) (by decide +kernel)) (by decide +kernel)
theorem k_727 : (Cond.static ⟨"TileScreenModel", "isRect", "(IIII)Z"⟩) ∈ TB := tb_in (List.mem_of_getElem? (i := 727) (by decide +kernel)) (by decide +kernel)
theorem k_728 : (Cond.code ⟨"TileScreenModel", "isRect", "(IIII)Z"⟩ prog_11_method_6_code 4 (some .boolean)) ∈ TB := tb_in (List.mem_of_getElem? (i := 728) (by decide +kernel)) (by decide +kernel)
theorem k_729 : (Cond.methodLink "TileScreenModel" 87 ⟨"TileScreenModel", "isColour", "(I)Z"⟩) ∈ TB := tb_in (List.mem_of_getElem? (i := 729) (by decide +kernel)) (by decide +kernel)
theorem k_730 : (Cond.static ⟨"TileScreenModel", "isColour", "(I)Z"⟩) ∈ TB := tb_in (List.mem_of_getElem? (i := 730) (by decide +kernel)) (by decide +kernel)
theorem k_731 : (Cond.code ⟨"TileScreenModel", "isColour", "(I)Z"⟩ prog_11_method_7_code 1 (some .boolean)) ∈ TB := tb_in (List.mem_of_getElem? (i := 731) (by decide +kernel)) (by decide +kernel)
theorem k_732 : (Cond.constant "TileScreenModel" 82 65536) ∈ TB := tb_in (List.mem_of_getElem? (i := 732) (by decide +kernel)) (by decide +kernel)
theorem k_733 : (Cond.methodLink "TileScreenLaw" 30 ⟨"TileScreenModel", "blit", "(IIII)Z"⟩) ∈ TB := tb_in (List.mem_of_getElem? (i := 733) (by decide +kernel)) (by decide +kernel)
theorem k_734 : (Cond.instanceMethod ⟨"TileScreenModel", "blit", "(IIII)Z"⟩) ∈ TB := tb_in (List.mem_of_getElem? (i := 734) (by decide +kernel)) (by decide +kernel)
theorem k_735 : (Cond.selects "TileScreenModel" ⟨"TileScreenModel", "blit", "(IIII)Z"⟩ ⟨"TileScreenModel", "blit", "(IIII)Z"⟩) ∈ TB := tb_in (List.mem_of_getElem? (i := 735) (by decide +kernel)) (by decide +kernel)
theorem k_736 : (Cond.code ⟨"TileScreenModel", "blit", "(IIII)Z"⟩ prog_11_method_10_code 8 (some .boolean)) ∈ TB := tb_in (List.mem_of_getElem? (i := 736) (by decide +kernel)) (by decide +kernel)
theorem k_737 : (Cond.methodLink "TileScreenModel" 91 ⟨"TileScreenModel", "become", "(II)V"⟩) ∈ TB := tb_in (List.mem_of_getElem? (i := 737) (by decide +kernel)) (by decide +kernel)
theorem k_739 : (Cond.instanceMethod ⟨"TileScreenModel", "become", "(II)V"⟩) ∈ TB := tb_in (List.mem_of_getElem? (i := 739) (by decide +kernel)) (by decide +kernel)
theorem k_740 : (Cond.code ⟨"TileScreenModel", "become", "(II)V"⟩ prog_11_method_4_code 4 none) ∈ TB := tb_in (List.mem_of_getElem? (i := 740) (by decide +kernel)) (by decide +kernel)
theorem k_741 : (Cond.methodLink "TileScreenLaw" 34 ⟨"TileScreenModel", "shade", "(IIII)Z"⟩) ∈ TB := tb_in (List.mem_of_getElem? (i := 741) (by decide +kernel)) (by decide +kernel)
theorem k_742 : (Cond.instanceMethod ⟨"TileScreenModel", "shade", "(IIII)Z"⟩) ∈ TB := tb_in (List.mem_of_getElem? (i := 742) (by decide +kernel)) (by decide +kernel)
theorem k_743 : (Cond.selects "TileScreenModel" ⟨"TileScreenModel", "shade", "(IIII)Z"⟩ ⟨"TileScreenModel", "shade", "(IIII)Z"⟩) ∈ TB := tb_in (List.mem_of_getElem? (i := 743) (by decide +kernel)) (by decide +kernel)
theorem k_744 : (Cond.code ⟨"TileScreenModel", "shade", "(IIII)Z"⟩ prog_11_method_11_code 6 (some .boolean)) ∈ TB := tb_in (List.mem_of_getElem? (i := 744) (by decide +kernel)) (by decide +kernel)
theorem k_745 : (Cond.methodLink "TileScreenModel" 78 ⟨"TileScreenModel", "spot", "(III)I"⟩) ∈ TB := tb_in (List.mem_of_getElem? (i := 745) (by decide +kernel)) (by decide +kernel)
theorem k_746 : (Cond.static ⟨"TileScreenModel", "spot", "(III)I"⟩) ∈ TB := tb_in (List.mem_of_getElem? (i := 746) (by decide +kernel)) (by decide +kernel)
theorem k_747 : (Cond.code ⟨"TileScreenModel", "spot", "(III)I"⟩ prog_11_method_3_code 3 (some .int)) ∈ TB := tb_in (List.mem_of_getElem? (i := 747) (by decide +kernel)) (by decide +kernel)
theorem k_748 : (Cond.constant "TileScreenModel" 95 65535) ∈ TB := tb_in (List.mem_of_getElem? (i := 748) (by decide +kernel)) (by decide +kernel)
theorem k_749 : (Cond.methodLink "TileScreenLaw" 39 ⟨"TileScreenModel", "frame", "()I"⟩) ∈ TB := tb_in (List.mem_of_getElem? (i := 749) (by decide +kernel)) (by decide +kernel)
theorem k_750 : (Cond.instanceMethod ⟨"TileScreenModel", "frame", "()I"⟩) ∈ TB := tb_in (List.mem_of_getElem? (i := 750) (by decide +kernel)) (by decide +kernel)
theorem k_751 : (Cond.selects "TileScreenModel" ⟨"TileScreenModel", "frame", "()I"⟩ ⟨"TileScreenModel", "frame", "()I"⟩) ∈ TB := tb_in (List.mem_of_getElem? (i := 751) (by decide +kernel)) (by decide +kernel)
theorem k_752 : (Cond.code ⟨"TileScreenModel", "frame", "()I"⟩ prog_11_method_12_code 1 (some .int)) ∈ TB := tb_in (List.mem_of_getElem? (i := 752) (by decide +kernel)) (by decide +kernel)
theorem k_753 : (Cond.methodLink "TileScreenLaw" 44 ⟨"TileScreenModel", "join", "(I)Z"⟩) ∈ TB := tb_in (List.mem_of_getElem? (i := 753) (by decide +kernel)) (by decide +kernel)
theorem k_754 : (Cond.instanceMethod ⟨"TileScreenModel", "join", "(I)Z"⟩) ∈ TB := tb_in (List.mem_of_getElem? (i := 754) (by decide +kernel)) (by decide +kernel)
theorem k_755 : (Cond.selects "TileScreenModel" ⟨"TileScreenModel", "join", "(I)Z"⟩ ⟨"TileScreenModel", "join", "(I)Z"⟩) ∈ TB := tb_in (List.mem_of_getElem? (i := 755) (by decide +kernel)) (by decide +kernel)
theorem k_756 : (Cond.code ⟨"TileScreenModel", "join", "(I)Z"⟩ prog_11_method_13_code 3 (some .boolean)) ∈ TB := tb_in (List.mem_of_getElem? (i := 756) (by decide +kernel)) (by decide +kernel)
theorem k_757 : (Cond.methodLink "TileScreenModel" 99 ⟨"TileScreenModel", "isViewer", "(I)Z"⟩) ∈ TB := tb_in (List.mem_of_getElem? (i := 757) (by decide +kernel)) (by decide +kernel)
theorem k_758 : (Cond.static ⟨"TileScreenModel", "isViewer", "(I)Z"⟩) ∈ TB := tb_in (List.mem_of_getElem? (i := 758) (by decide +kernel)) (by decide +kernel)
theorem k_759 : (Cond.code ⟨"TileScreenModel", "isViewer", "(I)Z"⟩ prog_11_method_8_code 1 (some .boolean)) ∈ TB := tb_in (List.mem_of_getElem? (i := 759) (by decide +kernel)) (by decide +kernel)
theorem k_760 : (Cond.methodLink "TileScreenLaw" 48 ⟨"TileScreenModel", "cut", "(I)Z"⟩) ∈ TB := tb_in (List.mem_of_getElem? (i := 760) (by decide +kernel)) (by decide +kernel)
theorem k_761 : (Cond.instanceMethod ⟨"TileScreenModel", "cut", "(I)Z"⟩) ∈ TB := tb_in (List.mem_of_getElem? (i := 761) (by decide +kernel)) (by decide +kernel)
theorem k_762 : (Cond.selects "TileScreenModel" ⟨"TileScreenModel", "cut", "(I)Z"⟩ ⟨"TileScreenModel", "cut", "(I)Z"⟩) ∈ TB := tb_in (List.mem_of_getElem? (i := 762) (by decide +kernel)) (by decide +kernel)
theorem k_763 : (Cond.code ⟨"TileScreenModel", "cut", "(I)Z"⟩ prog_11_method_15_code 3 (some .boolean)) ∈ TB := tb_in (List.mem_of_getElem? (i := 763) (by decide +kernel)) (by decide +kernel)
theorem k_764 : (Cond.methodLink "TileScreenModel" 102 ⟨"TileScreenModel", "leave", "(I)V"⟩) ∈ TB := tb_in (List.mem_of_getElem? (i := 764) (by decide +kernel)) (by decide +kernel)
theorem k_766 : (Cond.instanceMethod ⟨"TileScreenModel", "leave", "(I)V"⟩) ∈ TB := tb_in (List.mem_of_getElem? (i := 766) (by decide +kernel)) (by decide +kernel)
theorem k_767 : (Cond.code ⟨"TileScreenModel", "leave", "(I)V"⟩ prog_11_method_14_code 2 none) ∈ TB := tb_in (List.mem_of_getElem? (i := 767) (by decide +kernel)) (by decide +kernel)
theorem k_768 : (Cond.methodLink "TileScreenLaw" 54 ⟨"TileScreenModel", "credit", "(II)I"⟩) ∈ TB := tb_in (List.mem_of_getElem? (i := 768) (by decide +kernel)) (by decide +kernel)
theorem k_769 : (Cond.instanceMethod ⟨"TileScreenModel", "credit", "(II)I"⟩) ∈ TB := tb_in (List.mem_of_getElem? (i := 769) (by decide +kernel)) (by decide +kernel)
theorem k_770 : (Cond.selects "TileScreenModel" ⟨"TileScreenModel", "credit", "(II)I"⟩ ⟨"TileScreenModel", "credit", "(II)I"⟩) ∈ TB := tb_in (List.mem_of_getElem? (i := 770) (by decide +kernel)) (by decide +kernel)
theorem k_771 : (Cond.code ⟨"TileScreenModel", "credit", "(II)I"⟩ prog_11_method_16_code 3 (some .int)) ∈ TB := tb_in (List.mem_of_getElem? (i := 771) (by decide +kernel)) (by decide +kernel)
theorem k_772 : (Cond.constant "TileScreenModel" 106 1000000) ∈ TB := tb_in (List.mem_of_getElem? (i := 772) (by decide +kernel)) (by decide +kernel)
theorem k_773 : (Cond.methodLink "TileScreenLaw" 62 ⟨"TileScreenModel", "pump", "(I)I"⟩) ∈ TB := tb_in (List.mem_of_getElem? (i := 773) (by decide +kernel)) (by decide +kernel)
theorem k_774 : (Cond.instanceMethod ⟨"TileScreenModel", "pump", "(I)I"⟩) ∈ TB := tb_in (List.mem_of_getElem? (i := 774) (by decide +kernel)) (by decide +kernel)
theorem k_775 : (Cond.selects "TileScreenModel" ⟨"TileScreenModel", "pump", "(I)I"⟩ ⟨"TileScreenModel", "pump", "(I)I"⟩) ∈ TB := tb_in (List.mem_of_getElem? (i := 775) (by decide +kernel)) (by decide +kernel)
theorem k_776 : (Cond.code ⟨"TileScreenModel", "pump", "(I)I"⟩ prog_11_method_36_code 4 (some .int)) ∈ TB := tb_in (List.mem_of_getElem? (i := 776) (by decide +kernel)) (by decide +kernel)
theorem k_777 : (Cond.methodLink "TileScreenModel" 176 ⟨"TileScreenModel", "compose", "(I)V"⟩) ∈ TB := tb_in (List.mem_of_getElem? (i := 777) (by decide +kernel)) (by decide +kernel)
theorem k_779 : (Cond.instanceMethod ⟨"TileScreenModel", "compose", "(I)V"⟩) ∈ TB := tb_in (List.mem_of_getElem? (i := 779) (by decide +kernel)) (by decide +kernel)
theorem k_780 : (Cond.code ⟨"TileScreenModel", "compose", "(I)V"⟩ prog_11_method_28_code 6 none) ∈ TB := tb_in (List.mem_of_getElem? (i := 780) (by decide +kernel)) (by decide +kernel)
theorem k_781 : (Cond.methodLink "TileScreenModel" 138 ⟨"TileScreenModel", "send", "(II)V"⟩) ∈ TB := tb_in (List.mem_of_getElem? (i := 781) (by decide +kernel)) (by decide +kernel)
theorem k_783 : (Cond.instanceMethod ⟨"TileScreenModel", "send", "(II)V"⟩) ∈ TB := tb_in (List.mem_of_getElem? (i := 783) (by decide +kernel)) (by decide +kernel)
theorem k_784 : (Cond.code ⟨"TileScreenModel", "send", "(II)V"⟩ prog_11_method_27_code 3 none) ∈ TB := tb_in (List.mem_of_getElem? (i := 784) (by decide +kernel)) (by decide +kernel)
theorem k_785 : (Cond.methodLink "TileScreenModel" 120 ⟨"TileScreenModel", "sameTile", "(IIII)Z"⟩) ∈ TB := tb_in (List.mem_of_getElem? (i := 785) (by decide +kernel)) (by decide +kernel)
theorem k_787 : (Cond.instanceMethod ⟨"TileScreenModel", "sameTile", "(IIII)Z"⟩) ∈ TB := tb_in (List.mem_of_getElem? (i := 787) (by decide +kernel)) (by decide +kernel)
theorem k_788 : (Cond.code ⟨"TileScreenModel", "sameTile", "(IIII)Z"⟩ prog_11_method_5_code 7 (some .boolean)) ∈ TB := tb_in (List.mem_of_getElem? (i := 788) (by decide +kernel)) (by decide +kernel)
theorem k_789 : (Cond.methodLink "TileScreenModel" 141 ⟨"TileScreenModel", "findColours", "()V"⟩) ∈ TB := tb_in (List.mem_of_getElem? (i := 789) (by decide +kernel)) (by decide +kernel)
theorem k_791 : (Cond.instanceMethod ⟨"TileScreenModel", "findColours", "()V"⟩) ∈ TB := tb_in (List.mem_of_getElem? (i := 791) (by decide +kernel)) (by decide +kernel)
theorem k_792 : (Cond.code ⟨"TileScreenModel", "findColours", "()V"⟩ prog_11_method_19_code 2 none) ∈ TB := tb_in (List.mem_of_getElem? (i := 792) (by decide +kernel)) (by decide +kernel)
theorem k_793 : (Cond.methodLink "TileScreenModel" 116 ⟨"TileScreenModel", "numberOf", "(I)I"⟩) ∈ TB := tb_in (List.mem_of_getElem? (i := 793) (by decide +kernel)) (by decide +kernel)
theorem k_795 : (Cond.instanceMethod ⟨"TileScreenModel", "numberOf", "(I)I"⟩) ∈ TB := tb_in (List.mem_of_getElem? (i := 795) (by decide +kernel)) (by decide +kernel)
theorem k_796 : (Cond.code ⟨"TileScreenModel", "numberOf", "(I)I"⟩ prog_11_method_20_code 3 (some .int)) ∈ TB := tb_in (List.mem_of_getElem? (i := 796) (by decide +kernel)) (by decide +kernel)
theorem k_797 : (Cond.methodLink "TileScreenModel" 144 ⟨"TileScreenModel", "write", "(III)Z"⟩) ∈ TB := tb_in (List.mem_of_getElem? (i := 797) (by decide +kernel)) (by decide +kernel)
theorem k_799 : (Cond.instanceMethod ⟨"TileScreenModel", "write", "(III)Z"⟩) ∈ TB := tb_in (List.mem_of_getElem? (i := 799) (by decide +kernel)) (by decide +kernel)
theorem k_800 : (Cond.code ⟨"TileScreenModel", "write", "(III)Z"⟩ prog_11_method_25_code 7 (some .boolean)) ∈ TB := tb_in (List.mem_of_getElem? (i := 800) (by decide +kernel)) (by decide +kernel)
theorem k_801 : (Cond.methodLink "TileScreenModel" 110 ⟨"TileScreenModel", "put", "(I)V"⟩) ∈ TB := tb_in (List.mem_of_getElem? (i := 801) (by decide +kernel)) (by decide +kernel)
theorem k_803 : (Cond.instanceMethod ⟨"TileScreenModel", "put", "(I)V"⟩) ∈ TB := tb_in (List.mem_of_getElem? (i := 803) (by decide +kernel)) (by decide +kernel)
theorem k_804 : (Cond.code ⟨"TileScreenModel", "put", "(I)V"⟩ prog_11_method_17_code 2 none) ∈ TB := tb_in (List.mem_of_getElem? (i := 804) (by decide +kernel)) (by decide +kernel)
theorem k_805 : (Cond.methodLink "TileScreenModel" 126 ⟨"TileScreenModel", "likeTile", "(I)I"⟩) ∈ TB := tb_in (List.mem_of_getElem? (i := 805) (by decide +kernel)) (by decide +kernel)
theorem k_807 : (Cond.instanceMethod ⟨"TileScreenModel", "likeTile", "(I)I"⟩) ∈ TB := tb_in (List.mem_of_getElem? (i := 807) (by decide +kernel)) (by decide +kernel)
theorem k_808 : (Cond.code ⟨"TileScreenModel", "likeTile", "(I)I"⟩ prog_11_method_21_code 3 (some .int)) ∈ TB := tb_in (List.mem_of_getElem? (i := 808) (by decide +kernel)) (by decide +kernel)
theorem k_809 : (Cond.methodLink "TileScreenModel" 129 ⟨"TileScreenModel", "likeEntry", "(I)I"⟩) ∈ TB := tb_in (List.mem_of_getElem? (i := 809) (by decide +kernel)) (by decide +kernel)
theorem k_811 : (Cond.instanceMethod ⟨"TileScreenModel", "likeEntry", "(I)I"⟩) ∈ TB := tb_in (List.mem_of_getElem? (i := 811) (by decide +kernel)) (by decide +kernel)
theorem k_812 : (Cond.code ⟨"TileScreenModel", "likeEntry", "(I)I"⟩ prog_11_method_22_code 5 (some .int)) ∈ TB := tb_in (List.mem_of_getElem? (i := 812) (by decide +kernel)) (by decide +kernel)
theorem k_813 : (Cond.methodLink "TileScreenModel" 123 ⟨"TileScreenModel", "putTwo", "(I)V"⟩) ∈ TB := tb_in (List.mem_of_getElem? (i := 813) (by decide +kernel)) (by decide +kernel)
theorem k_815 : (Cond.instanceMethod ⟨"TileScreenModel", "putTwo", "(I)V"⟩) ∈ TB := tb_in (List.mem_of_getElem? (i := 815) (by decide +kernel)) (by decide +kernel)
theorem k_816 : (Cond.code ⟨"TileScreenModel", "putTwo", "(I)V"⟩ prog_11_method_18_code 2 none) ∈ TB := tb_in (List.mem_of_getElem? (i := 816) (by decide +kernel)) (by decide +kernel)
theorem k_817 : (Cond.methodLink "TileScreenModel" 132 ⟨"TileScreenModel", "putBits", "(I)V"⟩) ∈ TB := tb_in (List.mem_of_getElem? (i := 817) (by decide +kernel)) (by decide +kernel)
theorem k_819 : (Cond.instanceMethod ⟨"TileScreenModel", "putBits", "(I)V"⟩) ∈ TB := tb_in (List.mem_of_getElem? (i := 819) (by decide +kernel)) (by decide +kernel)
theorem k_820 : (Cond.code ⟨"TileScreenModel", "putBits", "(I)V"⟩ prog_11_method_23_code 4 none) ∈ TB := tb_in (List.mem_of_getElem? (i := 820) (by decide +kernel)) (by decide +kernel)
theorem k_821 : (Cond.methodLink "TileScreenModel" 135 ⟨"TileScreenModel", "putRuns", "()V"⟩) ∈ TB := tb_in (List.mem_of_getElem? (i := 821) (by decide +kernel)) (by decide +kernel)
theorem k_823 : (Cond.instanceMethod ⟨"TileScreenModel", "putRuns", "()V"⟩) ∈ TB := tb_in (List.mem_of_getElem? (i := 823) (by decide +kernel)) (by decide +kernel)
theorem k_824 : (Cond.code ⟨"TileScreenModel", "putRuns", "()V"⟩ prog_11_method_24_code 5 none) ∈ TB := tb_in (List.mem_of_getElem? (i := 824) (by decide +kernel)) (by decide +kernel)
theorem k_825 : (Cond.methodLink "TileScreenModel" 148 ⟨"TileScreenModel", "keep", "(I)V"⟩) ∈ TB := tb_in (List.mem_of_getElem? (i := 825) (by decide +kernel)) (by decide +kernel)
theorem k_827 : (Cond.instanceMethod ⟨"TileScreenModel", "keep", "(I)V"⟩) ∈ TB := tb_in (List.mem_of_getElem? (i := 827) (by decide +kernel)) (by decide +kernel)
theorem k_828 : (Cond.code ⟨"TileScreenModel", "keep", "(I)V"⟩ prog_11_method_26_code 3 none) ∈ TB := tb_in (List.mem_of_getElem? (i := 828) (by decide +kernel)) (by decide +kernel)
theorem k_829 : (Cond.methodLink "TileScreenModel" 179 ⟨"TileScreenModel", "take", "(II)Z"⟩) ∈ TB := tb_in (List.mem_of_getElem? (i := 829) (by decide +kernel)) (by decide +kernel)
theorem k_831 : (Cond.instanceMethod ⟨"TileScreenModel", "take", "(II)Z"⟩) ∈ TB := tb_in (List.mem_of_getElem? (i := 831) (by decide +kernel)) (by decide +kernel)
theorem k_832 : (Cond.code ⟨"TileScreenModel", "take", "(II)Z"⟩ prog_11_method_35_code 7 (some .boolean)) ∈ TB := tb_in (List.mem_of_getElem? (i := 832) (by decide +kernel)) (by decide +kernel)
theorem k_833 : (Cond.methodLink "TileScreenModel" 173 ⟨"TileScreenModel", "whole", "(I)Z"⟩) ∈ TB := tb_in (List.mem_of_getElem? (i := 833) (by decide +kernel)) (by decide +kernel)
theorem k_835 : (Cond.instanceMethod ⟨"TileScreenModel", "whole", "(I)Z"⟩) ∈ TB := tb_in (List.mem_of_getElem? (i := 835) (by decide +kernel)) (by decide +kernel)
theorem k_836 : (Cond.code ⟨"TileScreenModel", "whole", "(I)Z"⟩ prog_11_method_34_code 7 (some .boolean)) ∈ TB := tb_in (List.mem_of_getElem? (i := 836) (by decide +kernel)) (by decide +kernel)
theorem k_837 : (Cond.methodLink "TileScreenModel" 160 ⟨"TileScreenModel", "getTwo", "(I)I"⟩) ∈ TB := tb_in (List.mem_of_getElem? (i := 837) (by decide +kernel)) (by decide +kernel)
theorem k_839 : (Cond.instanceMethod ⟨"TileScreenModel", "getTwo", "(I)I"⟩) ∈ TB := tb_in (List.mem_of_getElem? (i := 839) (by decide +kernel)) (by decide +kernel)
theorem k_840 : (Cond.code ⟨"TileScreenModel", "getTwo", "(I)I"⟩ prog_11_method_30_code 3 (some .int)) ∈ TB := tb_in (List.mem_of_getElem? (i := 840) (by decide +kernel)) (by decide +kernel)
theorem k_841 : (Cond.methodLink "TileScreenModel" 157 ⟨"TileScreenModel", "get", "(I)I"⟩) ∈ TB := tb_in (List.mem_of_getElem? (i := 841) (by decide +kernel)) (by decide +kernel)
theorem k_843 : (Cond.instanceMethod ⟨"TileScreenModel", "get", "(I)I"⟩) ∈ TB := tb_in (List.mem_of_getElem? (i := 843) (by decide +kernel)) (by decide +kernel)
theorem k_844 : (Cond.code ⟨"TileScreenModel", "get", "(I)I"⟩ prog_11_method_29_code 3 (some .int)) ∈ TB := tb_in (List.mem_of_getElem? (i := 844) (by decide +kernel)) (by decide +kernel)
theorem k_845 : (Cond.methodLink "TileScreenModel" 169 ⟨"TileScreenModel", "read", "(II)Z"⟩) ∈ TB := tb_in (List.mem_of_getElem? (i := 845) (by decide +kernel)) (by decide +kernel)
theorem k_847 : (Cond.instanceMethod ⟨"TileScreenModel", "read", "(II)Z"⟩) ∈ TB := tb_in (List.mem_of_getElem? (i := 847) (by decide +kernel)) (by decide +kernel)
theorem k_848 : (Cond.code ⟨"TileScreenModel", "read", "(II)Z"⟩ prog_11_method_31_code 8 (some .boolean)) ∈ TB := tb_in (List.mem_of_getElem? (i := 848) (by decide +kernel)) (by decide +kernel)
theorem k_849 : (Cond.methodLink "TileScreenModel" 163 ⟨"TileScreenModel", "readLike", "(III)Z"⟩) ∈ TB := tb_in (List.mem_of_getElem? (i := 849) (by decide +kernel)) (by decide +kernel)
theorem k_851 : (Cond.instanceMethod ⟨"TileScreenModel", "readLike", "(III)Z"⟩) ∈ TB := tb_in (List.mem_of_getElem? (i := 851) (by decide +kernel)) (by decide +kernel)
theorem k_852 : (Cond.code ⟨"TileScreenModel", "readLike", "(III)Z"⟩ prog_11_method_32_code 5 (some .boolean)) ∈ TB := tb_in (List.mem_of_getElem? (i := 852) (by decide +kernel)) (by decide +kernel)
theorem k_853 : (Cond.methodLink "TileScreenModel" 166 ⟨"TileScreenModel", "readRuns", "(I)Z"⟩) ∈ TB := tb_in (List.mem_of_getElem? (i := 853) (by decide +kernel)) (by decide +kernel)
theorem k_855 : (Cond.instanceMethod ⟨"TileScreenModel", "readRuns", "(I)Z"⟩) ∈ TB := tb_in (List.mem_of_getElem? (i := 855) (by decide +kernel)) (by decide +kernel)
theorem k_856 : (Cond.code ⟨"TileScreenModel", "readRuns", "(I)Z"⟩ prog_11_method_33_code 8 (some .boolean)) ∈ TB := tb_in (List.mem_of_getElem? (i := 856) (by decide +kernel)) (by decide +kernel)
theorem k_857 : (Cond.methodLink "TileScreenLaw" 67 ⟨"TileScreenModel", "poison", "(III)Z"⟩) ∈ TB := tb_in (List.mem_of_getElem? (i := 857) (by decide +kernel)) (by decide +kernel)
theorem k_858 : (Cond.instanceMethod ⟨"TileScreenModel", "poison", "(III)Z"⟩) ∈ TB := tb_in (List.mem_of_getElem? (i := 858) (by decide +kernel)) (by decide +kernel)
theorem k_859 : (Cond.selects "TileScreenModel" ⟨"TileScreenModel", "poison", "(III)Z"⟩ ⟨"TileScreenModel", "poison", "(III)Z"⟩) ∈ TB := tb_in (List.mem_of_getElem? (i := 859) (by decide +kernel)) (by decide +kernel)
theorem k_860 : (Cond.code ⟨"TileScreenModel", "poison", "(III)Z"⟩ prog_11_method_37_code 4 (some .boolean)) ∈ TB := tb_in (List.mem_of_getElem? (i := 860) (by decide +kernel)) (by decide +kernel)
theorem k_861 : (Cond.methodLink "TileScreenLaw" 71 ⟨"TileScreenModel", "shown", "(I)I"⟩) ∈ TB := tb_in (List.mem_of_getElem? (i := 861) (by decide +kernel)) (by decide +kernel)
theorem k_862 : (Cond.instanceMethod ⟨"TileScreenModel", "shown", "(I)I"⟩) ∈ TB := tb_in (List.mem_of_getElem? (i := 862) (by decide +kernel)) (by decide +kernel)
theorem k_863 : (Cond.selects "TileScreenModel" ⟨"TileScreenModel", "shown", "(I)I"⟩ ⟨"TileScreenModel", "shown", "(I)I"⟩) ∈ TB := tb_in (List.mem_of_getElem? (i := 863) (by decide +kernel)) (by decide +kernel)
theorem k_864 : (Cond.code ⟨"TileScreenModel", "shown", "(I)I"⟩ prog_11_method_38_code 2 (some .int)) ∈ TB := tb_in (List.mem_of_getElem? (i := 864) (by decide +kernel)) (by decide +kernel)
theorem k_865 : (Cond.methodLink "TileScreenLaw" 76 ⟨"TileScreenModel", "at", "(III)I"⟩) ∈ TB := tb_in (List.mem_of_getElem? (i := 865) (by decide +kernel)) (by decide +kernel)
theorem k_866 : (Cond.instanceMethod ⟨"TileScreenModel", "at", "(III)I"⟩) ∈ TB := tb_in (List.mem_of_getElem? (i := 866) (by decide +kernel)) (by decide +kernel)
theorem k_867 : (Cond.selects "TileScreenModel" ⟨"TileScreenModel", "at", "(III)I"⟩ ⟨"TileScreenModel", "at", "(III)I"⟩) ∈ TB := tb_in (List.mem_of_getElem? (i := 867) (by decide +kernel)) (by decide +kernel)
theorem k_868 : (Cond.code ⟨"TileScreenModel", "at", "(III)I"⟩ prog_11_method_39_code 4 (some .int)) ∈ TB := tb_in (List.mem_of_getElem? (i := 868) (by decide +kernel)) (by decide +kernel)
theorem k_869 : (Cond.methodLink "TileScreenLaw" 80 ⟨"TileScreenModel", "about", "(II)I"⟩) ∈ TB := tb_in (List.mem_of_getElem? (i := 869) (by decide +kernel)) (by decide +kernel)
theorem k_870 : (Cond.instanceMethod ⟨"TileScreenModel", "about", "(II)I"⟩) ∈ TB := tb_in (List.mem_of_getElem? (i := 870) (by decide +kernel)) (by decide +kernel)
theorem k_871 : (Cond.selects "TileScreenModel" ⟨"TileScreenModel", "about", "(II)I"⟩ ⟨"TileScreenModel", "about", "(II)I"⟩) ∈ TB := tb_in (List.mem_of_getElem? (i := 871) (by decide +kernel)) (by decide +kernel)
theorem k_872 : (Cond.code ⟨"TileScreenModel", "about", "(II)I"⟩ prog_11_method_40_code 5 (some .int)) ∈ TB := tb_in (List.mem_of_getElem? (i := 872) (by decide +kernel)) (by decide +kernel)
theorem k_873 : (Cond.methodLink "TileScreenLaw" 84 ⟨"TileScreenModel", "bytesBy", "(II)I"⟩) ∈ TB := tb_in (List.mem_of_getElem? (i := 873) (by decide +kernel)) (by decide +kernel)
theorem k_874 : (Cond.instanceMethod ⟨"TileScreenModel", "bytesBy", "(II)I"⟩) ∈ TB := tb_in (List.mem_of_getElem? (i := 874) (by decide +kernel)) (by decide +kernel)
theorem k_875 : (Cond.selects "TileScreenModel" ⟨"TileScreenModel", "bytesBy", "(II)I"⟩ ⟨"TileScreenModel", "bytesBy", "(II)I"⟩) ∈ TB := tb_in (List.mem_of_getElem? (i := 875) (by decide +kernel)) (by decide +kernel)
theorem k_876 : (Cond.code ⟨"TileScreenModel", "bytesBy", "(II)I"⟩ prog_11_method_41_code 3 (some .int)) ∈ TB := tb_in (List.mem_of_getElem? (i := 876) (by decide +kernel)) (by decide +kernel)
theorem k_877 : (Cond.methodLink "TileScreenLaw" 88 ⟨"TileScreenModel", "onLine", "(II)I"⟩) ∈ TB := tb_in (List.mem_of_getElem? (i := 877) (by decide +kernel)) (by decide +kernel)
theorem k_878 : (Cond.instanceMethod ⟨"TileScreenModel", "onLine", "(II)I"⟩) ∈ TB := tb_in (List.mem_of_getElem? (i := 878) (by decide +kernel)) (by decide +kernel)
theorem k_879 : (Cond.selects "TileScreenModel" ⟨"TileScreenModel", "onLine", "(II)I"⟩ ⟨"TileScreenModel", "onLine", "(II)I"⟩) ∈ TB := tb_in (List.mem_of_getElem? (i := 879) (by decide +kernel)) (by decide +kernel)
theorem k_880 : (Cond.code ⟨"TileScreenModel", "onLine", "(II)I"⟩ prog_11_method_42_code 3 (some .int)) ∈ TB := tb_in (List.mem_of_getElem? (i := 880) (by decide +kernel)) (by decide +kernel)
theorem k_881 : (Cond.arrayClass .long) ∈ TB := tb_in (List.mem_of_getElem? (i := 881) (by decide +kernel)) (by decide +kernel)
theorem s_0 : (Cond.selects "TileScreen$Feed" ⟨"TileScreen$Feed", "addRecord", "(LTileScreen$Tiles;I)V"⟩ ⟨"TileScreen$Feed", "addRecord", "(LTileScreen$Tiles;I)V"⟩) ∈ TB := tb_sel (by decide +kernel) (by decide +kernel)
theorem s_1 : (Cond.selects "TileScreen$Look" ⟨"TileScreen$Look", "meet", "(I)V"⟩ ⟨"TileScreen$Look", "meet", "(I)V"⟩) ∈ TB := tb_sel (by decide +kernel) (by decide +kernel)
theorem s_2 : (Cond.selects "TileScreen$Feed" ⟨"TileScreen$Feed", "chooseKind", "()I"⟩ ⟨"TileScreen$Feed", "chooseKind", "()I"⟩) ∈ TB := tb_sel (by decide +kernel) (by decide +kernel)
theorem s_3 : (Cond.selects "TileScreen$Feed" ⟨"TileScreen$Feed", "isFit", "(I)Z"⟩ ⟨"TileScreen$Feed", "isFit", "(I)Z"⟩) ∈ TB := tb_sel (by decide +kernel) (by decide +kernel)
theorem s_4 : (Cond.selects "TileScreen$Feed" ⟨"TileScreen$Feed", "lengthOf", "(I)I"⟩ ⟨"TileScreen$Feed", "lengthOf", "(I)I"⟩) ∈ TB := tb_sel (by decide +kernel) (by decide +kernel)
theorem s_5 : (Cond.selects "TileScreen$Feed" ⟨"TileScreen$Feed", "addContent", "(ILTileScreen$Tiles;I)V"⟩ ⟨"TileScreen$Feed", "addContent", "(ILTileScreen$Tiles;I)V"⟩) ∈ TB := tb_sel (by decide +kernel) (by decide +kernel)
theorem s_6 : (Cond.selects "TileScreen$Feed" ⟨"TileScreen$Feed", "addPalette", "()V"⟩ ⟨"TileScreen$Feed", "addPalette", "()V"⟩) ∈ TB := tb_sel (by decide +kernel) (by decide +kernel)
theorem s_7 : (Cond.selects "TileScreen$Feed" ⟨"TileScreen$Feed", "addBits", "(LTileScreen$Tiles;II)V"⟩ ⟨"TileScreen$Feed", "addBits", "(LTileScreen$Tiles;II)V"⟩) ∈ TB := tb_sel (by decide +kernel) (by decide +kernel)
theorem s_8 : (Cond.selects "TileScreen$Feed" ⟨"TileScreen$Feed", "addRuns", "(LTileScreen$Tiles;I)V"⟩ ⟨"TileScreen$Feed", "addRuns", "(LTileScreen$Tiles;I)V"⟩) ∈ TB := tb_sel (by decide +kernel) (by decide +kernel)
theorem s_9 : (Cond.selects "TileScreen$Feed" ⟨"TileScreen$Feed", "addRaw", "(LTileScreen$Tiles;I)V"⟩ ⟨"TileScreen$Feed", "addRaw", "(LTileScreen$Tiles;I)V"⟩) ∈ TB := tb_sel (by decide +kernel) (by decide +kernel)
theorem s_10 : (Cond.selects "TileScreen$Display" ⟨"TileScreen$Display", "readUpdate", "()Z"⟩ ⟨"TileScreen$Display", "readUpdate", "()Z"⟩) ∈ TB := tb_sel (by decide +kernel) (by decide +kernel)
theorem s_11 : (Cond.selects "TileScreen$Display" ⟨"TileScreen$Display", "pairAt", "(I)I"⟩ ⟨"TileScreen$Display", "pairAt", "(I)I"⟩) ∈ TB := tb_sel (by decide +kernel) (by decide +kernel)
theorem s_12 : (Cond.selects "TileScreen$Display" ⟨"TileScreen$Display", "readRecord", "()V"⟩ ⟨"TileScreen$Display", "readRecord", "()V"⟩) ∈ TB := tb_sel (by decide +kernel) (by decide +kernel)
theorem s_13 : (Cond.selects "TileScreen$Display" ⟨"TileScreen$Display", "readByte", "()I"⟩ ⟨"TileScreen$Display", "readByte", "()I"⟩) ∈ TB := tb_sel (by decide +kernel) (by decide +kernel)
theorem s_14 : (Cond.selects "TileScreen$Display" ⟨"TileScreen$Display", "readColour", "()I"⟩ ⟨"TileScreen$Display", "readColour", "()I"⟩) ∈ TB := tb_sel (by decide +kernel) (by decide +kernel)
theorem s_15 : (Cond.selects "TileScreen$Display" ⟨"TileScreen$Display", "paint", "(IIII)V"⟩ ⟨"TileScreen$Display", "paint", "(IIII)V"⟩) ∈ TB := tb_sel (by decide +kernel) (by decide +kernel)
theorem s_16 : (Cond.selects "TileScreen$Display" ⟨"TileScreen$Display", "readSource", "(ILTileScreen$Tiles;I)V"⟩ ⟨"TileScreen$Display", "readSource", "(ILTileScreen$Tiles;I)V"⟩) ∈ TB := tb_sel (by decide +kernel) (by decide +kernel)
theorem s_17 : (Cond.selects "TileScreen$Display" ⟨"TileScreen$Display", "readPixels", "(III)V"⟩ ⟨"TileScreen$Display", "readPixels", "(III)V"⟩) ∈ TB := tb_sel (by decide +kernel) (by decide +kernel)
theorem s_18 : (Cond.selects "TileScreen$Display" ⟨"TileScreen$Display", "readColourCount", "()I"⟩ ⟨"TileScreen$Display", "readColourCount", "()I"⟩) ∈ TB := tb_sel (by decide +kernel) (by decide +kernel)
theorem s_19 : (Cond.selects "TileScreen$Display" ⟨"TileScreen$Display", "readRuns", "(I)V"⟩ ⟨"TileScreen$Display", "readRuns", "(I)V"⟩) ∈ TB := tb_sel (by decide +kernel) (by decide +kernel)
theorem s_20 : (Cond.selects "TileScreen$Display" ⟨"TileScreen$Display", "readRaw", "(I)V"⟩ ⟨"TileScreen$Display", "readRaw", "(I)V"⟩) ∈ TB := tb_sel (by decide +kernel) (by decide +kernel)
theorem s_21 : (Cond.selects "java/lang/Throwable" ⟨"java/lang/Throwable", "fillInStackTrace", "(I)Ljava/lang/Throwable;"⟩ ⟨"java/lang/Throwable", "fillInStackTrace", "(I)Ljava/lang/Throwable;"⟩) ∈ TB := tb_sel (by decide +kernel) (by decide +kernel)
theorem s_22 : (Cond.selects "TileScreenModel" ⟨"TileScreenModel", "become", "(II)V"⟩ ⟨"TileScreenModel", "become", "(II)V"⟩) ∈ TB := tb_sel (by decide +kernel) (by decide +kernel)
theorem s_23 : (Cond.selects "TileScreenModel" ⟨"TileScreenModel", "leave", "(I)V"⟩ ⟨"TileScreenModel", "leave", "(I)V"⟩) ∈ TB := tb_sel (by decide +kernel) (by decide +kernel)
theorem s_24 : (Cond.selects "TileScreenModel" ⟨"TileScreenModel", "compose", "(I)V"⟩ ⟨"TileScreenModel", "compose", "(I)V"⟩) ∈ TB := tb_sel (by decide +kernel) (by decide +kernel)
theorem s_25 : (Cond.selects "TileScreenModel" ⟨"TileScreenModel", "send", "(II)V"⟩ ⟨"TileScreenModel", "send", "(II)V"⟩) ∈ TB := tb_sel (by decide +kernel) (by decide +kernel)
theorem s_26 : (Cond.selects "TileScreenModel" ⟨"TileScreenModel", "sameTile", "(IIII)Z"⟩ ⟨"TileScreenModel", "sameTile", "(IIII)Z"⟩) ∈ TB := tb_sel (by decide +kernel) (by decide +kernel)
theorem s_27 : (Cond.selects "TileScreenModel" ⟨"TileScreenModel", "findColours", "()V"⟩ ⟨"TileScreenModel", "findColours", "()V"⟩) ∈ TB := tb_sel (by decide +kernel) (by decide +kernel)
theorem s_28 : (Cond.selects "TileScreenModel" ⟨"TileScreenModel", "numberOf", "(I)I"⟩ ⟨"TileScreenModel", "numberOf", "(I)I"⟩) ∈ TB := tb_sel (by decide +kernel) (by decide +kernel)
theorem s_29 : (Cond.selects "TileScreenModel" ⟨"TileScreenModel", "write", "(III)Z"⟩ ⟨"TileScreenModel", "write", "(III)Z"⟩) ∈ TB := tb_sel (by decide +kernel) (by decide +kernel)
theorem s_30 : (Cond.selects "TileScreenModel" ⟨"TileScreenModel", "put", "(I)V"⟩ ⟨"TileScreenModel", "put", "(I)V"⟩) ∈ TB := tb_sel (by decide +kernel) (by decide +kernel)
theorem s_31 : (Cond.selects "TileScreenModel" ⟨"TileScreenModel", "likeTile", "(I)I"⟩ ⟨"TileScreenModel", "likeTile", "(I)I"⟩) ∈ TB := tb_sel (by decide +kernel) (by decide +kernel)
theorem s_32 : (Cond.selects "TileScreenModel" ⟨"TileScreenModel", "likeEntry", "(I)I"⟩ ⟨"TileScreenModel", "likeEntry", "(I)I"⟩) ∈ TB := tb_sel (by decide +kernel) (by decide +kernel)
theorem s_33 : (Cond.selects "TileScreenModel" ⟨"TileScreenModel", "putTwo", "(I)V"⟩ ⟨"TileScreenModel", "putTwo", "(I)V"⟩) ∈ TB := tb_sel (by decide +kernel) (by decide +kernel)
theorem s_34 : (Cond.selects "TileScreenModel" ⟨"TileScreenModel", "putBits", "(I)V"⟩ ⟨"TileScreenModel", "putBits", "(I)V"⟩) ∈ TB := tb_sel (by decide +kernel) (by decide +kernel)
theorem s_35 : (Cond.selects "TileScreenModel" ⟨"TileScreenModel", "putRuns", "()V"⟩ ⟨"TileScreenModel", "putRuns", "()V"⟩) ∈ TB := tb_sel (by decide +kernel) (by decide +kernel)
theorem s_36 : (Cond.selects "TileScreenModel" ⟨"TileScreenModel", "keep", "(I)V"⟩ ⟨"TileScreenModel", "keep", "(I)V"⟩) ∈ TB := tb_sel (by decide +kernel) (by decide +kernel)
theorem s_37 : (Cond.selects "TileScreenModel" ⟨"TileScreenModel", "take", "(II)Z"⟩ ⟨"TileScreenModel", "take", "(II)Z"⟩) ∈ TB := tb_sel (by decide +kernel) (by decide +kernel)
theorem s_38 : (Cond.selects "TileScreenModel" ⟨"TileScreenModel", "whole", "(I)Z"⟩ ⟨"TileScreenModel", "whole", "(I)Z"⟩) ∈ TB := tb_sel (by decide +kernel) (by decide +kernel)
theorem s_39 : (Cond.selects "TileScreenModel" ⟨"TileScreenModel", "getTwo", "(I)I"⟩ ⟨"TileScreenModel", "getTwo", "(I)I"⟩) ∈ TB := tb_sel (by decide +kernel) (by decide +kernel)
theorem s_40 : (Cond.selects "TileScreenModel" ⟨"TileScreenModel", "get", "(I)I"⟩ ⟨"TileScreenModel", "get", "(I)I"⟩) ∈ TB := tb_sel (by decide +kernel) (by decide +kernel)
theorem s_41 : (Cond.selects "TileScreenModel" ⟨"TileScreenModel", "read", "(II)Z"⟩ ⟨"TileScreenModel", "read", "(II)Z"⟩) ∈ TB := tb_sel (by decide +kernel) (by decide +kernel)
theorem s_42 : (Cond.selects "TileScreenModel" ⟨"TileScreenModel", "readLike", "(III)Z"⟩ ⟨"TileScreenModel", "readLike", "(III)Z"⟩) ∈ TB := tb_sel (by decide +kernel) (by decide +kernel)
theorem s_43 : (Cond.selects "TileScreenModel" ⟨"TileScreenModel", "readRuns", "(I)Z"⟩ ⟨"TileScreenModel", "readRuns", "(I)Z"⟩) ∈ TB := tb_sel (by decide +kernel) (by decide +kernel)
end
section
theorem d_Tiles_init_0 : decode b_Tiles_init 0 = .ok (.aload_n 0, 1) := by decide +kernel
theorem d_Tiles_init_1 : decode b_Tiles_init 1 = .ok (.invokespecial 3, 3) := by decide +kernel
theorem d_Tiles_init_4 : decode b_Tiles_init 4 = .ok (.aload_n 0, 1) := by decide +kernel
theorem d_Tiles_init_5 : decode b_Tiles_init 5 = .ok (.iload_n 1, 1) := by decide +kernel
theorem d_Tiles_init_6 : decode b_Tiles_init 6 = .ok (.putfield 9, 3) := by decide +kernel
theorem d_Tiles_init_9 : decode b_Tiles_init 9 = .ok (.aload_n 0, 1) := by decide +kernel
theorem d_Tiles_init_10 : decode b_Tiles_init 10 = .ok (.iload_n 1, 1) := by decide +kernel
theorem d_Tiles_init_11 : decode b_Tiles_init 11 = .ok (.bipush 64, 2) := by decide +kernel
theorem d_Tiles_init_13 : decode b_Tiles_init 13 = .ok (.imul, 1) := by decide +kernel
theorem d_Tiles_init_14 : decode b_Tiles_init 14 = .ok (.newarray .int, 2) := by decide +kernel
theorem d_Tiles_init_16 : decode b_Tiles_init 16 = .ok (.putfield 15, 3) := by decide +kernel
theorem d_Tiles_init_19 : decode b_Tiles_init 19 = .ok (.return_, 1) := by decide +kernel
theorem d_Tiles_get_0 : decode b_Tiles_get 0 = .ok (.aload_n 0, 1) := by decide +kernel
theorem d_Tiles_get_1 : decode b_Tiles_get 1 = .ok (.getfield 15, 3) := by decide +kernel
theorem d_Tiles_get_4 : decode b_Tiles_get 4 = .ok (.iload_n 1, 1) := by decide +kernel
theorem d_Tiles_get_5 : decode b_Tiles_get 5 = .ok (.bipush 64, 2) := by decide +kernel
theorem d_Tiles_get_7 : decode b_Tiles_get 7 = .ok (.imul, 1) := by decide +kernel
theorem d_Tiles_get_8 : decode b_Tiles_get 8 = .ok (.iload_n 2, 1) := by decide +kernel
theorem d_Tiles_get_9 : decode b_Tiles_get 9 = .ok (.iadd, 1) := by decide +kernel
theorem d_Tiles_get_10 : decode b_Tiles_get 10 = .ok (.iaload, 1) := by decide +kernel
theorem d_Tiles_get_11 : decode b_Tiles_get 11 = .ok (.ireturn, 1) := by decide +kernel
theorem d_Tiles_set_0 : decode b_Tiles_set 0 = .ok (.aload_n 0, 1) := by decide +kernel
theorem d_Tiles_set_1 : decode b_Tiles_set 1 = .ok (.getfield 15, 3) := by decide +kernel
theorem d_Tiles_set_4 : decode b_Tiles_set 4 = .ok (.iload_n 1, 1) := by decide +kernel
theorem d_Tiles_set_5 : decode b_Tiles_set 5 = .ok (.bipush 64, 2) := by decide +kernel
theorem d_Tiles_set_7 : decode b_Tiles_set 7 = .ok (.imul, 1) := by decide +kernel
theorem d_Tiles_set_8 : decode b_Tiles_set 8 = .ok (.iload_n 2, 1) := by decide +kernel
theorem d_Tiles_set_9 : decode b_Tiles_set 9 = .ok (.iadd, 1) := by decide +kernel
theorem d_Tiles_set_10 : decode b_Tiles_set 10 = .ok (.iload_n 3, 1) := by decide +kernel
theorem d_Tiles_set_11 : decode b_Tiles_set 11 = .ok (.iastore, 1) := by decide +kernel
theorem d_Tiles_set_12 : decode b_Tiles_set 12 = .ok (.return_, 1) := by decide +kernel
theorem d_Tiles_take_0 : decode b_Tiles_take 0 = .ok (.aload_n 2, 1) := by decide +kernel
theorem d_Tiles_take_1 : decode b_Tiles_take 1 = .ok (.getfield 15, 3) := by decide +kernel
theorem d_Tiles_take_4 : decode b_Tiles_take 4 = .ok (.iload_n 3, 1) := by decide +kernel
theorem d_Tiles_take_5 : decode b_Tiles_take 5 = .ok (.bipush 64, 2) := by decide +kernel
theorem d_Tiles_take_7 : decode b_Tiles_take 7 = .ok (.imul, 1) := by decide +kernel
theorem d_Tiles_take_8 : decode b_Tiles_take 8 = .ok (.aload_n 0, 1) := by decide +kernel
theorem d_Tiles_take_9 : decode b_Tiles_take 9 = .ok (.getfield 15, 3) := by decide +kernel
theorem d_Tiles_take_12 : decode b_Tiles_take 12 = .ok (.iload_n 1, 1) := by decide +kernel
theorem d_Tiles_take_13 : decode b_Tiles_take 13 = .ok (.bipush 64, 2) := by decide +kernel
theorem d_Tiles_take_15 : decode b_Tiles_take 15 = .ok (.imul, 1) := by decide +kernel
theorem d_Tiles_take_16 : decode b_Tiles_take 16 = .ok (.bipush 64, 2) := by decide +kernel
theorem d_Tiles_take_18 : decode b_Tiles_take 18 = .ok (.invokestatic 19, 3) := by decide +kernel
theorem d_Tiles_take_21 : decode b_Tiles_take 21 = .ok (.return_, 1) := by decide +kernel
theorem d_Tiles_takeAll_0 : decode b_Tiles_takeAll 0 = .ok (.aload_n 1, 1) := by decide +kernel
theorem d_Tiles_takeAll_1 : decode b_Tiles_takeAll 1 = .ok (.getfield 15, 3) := by decide +kernel
theorem d_Tiles_takeAll_4 : decode b_Tiles_takeAll 4 = .ok (.iconst 0, 1) := by decide +kernel
theorem d_Tiles_takeAll_5 : decode b_Tiles_takeAll 5 = .ok (.aload_n 0, 1) := by decide +kernel
theorem d_Tiles_takeAll_6 : decode b_Tiles_takeAll 6 = .ok (.getfield 15, 3) := by decide +kernel
theorem d_Tiles_takeAll_9 : decode b_Tiles_takeAll 9 = .ok (.iconst 0, 1) := by decide +kernel
theorem d_Tiles_takeAll_10 : decode b_Tiles_takeAll 10 = .ok (.aload_n 0, 1) := by decide +kernel
theorem d_Tiles_takeAll_11 : decode b_Tiles_takeAll 11 = .ok (.getfield 15, 3) := by decide +kernel
theorem d_Tiles_takeAll_14 : decode b_Tiles_takeAll 14 = .ok (.arraylength, 1) := by decide +kernel
theorem d_Tiles_takeAll_15 : decode b_Tiles_takeAll 15 = .ok (.invokestatic 19, 3) := by decide +kernel
theorem d_Tiles_takeAll_18 : decode b_Tiles_takeAll 18 = .ok (.return_, 1) := by decide +kernel
theorem d_Tiles_isSame_0 : decode b_Tiles_isSame 0 = .ok (.iload_n 1, 1) := by decide +kernel
theorem d_Tiles_isSame_1 : decode b_Tiles_isSame 1 = .ok (.bipush 64, 2) := by decide +kernel
theorem d_Tiles_isSame_3 : decode b_Tiles_isSame 3 = .ok (.imul, 1) := by decide +kernel
theorem d_Tiles_isSame_4 : decode b_Tiles_isSame 4 = .ok (.istore 4, 2) := by decide +kernel
theorem d_Tiles_isSame_6 : decode b_Tiles_isSame 6 = .ok (.iload_n 3, 1) := by decide +kernel
theorem d_Tiles_isSame_7 : decode b_Tiles_isSame 7 = .ok (.bipush 64, 2) := by decide +kernel
theorem d_Tiles_isSame_9 : decode b_Tiles_isSame 9 = .ok (.imul, 1) := by decide +kernel
theorem d_Tiles_isSame_10 : decode b_Tiles_isSame 10 = .ok (.istore 5, 2) := by decide +kernel
theorem d_Tiles_isSame_12 : decode b_Tiles_isSame 12 = .ok (.iconst 0, 1) := by decide +kernel
theorem d_Tiles_isSame_13 : decode b_Tiles_isSame 13 = .ok (.istore 6, 2) := by decide +kernel
theorem d_Tiles_isSame_15 : decode b_Tiles_isSame 15 = .ok (.iload 6, 2) := by decide +kernel
theorem d_Tiles_isSame_17 : decode b_Tiles_isSame 17 = .ok (.bipush 64, 2) := by decide +kernel
theorem d_Tiles_isSame_19 : decode b_Tiles_isSame 19 = .ok (.if_icmp .ge 34, 3) := by decide +kernel
theorem d_Tiles_isSame_22 : decode b_Tiles_isSame 22 = .ok (.aload_n 0, 1) := by decide +kernel
theorem d_Tiles_isSame_23 : decode b_Tiles_isSame 23 = .ok (.getfield 15, 3) := by decide +kernel
theorem d_Tiles_isSame_26 : decode b_Tiles_isSame 26 = .ok (.iload 4, 2) := by decide +kernel
theorem d_Tiles_isSame_28 : decode b_Tiles_isSame 28 = .ok (.iload 6, 2) := by decide +kernel
theorem d_Tiles_isSame_30 : decode b_Tiles_isSame 30 = .ok (.iadd, 1) := by decide +kernel
theorem d_Tiles_isSame_31 : decode b_Tiles_isSame 31 = .ok (.iaload, 1) := by decide +kernel
theorem d_Tiles_isSame_32 : decode b_Tiles_isSame 32 = .ok (.aload_n 2, 1) := by decide +kernel
theorem d_Tiles_isSame_33 : decode b_Tiles_isSame 33 = .ok (.getfield 15, 3) := by decide +kernel
theorem d_Tiles_isSame_36 : decode b_Tiles_isSame 36 = .ok (.iload 5, 2) := by decide +kernel
theorem d_Tiles_isSame_38 : decode b_Tiles_isSame 38 = .ok (.iload 6, 2) := by decide +kernel
theorem d_Tiles_isSame_40 : decode b_Tiles_isSame 40 = .ok (.iadd, 1) := by decide +kernel
theorem d_Tiles_isSame_41 : decode b_Tiles_isSame 41 = .ok (.iaload, 1) := by decide +kernel
theorem d_Tiles_isSame_42 : decode b_Tiles_isSame 42 = .ok (.if_icmp .eq 5, 3) := by decide +kernel
theorem d_Tiles_isSame_45 : decode b_Tiles_isSame 45 = .ok (.iconst 0, 1) := by decide +kernel
theorem d_Tiles_isSame_46 : decode b_Tiles_isSame 46 = .ok (.ireturn, 1) := by decide +kernel
theorem d_Tiles_isSame_47 : decode b_Tiles_isSame 47 = .ok (.iinc 6 1, 3) := by decide +kernel
theorem d_Tiles_isSame_50 : decode b_Tiles_isSame 50 = .ok (.goto (-35), 3) := by decide +kernel
theorem d_Tiles_isSame_53 : decode b_Tiles_isSame 53 = .ok (.iconst 1, 1) := by decide +kernel
theorem d_Tiles_isSame_54 : decode b_Tiles_isSame 54 = .ok (.ireturn, 1) := by decide +kernel
theorem d_Tiles_find_0 : decode b_Tiles_find 0 = .ok (.iconst 0, 1) := by decide +kernel
theorem d_Tiles_find_1 : decode b_Tiles_find 1 = .ok (.istore 4, 2) := by decide +kernel
theorem d_Tiles_find_3 : decode b_Tiles_find 3 = .ok (.iload 4, 2) := by decide +kernel
theorem d_Tiles_find_5 : decode b_Tiles_find 5 = .ok (.iload_n 1, 1) := by decide +kernel
theorem d_Tiles_find_6 : decode b_Tiles_find 6 = .ok (.if_icmp .ge 23, 3) := by decide +kernel
theorem d_Tiles_find_9 : decode b_Tiles_find 9 = .ok (.aload_n 0, 1) := by decide +kernel
theorem d_Tiles_find_10 : decode b_Tiles_find 10 = .ok (.iload 4, 2) := by decide +kernel
theorem d_Tiles_find_12 : decode b_Tiles_find 12 = .ok (.aload_n 2, 1) := by decide +kernel
theorem d_Tiles_find_13 : decode b_Tiles_find 13 = .ok (.iload_n 3, 1) := by decide +kernel
theorem d_Tiles_find_14 : decode b_Tiles_find 14 = .ok (.invokevirtual 25, 3) := by decide +kernel
theorem d_Tiles_find_17 : decode b_Tiles_find 17 = .ok (.ifCond .eq 6, 3) := by decide +kernel
theorem d_Tiles_find_20 : decode b_Tiles_find 20 = .ok (.iload 4, 2) := by decide +kernel
theorem d_Tiles_find_22 : decode b_Tiles_find 22 = .ok (.ireturn, 1) := by decide +kernel
theorem d_Tiles_find_23 : decode b_Tiles_find 23 = .ok (.iinc 4 1, 3) := by decide +kernel
theorem d_Tiles_find_26 : decode b_Tiles_find 26 = .ok (.goto (-23), 3) := by decide +kernel
theorem d_Tiles_find_29 : decode b_Tiles_find 29 = .ok (.iconst (-1), 1) := by decide +kernel
theorem d_Tiles_find_30 : decode b_Tiles_find 30 = .ok (.ireturn, 1) := by decide +kernel
theorem d_Tiles_countOther_0 : decode b_Tiles_countOther 0 = .ok (.iconst 0, 1) := by decide +kernel
theorem d_Tiles_countOther_1 : decode b_Tiles_countOther 1 = .ok (.istore_n 2, 1) := by decide +kernel
theorem d_Tiles_countOther_2 : decode b_Tiles_countOther 2 = .ok (.iconst 0, 1) := by decide +kernel
theorem d_Tiles_countOther_3 : decode b_Tiles_countOther 3 = .ok (.istore_n 3, 1) := by decide +kernel
theorem d_Tiles_countOther_4 : decode b_Tiles_countOther 4 = .ok (.iload_n 3, 1) := by decide +kernel
theorem d_Tiles_countOther_5 : decode b_Tiles_countOther 5 = .ok (.aload_n 0, 1) := by decide +kernel
theorem d_Tiles_countOther_6 : decode b_Tiles_countOther 6 = .ok (.getfield 9, 3) := by decide +kernel
theorem d_Tiles_countOther_9 : decode b_Tiles_countOther 9 = .ok (.if_icmp .ge 22, 3) := by decide +kernel
theorem d_Tiles_countOther_12 : decode b_Tiles_countOther 12 = .ok (.aload_n 0, 1) := by decide +kernel
theorem d_Tiles_countOther_13 : decode b_Tiles_countOther 13 = .ok (.iload_n 3, 1) := by decide +kernel
theorem d_Tiles_countOther_14 : decode b_Tiles_countOther 14 = .ok (.aload_n 1, 1) := by decide +kernel
theorem d_Tiles_countOther_15 : decode b_Tiles_countOther 15 = .ok (.iload_n 3, 1) := by decide +kernel
theorem d_Tiles_countOther_16 : decode b_Tiles_countOther 16 = .ok (.invokevirtual 25, 3) := by decide +kernel
theorem d_Tiles_countOther_19 : decode b_Tiles_countOther 19 = .ok (.ifCond .ne 6, 3) := by decide +kernel
theorem d_Tiles_countOther_22 : decode b_Tiles_countOther 22 = .ok (.iinc 2 1, 3) := by decide +kernel
theorem d_Tiles_countOther_25 : decode b_Tiles_countOther 25 = .ok (.iinc 3 1, 3) := by decide +kernel
theorem d_Tiles_countOther_28 : decode b_Tiles_countOther 28 = .ok (.goto (-24), 3) := by decide +kernel
theorem d_Tiles_countOther_31 : decode b_Tiles_countOther 31 = .ok (.iload_n 2, 1) := by decide +kernel
theorem d_Tiles_countOther_32 : decode b_Tiles_countOther 32 = .ok (.ireturn, 1) := by decide +kernel
theorem d_Cache_init_0 : decode b_Cache_init 0 = .ok (.aload_n 0, 1) := by decide +kernel
theorem d_Cache_init_1 : decode b_Cache_init 1 = .ok (.invokespecial 3, 3) := by decide +kernel
theorem d_Cache_init_4 : decode b_Cache_init 4 = .ok (.aload_n 0, 1) := by decide +kernel
theorem d_Cache_init_5 : decode b_Cache_init 5 = .ok (.new 9, 3) := by decide +kernel
theorem d_Cache_init_8 : decode b_Cache_init 8 = .ok (.dup, 1) := by decide +kernel
theorem d_Cache_init_9 : decode b_Cache_init 9 = .ok (.bipush 16, 2) := by decide +kernel
theorem d_Cache_init_11 : decode b_Cache_init 11 = .ok (.invokespecial 11, 3) := by decide +kernel
theorem d_Cache_init_14 : decode b_Cache_init 14 = .ok (.putfield 14, 3) := by decide +kernel
theorem d_Cache_init_17 : decode b_Cache_init 17 = .ok (.return_, 1) := by decide +kernel
theorem d_Cache_clear_0 : decode b_Cache_clear 0 = .ok (.aload_n 0, 1) := by decide +kernel
theorem d_Cache_clear_1 : decode b_Cache_clear 1 = .ok (.iconst 0, 1) := by decide +kernel
theorem d_Cache_clear_2 : decode b_Cache_clear 2 = .ok (.putfield 20, 3) := by decide +kernel
theorem d_Cache_clear_5 : decode b_Cache_clear 5 = .ok (.aload_n 0, 1) := by decide +kernel
theorem d_Cache_clear_6 : decode b_Cache_clear 6 = .ok (.iconst 0, 1) := by decide +kernel
theorem d_Cache_clear_7 : decode b_Cache_clear 7 = .ok (.putfield 24, 3) := by decide +kernel
theorem d_Cache_clear_10 : decode b_Cache_clear 10 = .ok (.return_, 1) := by decide +kernel
theorem d_Cache_put_0 : decode b_Cache_put 0 = .ok (.aload_n 0, 1) := by decide +kernel
theorem d_Cache_put_1 : decode b_Cache_put 1 = .ok (.getfield 14, 3) := by decide +kernel
theorem d_Cache_put_4 : decode b_Cache_put 4 = .ok (.aload_n 0, 1) := by decide +kernel
theorem d_Cache_put_5 : decode b_Cache_put 5 = .ok (.getfield 20, 3) := by decide +kernel
theorem d_Cache_put_8 : decode b_Cache_put 8 = .ok (.aload_n 1, 1) := by decide +kernel
theorem d_Cache_put_9 : decode b_Cache_put 9 = .ok (.iload_n 2, 1) := by decide +kernel
theorem d_Cache_put_10 : decode b_Cache_put 10 = .ok (.invokevirtual 27, 3) := by decide +kernel
theorem d_Cache_put_13 : decode b_Cache_put 13 = .ok (.aload_n 0, 1) := by decide +kernel
theorem d_Cache_put_14 : decode b_Cache_put 14 = .ok (.aload_n 0, 1) := by decide +kernel
theorem d_Cache_put_15 : decode b_Cache_put 15 = .ok (.getfield 24, 3) := by decide +kernel
theorem d_Cache_put_18 : decode b_Cache_put 18 = .ok (.aload_n 0, 1) := by decide +kernel
theorem d_Cache_put_19 : decode b_Cache_put 19 = .ok (.getfield 20, 3) := by decide +kernel
theorem d_Cache_put_22 : decode b_Cache_put 22 = .ok (.iconst 1, 1) := by decide +kernel
theorem d_Cache_put_23 : decode b_Cache_put 23 = .ok (.iadd, 1) := by decide +kernel
theorem d_Cache_put_24 : decode b_Cache_put 24 = .ok (.invokestatic 31, 3) := by decide +kernel
theorem d_Cache_put_27 : decode b_Cache_put 27 = .ok (.putfield 24, 3) := by decide +kernel
theorem d_Cache_put_30 : decode b_Cache_put 30 = .ok (.aload_n 0, 1) := by decide +kernel
theorem d_Cache_put_31 : decode b_Cache_put 31 = .ok (.aload_n 0, 1) := by decide +kernel
theorem d_Cache_put_32 : decode b_Cache_put 32 = .ok (.getfield 20, 3) := by decide +kernel
theorem d_Cache_put_35 : decode b_Cache_put 35 = .ok (.iconst 1, 1) := by decide +kernel
theorem d_Cache_put_36 : decode b_Cache_put 36 = .ok (.iadd, 1) := by decide +kernel
theorem d_Cache_put_37 : decode b_Cache_put 37 = .ok (.bipush 16, 2) := by decide +kernel
theorem d_Cache_put_39 : decode b_Cache_put 39 = .ok (.irem, 1) := by decide +kernel
theorem d_Cache_put_40 : decode b_Cache_put 40 = .ok (.putfield 20, 3) := by decide +kernel
theorem d_Cache_put_43 : decode b_Cache_put 43 = .ok (.return_, 1) := by decide +kernel
theorem d_Line_init_0 : decode b_Line_init 0 = .ok (.aload_n 0, 1) := by decide +kernel
theorem d_Line_init_1 : decode b_Line_init 1 = .ok (.invokespecial 3, 3) := by decide +kernel
theorem d_Line_init_4 : decode b_Line_init 4 = .ok (.aload_n 0, 1) := by decide +kernel
theorem d_Line_init_5 : decode b_Line_init 5 = .ok (.sipush 6247, 3) := by decide +kernel
theorem d_Line_init_8 : decode b_Line_init 8 = .ok (.newarray .int, 2) := by decide +kernel
theorem d_Line_init_10 : decode b_Line_init 10 = .ok (.putfield 9, 3) := by decide +kernel
theorem d_Line_init_13 : decode b_Line_init 13 = .ok (.return_, 1) := by decide +kernel
theorem d_Line_clear_0 : decode b_Line_clear 0 = .ok (.aload_n 0, 1) := by decide +kernel
theorem d_Line_clear_1 : decode b_Line_clear 1 = .ok (.iconst 0, 1) := by decide +kernel
theorem d_Line_clear_2 : decode b_Line_clear 2 = .ok (.putfield 15, 3) := by decide +kernel
theorem d_Line_clear_5 : decode b_Line_clear 5 = .ok (.aload_n 0, 1) := by decide +kernel
theorem d_Line_clear_6 : decode b_Line_clear 6 = .ok (.iconst 0, 1) := by decide +kernel
theorem d_Line_clear_7 : decode b_Line_clear 7 = .ok (.putfield 19, 3) := by decide +kernel
theorem d_Line_clear_10 : decode b_Line_clear 10 = .ok (.return_, 1) := by decide +kernel
theorem d_Line_add_0 : decode b_Line_add 0 = .ok (.aload_n 0, 1) := by decide +kernel
theorem d_Line_add_1 : decode b_Line_add 1 = .ok (.getfield 15, 3) := by decide +kernel
theorem d_Line_add_4 : decode b_Line_add 4 = .ok (.aload_n 0, 1) := by decide +kernel
theorem d_Line_add_5 : decode b_Line_add 5 = .ok (.getfield 19, 3) := by decide +kernel
theorem d_Line_add_8 : decode b_Line_add 8 = .ok (.iadd, 1) := by decide +kernel
theorem d_Line_add_9 : decode b_Line_add 9 = .ok (.aload_n 0, 1) := by decide +kernel
theorem d_Line_add_10 : decode b_Line_add 10 = .ok (.getfield 9, 3) := by decide +kernel
theorem d_Line_add_13 : decode b_Line_add 13 = .ok (.arraylength, 1) := by decide +kernel
theorem d_Line_add_14 : decode b_Line_add 14 = .ok (.if_icmp .ge 28, 3) := by decide +kernel
theorem d_Line_add_17 : decode b_Line_add 17 = .ok (.aload_n 0, 1) := by decide +kernel
theorem d_Line_add_18 : decode b_Line_add 18 = .ok (.getfield 9, 3) := by decide +kernel
theorem d_Line_add_21 : decode b_Line_add 21 = .ok (.aload_n 0, 1) := by decide +kernel
theorem d_Line_add_22 : decode b_Line_add 22 = .ok (.getfield 15, 3) := by decide +kernel
theorem d_Line_add_25 : decode b_Line_add 25 = .ok (.aload_n 0, 1) := by decide +kernel
theorem d_Line_add_26 : decode b_Line_add 26 = .ok (.getfield 19, 3) := by decide +kernel
theorem d_Line_add_29 : decode b_Line_add 29 = .ok (.iadd, 1) := by decide +kernel
theorem d_Line_add_30 : decode b_Line_add 30 = .ok (.iload_n 1, 1) := by decide +kernel
theorem d_Line_add_31 : decode b_Line_add 31 = .ok (.iastore, 1) := by decide +kernel
theorem d_Line_add_32 : decode b_Line_add 32 = .ok (.aload_n 0, 1) := by decide +kernel
theorem d_Line_add_33 : decode b_Line_add 33 = .ok (.dup, 1) := by decide +kernel
theorem d_Line_add_34 : decode b_Line_add 34 = .ok (.getfield 19, 3) := by decide +kernel
theorem d_Line_add_37 : decode b_Line_add 37 = .ok (.iconst 1, 1) := by decide +kernel
theorem d_Line_add_38 : decode b_Line_add 38 = .ok (.iadd, 1) := by decide +kernel
theorem d_Line_add_39 : decode b_Line_add 39 = .ok (.putfield 19, 3) := by decide +kernel
theorem d_Line_add_42 : decode b_Line_add 42 = .ok (.return_, 1) := by decide +kernel
theorem d_Line_addPair_0 : decode b_Line_addPair 0 = .ok (.aload_n 0, 1) := by decide +kernel
theorem d_Line_addPair_1 : decode b_Line_addPair 1 = .ok (.iload_n 1, 1) := by decide +kernel
theorem d_Line_addPair_2 : decode b_Line_addPair 2 = .ok (.bipush 8, 2) := by decide +kernel
theorem d_Line_addPair_4 : decode b_Line_addPair 4 = .ok (.ishr, 1) := by decide +kernel
theorem d_Line_addPair_5 : decode b_Line_addPair 5 = .ok (.sipush 255, 3) := by decide +kernel
theorem d_Line_addPair_8 : decode b_Line_addPair 8 = .ok (.iand, 1) := by decide +kernel
theorem d_Line_addPair_9 : decode b_Line_addPair 9 = .ok (.invokevirtual 22, 3) := by decide +kernel
theorem d_Line_addPair_12 : decode b_Line_addPair 12 = .ok (.aload_n 0, 1) := by decide +kernel
theorem d_Line_addPair_13 : decode b_Line_addPair 13 = .ok (.iload_n 1, 1) := by decide +kernel
theorem d_Line_addPair_14 : decode b_Line_addPair 14 = .ok (.sipush 255, 3) := by decide +kernel
theorem d_Line_addPair_17 : decode b_Line_addPair 17 = .ok (.iand, 1) := by decide +kernel
theorem d_Line_addPair_18 : decode b_Line_addPair 18 = .ok (.invokevirtual 22, 3) := by decide +kernel
theorem d_Line_addPair_21 : decode b_Line_addPair 21 = .ok (.return_, 1) := by decide +kernel
theorem d_Line_set_0 : decode b_Line_set 0 = .ok (.iload_n 1, 1) := by decide +kernel
theorem d_Line_set_1 : decode b_Line_set 1 = .ok (.ifCond .lt 23, 3) := by decide +kernel
theorem d_Line_set_4 : decode b_Line_set 4 = .ok (.iload_n 1, 1) := by decide +kernel
theorem d_Line_set_5 : decode b_Line_set 5 = .ok (.aload_n 0, 1) := by decide +kernel
theorem d_Line_set_6 : decode b_Line_set 6 = .ok (.getfield 19, 3) := by decide +kernel
theorem d_Line_set_9 : decode b_Line_set 9 = .ok (.if_icmp .ge 15, 3) := by decide +kernel
theorem d_Line_set_12 : decode b_Line_set 12 = .ok (.aload_n 0, 1) := by decide +kernel
theorem d_Line_set_13 : decode b_Line_set 13 = .ok (.getfield 9, 3) := by decide +kernel
theorem d_Line_set_16 : decode b_Line_set 16 = .ok (.aload_n 0, 1) := by decide +kernel
theorem d_Line_set_17 : decode b_Line_set 17 = .ok (.getfield 15, 3) := by decide +kernel
theorem d_Line_set_20 : decode b_Line_set 20 = .ok (.iload_n 1, 1) := by decide +kernel
theorem d_Line_set_21 : decode b_Line_set 21 = .ok (.iadd, 1) := by decide +kernel
theorem d_Line_set_22 : decode b_Line_set 22 = .ok (.iload_n 2, 1) := by decide +kernel
theorem d_Line_set_23 : decode b_Line_set 23 = .ok (.iastore, 1) := by decide +kernel
theorem d_Line_set_24 : decode b_Line_set 24 = .ok (.return_, 1) := by decide +kernel
theorem d_Line_get_0 : decode b_Line_get 0 = .ok (.iload_n 1, 1) := by decide +kernel
theorem d_Line_get_1 : decode b_Line_get 1 = .ok (.ifCond .lt 25, 3) := by decide +kernel
theorem d_Line_get_4 : decode b_Line_get 4 = .ok (.iload_n 1, 1) := by decide +kernel
theorem d_Line_get_5 : decode b_Line_get 5 = .ok (.aload_n 0, 1) := by decide +kernel
theorem d_Line_get_6 : decode b_Line_get 6 = .ok (.getfield 19, 3) := by decide +kernel
theorem d_Line_get_9 : decode b_Line_get 9 = .ok (.if_icmp .ge 17, 3) := by decide +kernel
theorem d_Line_get_12 : decode b_Line_get 12 = .ok (.aload_n 0, 1) := by decide +kernel
theorem d_Line_get_13 : decode b_Line_get 13 = .ok (.getfield 9, 3) := by decide +kernel
theorem d_Line_get_16 : decode b_Line_get 16 = .ok (.aload_n 0, 1) := by decide +kernel
theorem d_Line_get_17 : decode b_Line_get 17 = .ok (.getfield 15, 3) := by decide +kernel
theorem d_Line_get_20 : decode b_Line_get 20 = .ok (.iload_n 1, 1) := by decide +kernel
theorem d_Line_get_21 : decode b_Line_get 21 = .ok (.iadd, 1) := by decide +kernel
theorem d_Line_get_22 : decode b_Line_get 22 = .ok (.iaload, 1) := by decide +kernel
theorem d_Line_get_23 : decode b_Line_get 23 = .ok (.goto 4, 3) := by decide +kernel
theorem d_Line_get_26 : decode b_Line_get 26 = .ok (.iconst (-1), 1) := by decide +kernel
theorem d_Line_get_27 : decode b_Line_get 27 = .ok (.ireturn, 1) := by decide +kernel
theorem d_Line_removeFirst_0 : decode b_Line_removeFirst 0 = .ok (.aload_n 0, 1) := by decide +kernel
theorem d_Line_removeFirst_1 : decode b_Line_removeFirst 1 = .ok (.getfield 19, 3) := by decide +kernel
theorem d_Line_removeFirst_4 : decode b_Line_removeFirst 4 = .ok (.ifCond .ne 5, 3) := by decide +kernel
theorem d_Line_removeFirst_7 : decode b_Line_removeFirst 7 = .ok (.iconst (-1), 1) := by decide +kernel
theorem d_Line_removeFirst_8 : decode b_Line_removeFirst 8 = .ok (.ireturn, 1) := by decide +kernel
theorem d_Line_removeFirst_9 : decode b_Line_removeFirst 9 = .ok (.aload_n 0, 1) := by decide +kernel
theorem d_Line_removeFirst_10 : decode b_Line_removeFirst 10 = .ok (.getfield 9, 3) := by decide +kernel
theorem d_Line_removeFirst_13 : decode b_Line_removeFirst 13 = .ok (.aload_n 0, 1) := by decide +kernel
theorem d_Line_removeFirst_14 : decode b_Line_removeFirst 14 = .ok (.getfield 15, 3) := by decide +kernel
theorem d_Line_removeFirst_17 : decode b_Line_removeFirst 17 = .ok (.iaload, 1) := by decide +kernel
theorem d_Line_removeFirst_18 : decode b_Line_removeFirst 18 = .ok (.istore_n 1, 1) := by decide +kernel
theorem d_Line_removeFirst_19 : decode b_Line_removeFirst 19 = .ok (.aload_n 0, 1) := by decide +kernel
theorem d_Line_removeFirst_20 : decode b_Line_removeFirst 20 = .ok (.dup, 1) := by decide +kernel
theorem d_Line_removeFirst_21 : decode b_Line_removeFirst 21 = .ok (.getfield 15, 3) := by decide +kernel
theorem d_Line_removeFirst_24 : decode b_Line_removeFirst 24 = .ok (.iconst 1, 1) := by decide +kernel
theorem d_Line_removeFirst_25 : decode b_Line_removeFirst 25 = .ok (.iadd, 1) := by decide +kernel
theorem d_Line_removeFirst_26 : decode b_Line_removeFirst 26 = .ok (.putfield 15, 3) := by decide +kernel
theorem d_Line_removeFirst_29 : decode b_Line_removeFirst 29 = .ok (.aload_n 0, 1) := by decide +kernel
theorem d_Line_removeFirst_30 : decode b_Line_removeFirst 30 = .ok (.dup, 1) := by decide +kernel
theorem d_Line_removeFirst_31 : decode b_Line_removeFirst 31 = .ok (.getfield 19, 3) := by decide +kernel
theorem d_Line_removeFirst_34 : decode b_Line_removeFirst 34 = .ok (.iconst 1, 1) := by decide +kernel
theorem d_Line_removeFirst_35 : decode b_Line_removeFirst 35 = .ok (.isub, 1) := by decide +kernel
theorem d_Line_removeFirst_36 : decode b_Line_removeFirst 36 = .ok (.putfield 19, 3) := by decide +kernel
theorem d_Line_removeFirst_39 : decode b_Line_removeFirst 39 = .ok (.iload_n 1, 1) := by decide +kernel
theorem d_Line_removeFirst_40 : decode b_Line_removeFirst 40 = .ok (.ireturn, 1) := by decide +kernel
theorem d_Poisons_init_0 : decode b_Poisons_init 0 = .ok (.aload_n 0, 1) := by decide +kernel
theorem d_Poisons_init_1 : decode b_Poisons_init 1 = .ok (.invokespecial 3, 3) := by decide +kernel
theorem d_Poisons_init_4 : decode b_Poisons_init 4 = .ok (.aload_n 0, 1) := by decide +kernel
theorem d_Poisons_init_5 : decode b_Poisons_init 5 = .ok (.bipush 8, 2) := by decide +kernel
theorem d_Poisons_init_7 : decode b_Poisons_init 7 = .ok (.newarray .int, 2) := by decide +kernel
theorem d_Poisons_init_9 : decode b_Poisons_init 9 = .ok (.putfield 9, 3) := by decide +kernel
theorem d_Poisons_init_12 : decode b_Poisons_init 12 = .ok (.aload_n 0, 1) := by decide +kernel
theorem d_Poisons_init_13 : decode b_Poisons_init 13 = .ok (.bipush 8, 2) := by decide +kernel
theorem d_Poisons_init_15 : decode b_Poisons_init 15 = .ok (.newarray .int, 2) := by decide +kernel
theorem d_Poisons_init_17 : decode b_Poisons_init 17 = .ok (.putfield 15, 3) := by decide +kernel
theorem d_Poisons_init_20 : decode b_Poisons_init 20 = .ok (.return_, 1) := by decide +kernel
theorem d_Poisons_add_0 : decode b_Poisons_add 0 = .ok (.aload_n 0, 1) := by decide +kernel
theorem d_Poisons_add_1 : decode b_Poisons_add 1 = .ok (.getfield 18, 3) := by decide +kernel
theorem d_Poisons_add_4 : decode b_Poisons_add 4 = .ok (.bipush 8, 2) := by decide +kernel
theorem d_Poisons_add_6 : decode b_Poisons_add 6 = .ok (.if_icmp .ge 13, 3) := by decide +kernel
theorem d_Poisons_add_9 : decode b_Poisons_add 9 = .ok (.aload_n 0, 1) := by decide +kernel
theorem d_Poisons_add_10 : decode b_Poisons_add 10 = .ok (.dup, 1) := by decide +kernel
theorem d_Poisons_add_11 : decode b_Poisons_add 11 = .ok (.getfield 18, 3) := by decide +kernel
theorem d_Poisons_add_14 : decode b_Poisons_add 14 = .ok (.iconst 1, 1) := by decide +kernel
theorem d_Poisons_add_15 : decode b_Poisons_add 15 = .ok (.iadd, 1) := by decide +kernel
theorem d_Poisons_add_16 : decode b_Poisons_add 16 = .ok (.putfield 18, 3) := by decide +kernel
theorem d_Poisons_add_19 : decode b_Poisons_add 19 = .ok (.aload_n 0, 1) := by decide +kernel
theorem d_Poisons_add_20 : decode b_Poisons_add 20 = .ok (.getfield 9, 3) := by decide +kernel
theorem d_Poisons_add_23 : decode b_Poisons_add 23 = .ok (.aload_n 0, 1) := by decide +kernel
theorem d_Poisons_add_24 : decode b_Poisons_add 24 = .ok (.getfield 18, 3) := by decide +kernel
theorem d_Poisons_add_27 : decode b_Poisons_add 27 = .ok (.iconst 1, 1) := by decide +kernel
theorem d_Poisons_add_28 : decode b_Poisons_add 28 = .ok (.isub, 1) := by decide +kernel
theorem d_Poisons_add_29 : decode b_Poisons_add 29 = .ok (.iload_n 1, 1) := by decide +kernel
theorem d_Poisons_add_30 : decode b_Poisons_add 30 = .ok (.iastore, 1) := by decide +kernel
theorem d_Poisons_add_31 : decode b_Poisons_add 31 = .ok (.aload_n 0, 1) := by decide +kernel
theorem d_Poisons_add_32 : decode b_Poisons_add 32 = .ok (.getfield 15, 3) := by decide +kernel
theorem d_Poisons_add_35 : decode b_Poisons_add 35 = .ok (.aload_n 0, 1) := by decide +kernel
theorem d_Poisons_add_36 : decode b_Poisons_add 36 = .ok (.getfield 18, 3) := by decide +kernel
theorem d_Poisons_add_39 : decode b_Poisons_add 39 = .ok (.iconst 1, 1) := by decide +kernel
theorem d_Poisons_add_40 : decode b_Poisons_add 40 = .ok (.isub, 1) := by decide +kernel
theorem d_Poisons_add_41 : decode b_Poisons_add 41 = .ok (.iload_n 2, 1) := by decide +kernel
theorem d_Poisons_add_42 : decode b_Poisons_add 42 = .ok (.iastore, 1) := by decide +kernel
theorem d_Poisons_add_43 : decode b_Poisons_add 43 = .ok (.return_, 1) := by decide +kernel
theorem d_Poisons_spoil_0 : decode b_Poisons_spoil 0 = .ok (.iload_n 1, 1) := by decide +kernel
theorem d_Poisons_spoil_1 : decode b_Poisons_spoil 1 = .ok (.istore_n 2, 1) := by decide +kernel
theorem d_Poisons_spoil_2 : decode b_Poisons_spoil 2 = .ok (.iconst 0, 1) := by decide +kernel
theorem d_Poisons_spoil_3 : decode b_Poisons_spoil 3 = .ok (.istore_n 3, 1) := by decide +kernel
theorem d_Poisons_spoil_4 : decode b_Poisons_spoil 4 = .ok (.iconst 0, 1) := by decide +kernel
theorem d_Poisons_spoil_5 : decode b_Poisons_spoil 5 = .ok (.istore 4, 2) := by decide +kernel
theorem d_Poisons_spoil_7 : decode b_Poisons_spoil 7 = .ok (.iload 4, 2) := by decide +kernel
theorem d_Poisons_spoil_9 : decode b_Poisons_spoil 9 = .ok (.aload_n 0, 1) := by decide +kernel
theorem d_Poisons_spoil_10 : decode b_Poisons_spoil 10 = .ok (.getfield 18, 3) := by decide +kernel
theorem d_Poisons_spoil_13 : decode b_Poisons_spoil 13 = .ok (.if_icmp .ge 64, 3) := by decide +kernel
theorem d_Poisons_spoil_16 : decode b_Poisons_spoil 16 = .ok (.aload_n 0, 1) := by decide +kernel
theorem d_Poisons_spoil_17 : decode b_Poisons_spoil 17 = .ok (.getfield 9, 3) := by decide +kernel
theorem d_Poisons_spoil_20 : decode b_Poisons_spoil 20 = .ok (.iload 4, 2) := by decide +kernel
theorem d_Poisons_spoil_22 : decode b_Poisons_spoil 22 = .ok (.iaload, 1) := by decide +kernel
theorem d_Poisons_spoil_23 : decode b_Poisons_spoil 23 = .ok (.iconst 1, 1) := by decide +kernel
theorem d_Poisons_spoil_24 : decode b_Poisons_spoil 24 = .ok (.if_icmp .ne 16, 3) := by decide +kernel
theorem d_Poisons_spoil_27 : decode b_Poisons_spoil 27 = .ok (.iload_n 2, 1) := by decide +kernel
theorem d_Poisons_spoil_28 : decode b_Poisons_spoil 28 = .ok (.aload_n 0, 1) := by decide +kernel
theorem d_Poisons_spoil_29 : decode b_Poisons_spoil 29 = .ok (.getfield 15, 3) := by decide +kernel
theorem d_Poisons_spoil_32 : decode b_Poisons_spoil 32 = .ok (.iload 4, 2) := by decide +kernel
theorem d_Poisons_spoil_34 : decode b_Poisons_spoil 34 = .ok (.iaload, 1) := by decide +kernel
theorem d_Poisons_spoil_35 : decode b_Poisons_spoil 35 = .ok (.ixor, 1) := by decide +kernel
theorem d_Poisons_spoil_36 : decode b_Poisons_spoil 36 = .ok (.istore_n 2, 1) := by decide +kernel
theorem d_Poisons_spoil_37 : decode b_Poisons_spoil 37 = .ok (.goto 34, 3) := by decide +kernel
theorem d_Poisons_spoil_40 : decode b_Poisons_spoil 40 = .ok (.aload_n 0, 1) := by decide +kernel
theorem d_Poisons_spoil_41 : decode b_Poisons_spoil 41 = .ok (.getfield 9, 3) := by decide +kernel
theorem d_Poisons_spoil_44 : decode b_Poisons_spoil 44 = .ok (.iload_n 3, 1) := by decide +kernel
theorem d_Poisons_spoil_45 : decode b_Poisons_spoil 45 = .ok (.aload_n 0, 1) := by decide +kernel
theorem d_Poisons_spoil_46 : decode b_Poisons_spoil 46 = .ok (.getfield 9, 3) := by decide +kernel
theorem d_Poisons_spoil_49 : decode b_Poisons_spoil 49 = .ok (.iload 4, 2) := by decide +kernel
theorem d_Poisons_spoil_51 : decode b_Poisons_spoil 51 = .ok (.iaload, 1) := by decide +kernel
theorem d_Poisons_spoil_52 : decode b_Poisons_spoil 52 = .ok (.iconst 1, 1) := by decide +kernel
theorem d_Poisons_spoil_53 : decode b_Poisons_spoil 53 = .ok (.isub, 1) := by decide +kernel
theorem d_Poisons_spoil_54 : decode b_Poisons_spoil 54 = .ok (.iastore, 1) := by decide +kernel
theorem d_Poisons_spoil_55 : decode b_Poisons_spoil 55 = .ok (.aload_n 0, 1) := by decide +kernel
theorem d_Poisons_spoil_56 : decode b_Poisons_spoil 56 = .ok (.getfield 15, 3) := by decide +kernel
theorem d_Poisons_spoil_59 : decode b_Poisons_spoil 59 = .ok (.iload_n 3, 1) := by decide +kernel
theorem d_Poisons_spoil_60 : decode b_Poisons_spoil 60 = .ok (.aload_n 0, 1) := by decide +kernel
theorem d_Poisons_spoil_61 : decode b_Poisons_spoil 61 = .ok (.getfield 15, 3) := by decide +kernel
theorem d_Poisons_spoil_64 : decode b_Poisons_spoil 64 = .ok (.iload 4, 2) := by decide +kernel
theorem d_Poisons_spoil_66 : decode b_Poisons_spoil 66 = .ok (.iaload, 1) := by decide +kernel
theorem d_Poisons_spoil_67 : decode b_Poisons_spoil 67 = .ok (.iastore, 1) := by decide +kernel
theorem d_Poisons_spoil_68 : decode b_Poisons_spoil 68 = .ok (.iinc 3 1, 3) := by decide +kernel
theorem d_Poisons_spoil_71 : decode b_Poisons_spoil 71 = .ok (.iinc 4 1, 3) := by decide +kernel
theorem d_Poisons_spoil_74 : decode b_Poisons_spoil 74 = .ok (.goto (-67), 3) := by decide +kernel
theorem d_Poisons_spoil_77 : decode b_Poisons_spoil 77 = .ok (.aload_n 0, 1) := by decide +kernel
theorem d_Poisons_spoil_78 : decode b_Poisons_spoil 78 = .ok (.iload_n 3, 1) := by decide +kernel
theorem d_Poisons_spoil_79 : decode b_Poisons_spoil 79 = .ok (.putfield 18, 3) := by decide +kernel
theorem d_Poisons_spoil_82 : decode b_Poisons_spoil 82 = .ok (.iload_n 2, 1) := by decide +kernel
theorem d_Poisons_spoil_83 : decode b_Poisons_spoil 83 = .ok (.ireturn, 1) := by decide +kernel
theorem d_Look_init_0 : decode b_Look_init 0 = .ok (.aload_n 0, 1) := by decide +kernel
theorem d_Look_init_1 : decode b_Look_init 1 = .ok (.invokespecial 3, 3) := by decide +kernel
theorem d_Look_init_4 : decode b_Look_init 4 = .ok (.aload_n 0, 1) := by decide +kernel
theorem d_Look_init_5 : decode b_Look_init 5 = .ok (.iconst 4, 1) := by decide +kernel
theorem d_Look_init_6 : decode b_Look_init 6 = .ok (.newarray .int, 2) := by decide +kernel
theorem d_Look_init_8 : decode b_Look_init 8 = .ok (.putfield 9, 3) := by decide +kernel
theorem d_Look_init_11 : decode b_Look_init 11 = .ok (.return_, 1) := by decide +kernel
theorem d_Look_study_0 : decode b_Look_study 0 = .ok (.aload_n 0, 1) := by decide +kernel
theorem d_Look_study_1 : decode b_Look_study 1 = .ok (.iconst 0, 1) := by decide +kernel
theorem d_Look_study_2 : decode b_Look_study 2 = .ok (.putfield 15, 3) := by decide +kernel
theorem d_Look_study_5 : decode b_Look_study 5 = .ok (.aload_n 0, 1) := by decide +kernel
theorem d_Look_study_6 : decode b_Look_study 6 = .ok (.iconst 0, 1) := by decide +kernel
theorem d_Look_study_7 : decode b_Look_study 7 = .ok (.putfield 19, 3) := by decide +kernel
theorem d_Look_study_10 : decode b_Look_study 10 = .ok (.iconst (-1), 1) := by decide +kernel
theorem d_Look_study_11 : decode b_Look_study 11 = .ok (.istore_n 3, 1) := by decide +kernel
theorem d_Look_study_12 : decode b_Look_study 12 = .ok (.iconst 0, 1) := by decide +kernel
theorem d_Look_study_13 : decode b_Look_study 13 = .ok (.istore 4, 2) := by decide +kernel
theorem d_Look_study_15 : decode b_Look_study 15 = .ok (.iload 4, 2) := by decide +kernel
theorem d_Look_study_17 : decode b_Look_study 17 = .ok (.bipush 64, 2) := by decide +kernel
theorem d_Look_study_19 : decode b_Look_study 19 = .ok (.if_icmp .ge 43, 3) := by decide +kernel
theorem d_Look_study_22 : decode b_Look_study 22 = .ok (.aload_n 1, 1) := by decide +kernel
theorem d_Look_study_23 : decode b_Look_study 23 = .ok (.iload_n 2, 1) := by decide +kernel
theorem d_Look_study_24 : decode b_Look_study 24 = .ok (.iload 4, 2) := by decide +kernel
theorem d_Look_study_26 : decode b_Look_study 26 = .ok (.invokevirtual 22, 3) := by decide +kernel
theorem d_Look_study_29 : decode b_Look_study 29 = .ok (.istore 5, 2) := by decide +kernel
theorem d_Look_study_31 : decode b_Look_study 31 = .ok (.iload 5, 2) := by decide +kernel
theorem d_Look_study_33 : decode b_Look_study 33 = .ok (.iload_n 3, 1) := by decide +kernel
theorem d_Look_study_34 : decode b_Look_study 34 = .ok (.if_icmp .eq 19, 3) := by decide +kernel
theorem d_Look_study_37 : decode b_Look_study 37 = .ok (.aload_n 0, 1) := by decide +kernel
theorem d_Look_study_38 : decode b_Look_study 38 = .ok (.dup, 1) := by decide +kernel
theorem d_Look_study_39 : decode b_Look_study 39 = .ok (.getfield 19, 3) := by decide +kernel
theorem d_Look_study_42 : decode b_Look_study 42 = .ok (.iconst 1, 1) := by decide +kernel
theorem d_Look_study_43 : decode b_Look_study 43 = .ok (.iadd, 1) := by decide +kernel
theorem d_Look_study_44 : decode b_Look_study 44 = .ok (.putfield 19, 3) := by decide +kernel
theorem d_Look_study_47 : decode b_Look_study 47 = .ok (.aload_n 0, 1) := by decide +kernel
theorem d_Look_study_48 : decode b_Look_study 48 = .ok (.iload 5, 2) := by decide +kernel
theorem d_Look_study_50 : decode b_Look_study 50 = .ok (.invokevirtual 28, 3) := by decide +kernel
theorem d_Look_study_53 : decode b_Look_study 53 = .ok (.iload 5, 2) := by decide +kernel
theorem d_Look_study_55 : decode b_Look_study 55 = .ok (.istore_n 3, 1) := by decide +kernel
theorem d_Look_study_56 : decode b_Look_study 56 = .ok (.iinc 4 1, 3) := by decide +kernel
theorem d_Look_study_59 : decode b_Look_study 59 = .ok (.goto (-44), 3) := by decide +kernel
theorem d_Look_study_62 : decode b_Look_study 62 = .ok (.return_, 1) := by decide +kernel
theorem d_Look_meet_0 : decode b_Look_meet 0 = .ok (.aload_n 0, 1) := by decide +kernel
theorem d_Look_meet_1 : decode b_Look_meet 1 = .ok (.iload_n 1, 1) := by decide +kernel
theorem d_Look_meet_2 : decode b_Look_meet 2 = .ok (.invokevirtual 32, 3) := by decide +kernel
theorem d_Look_meet_5 : decode b_Look_meet 5 = .ok (.iconst (-1), 1) := by decide +kernel
theorem d_Look_meet_6 : decode b_Look_meet 6 = .ok (.if_icmp .eq 4, 3) := by decide +kernel
theorem d_Look_meet_9 : decode b_Look_meet 9 = .ok (.return_, 1) := by decide +kernel
theorem d_Look_meet_10 : decode b_Look_meet 10 = .ok (.aload_n 0, 1) := by decide +kernel
theorem d_Look_meet_11 : decode b_Look_meet 11 = .ok (.getfield 15, 3) := by decide +kernel
theorem d_Look_meet_14 : decode b_Look_meet 14 = .ok (.iconst 4, 1) := by decide +kernel
theorem d_Look_meet_15 : decode b_Look_meet 15 = .ok (.if_icmp .ge 13, 3) := by decide +kernel
theorem d_Look_meet_18 : decode b_Look_meet 18 = .ok (.aload_n 0, 1) := by decide +kernel
theorem d_Look_meet_19 : decode b_Look_meet 19 = .ok (.getfield 9, 3) := by decide +kernel
theorem d_Look_meet_22 : decode b_Look_meet 22 = .ok (.aload_n 0, 1) := by decide +kernel
theorem d_Look_meet_23 : decode b_Look_meet 23 = .ok (.getfield 15, 3) := by decide +kernel
theorem d_Look_meet_26 : decode b_Look_meet 26 = .ok (.iload_n 1, 1) := by decide +kernel
theorem d_Look_meet_27 : decode b_Look_meet 27 = .ok (.iastore, 1) := by decide +kernel
theorem d_Look_meet_28 : decode b_Look_meet 28 = .ok (.aload_n 0, 1) := by decide +kernel
theorem d_Look_meet_29 : decode b_Look_meet 29 = .ok (.dup, 1) := by decide +kernel
theorem d_Look_meet_30 : decode b_Look_meet 30 = .ok (.getfield 15, 3) := by decide +kernel
theorem d_Look_meet_33 : decode b_Look_meet 33 = .ok (.iconst 1, 1) := by decide +kernel
theorem d_Look_meet_34 : decode b_Look_meet 34 = .ok (.iadd, 1) := by decide +kernel
theorem d_Look_meet_35 : decode b_Look_meet 35 = .ok (.putfield 15, 3) := by decide +kernel
theorem d_Look_meet_38 : decode b_Look_meet 38 = .ok (.return_, 1) := by decide +kernel
theorem d_Look_indexOf_0 : decode b_Look_indexOf 0 = .ok (.iconst 0, 1) := by decide +kernel
theorem d_Look_indexOf_1 : decode b_Look_indexOf 1 = .ok (.istore_n 2, 1) := by decide +kernel
theorem d_Look_indexOf_2 : decode b_Look_indexOf 2 = .ok (.iload_n 2, 1) := by decide +kernel
theorem d_Look_indexOf_3 : decode b_Look_indexOf 3 = .ok (.aload_n 0, 1) := by decide +kernel
theorem d_Look_indexOf_4 : decode b_Look_indexOf 4 = .ok (.getfield 15, 3) := by decide +kernel
theorem d_Look_indexOf_7 : decode b_Look_indexOf 7 = .ok (.if_icmp .ge 26, 3) := by decide +kernel
theorem d_Look_indexOf_10 : decode b_Look_indexOf 10 = .ok (.iload_n 2, 1) := by decide +kernel
theorem d_Look_indexOf_11 : decode b_Look_indexOf 11 = .ok (.iconst 4, 1) := by decide +kernel
theorem d_Look_indexOf_12 : decode b_Look_indexOf 12 = .ok (.if_icmp .ge 21, 3) := by decide +kernel
theorem d_Look_indexOf_15 : decode b_Look_indexOf 15 = .ok (.aload_n 0, 1) := by decide +kernel
theorem d_Look_indexOf_16 : decode b_Look_indexOf 16 = .ok (.getfield 9, 3) := by decide +kernel
theorem d_Look_indexOf_19 : decode b_Look_indexOf 19 = .ok (.iload_n 2, 1) := by decide +kernel
theorem d_Look_indexOf_20 : decode b_Look_indexOf 20 = .ok (.iaload, 1) := by decide +kernel
theorem d_Look_indexOf_21 : decode b_Look_indexOf 21 = .ok (.iload_n 1, 1) := by decide +kernel
theorem d_Look_indexOf_22 : decode b_Look_indexOf 22 = .ok (.if_icmp .ne 5, 3) := by decide +kernel
theorem d_Look_indexOf_25 : decode b_Look_indexOf 25 = .ok (.iload_n 2, 1) := by decide +kernel
theorem d_Look_indexOf_26 : decode b_Look_indexOf 26 = .ok (.ireturn, 1) := by decide +kernel
theorem d_Look_indexOf_27 : decode b_Look_indexOf 27 = .ok (.iinc 2 1, 3) := by decide +kernel
theorem d_Look_indexOf_30 : decode b_Look_indexOf 30 = .ok (.goto (-28), 3) := by decide +kernel
theorem d_Look_indexOf_33 : decode b_Look_indexOf 33 = .ok (.iconst (-1), 1) := by decide +kernel
theorem d_Look_indexOf_34 : decode b_Look_indexOf 34 = .ok (.ireturn, 1) := by decide +kernel
theorem d_Feed_init_0 : decode b_Feed_init 0 = .ok (.aload_n 0, 1) := by decide +kernel
theorem d_Feed_init_1 : decode b_Feed_init 1 = .ok (.invokespecial 3, 3) := by decide +kernel
theorem d_Feed_init_4 : decode b_Feed_init 4 = .ok (.aload_n 0, 1) := by decide +kernel
theorem d_Feed_init_5 : decode b_Feed_init 5 = .ok (.new 9, 3) := by decide +kernel
theorem d_Feed_init_8 : decode b_Feed_init 8 = .ok (.dup, 1) := by decide +kernel
theorem d_Feed_init_9 : decode b_Feed_init 9 = .ok (.bipush 48, 2) := by decide +kernel
theorem d_Feed_init_11 : decode b_Feed_init 11 = .ok (.invokespecial 11, 3) := by decide +kernel
theorem d_Feed_init_14 : decode b_Feed_init 14 = .ok (.putfield 14, 3) := by decide +kernel
theorem d_Feed_init_17 : decode b_Feed_init 17 = .ok (.aload_n 0, 1) := by decide +kernel
theorem d_Feed_init_18 : decode b_Feed_init 18 = .ok (.new 20, 3) := by decide +kernel
theorem d_Feed_init_21 : decode b_Feed_init 21 = .ok (.dup, 1) := by decide +kernel
theorem d_Feed_init_22 : decode b_Feed_init 22 = .ok (.invokespecial 22, 3) := by decide +kernel
theorem d_Feed_init_25 : decode b_Feed_init 25 = .ok (.putfield 23, 3) := by decide +kernel
theorem d_Feed_init_28 : decode b_Feed_init 28 = .ok (.aload_n 0, 1) := by decide +kernel
theorem d_Feed_init_29 : decode b_Feed_init 29 = .ok (.new 27, 3) := by decide +kernel
theorem d_Feed_init_32 : decode b_Feed_init 32 = .ok (.dup, 1) := by decide +kernel
theorem d_Feed_init_33 : decode b_Feed_init 33 = .ok (.invokespecial 29, 3) := by decide +kernel
theorem d_Feed_init_36 : decode b_Feed_init 36 = .ok (.putfield 30, 3) := by decide +kernel
theorem d_Feed_init_39 : decode b_Feed_init 39 = .ok (.aload_n 0, 1) := by decide +kernel
theorem d_Feed_init_40 : decode b_Feed_init 40 = .ok (.bipush 7, 2) := by decide +kernel
theorem d_Feed_init_42 : decode b_Feed_init 42 = .ok (.newarray .int, 2) := by decide +kernel
theorem d_Feed_init_44 : decode b_Feed_init 44 = .ok (.putfield 34, 3) := by decide +kernel
theorem d_Feed_init_47 : decode b_Feed_init 47 = .ok (.aload_n 0, 1) := by decide +kernel
theorem d_Feed_init_48 : decode b_Feed_init 48 = .ok (.new 38, 3) := by decide +kernel
theorem d_Feed_init_51 : decode b_Feed_init 51 = .ok (.dup, 1) := by decide +kernel
theorem d_Feed_init_52 : decode b_Feed_init 52 = .ok (.invokespecial 40, 3) := by decide +kernel
theorem d_Feed_init_55 : decode b_Feed_init 55 = .ok (.putfield 41, 3) := by decide +kernel
theorem d_Feed_init_58 : decode b_Feed_init 58 = .ok (.return_, 1) := by decide +kernel
theorem d_Feed_compose_0 : decode b_Feed_compose 0 = .ok (.aload_n 0, 1) := by decide +kernel
theorem d_Feed_compose_1 : decode b_Feed_compose 1 = .ok (.getfield 30, 3) := by decide +kernel
theorem d_Feed_compose_4 : decode b_Feed_compose 4 = .ok (.invokevirtual 45, 3) := by decide +kernel
theorem d_Feed_compose_7 : decode b_Feed_compose 7 = .ok (.iconst 0, 1) := by decide +kernel
theorem d_Feed_compose_8 : decode b_Feed_compose 8 = .ok (.istore_n 3, 1) := by decide +kernel
theorem d_Feed_compose_9 : decode b_Feed_compose 9 = .ok (.iload_n 3, 1) := by decide +kernel
theorem d_Feed_compose_10 : decode b_Feed_compose 10 = .ok (.iconst 3, 1) := by decide +kernel
theorem d_Feed_compose_11 : decode b_Feed_compose 11 = .ok (.if_icmp .ge 17, 3) := by decide +kernel
theorem d_Feed_compose_14 : decode b_Feed_compose 14 = .ok (.aload_n 0, 1) := by decide +kernel
theorem d_Feed_compose_15 : decode b_Feed_compose 15 = .ok (.getfield 30, 3) := by decide +kernel
theorem d_Feed_compose_18 : decode b_Feed_compose 18 = .ok (.iconst 0, 1) := by decide +kernel
theorem d_Feed_compose_19 : decode b_Feed_compose 19 = .ok (.invokevirtual 48, 3) := by decide +kernel
theorem d_Feed_compose_22 : decode b_Feed_compose 22 = .ok (.iinc 3 1, 3) := by decide +kernel
theorem d_Feed_compose_25 : decode b_Feed_compose 25 = .ok (.goto (-16), 3) := by decide +kernel
theorem d_Feed_compose_28 : decode b_Feed_compose 28 = .ok (.aload_n 0, 1) := by decide +kernel
theorem d_Feed_compose_29 : decode b_Feed_compose 29 = .ok (.getfield 30, 3) := by decide +kernel
theorem d_Feed_compose_32 : decode b_Feed_compose 32 = .ok (.iload_n 2, 1) := by decide +kernel
theorem d_Feed_compose_33 : decode b_Feed_compose 33 = .ok (.invokevirtual 51, 3) := by decide +kernel
theorem d_Feed_compose_36 : decode b_Feed_compose 36 = .ok (.iconst 0, 1) := by decide +kernel
theorem d_Feed_compose_37 : decode b_Feed_compose 37 = .ok (.istore_n 3, 1) := by decide +kernel
theorem d_Feed_compose_38 : decode b_Feed_compose 38 = .ok (.iload_n 3, 1) := by decide +kernel
theorem d_Feed_compose_39 : decode b_Feed_compose 39 = .ok (.bipush 48, 2) := by decide +kernel
theorem d_Feed_compose_41 : decode b_Feed_compose 41 = .ok (.if_icmp .ge 28, 3) := by decide +kernel
theorem d_Feed_compose_44 : decode b_Feed_compose 44 = .ok (.aload_n 1, 1) := by decide +kernel
theorem d_Feed_compose_45 : decode b_Feed_compose 45 = .ok (.iload_n 3, 1) := by decide +kernel
theorem d_Feed_compose_46 : decode b_Feed_compose 46 = .ok (.aload_n 0, 1) := by decide +kernel
theorem d_Feed_compose_47 : decode b_Feed_compose 47 = .ok (.getfield 14, 3) := by decide +kernel
theorem d_Feed_compose_50 : decode b_Feed_compose 50 = .ok (.iload_n 3, 1) := by decide +kernel
theorem d_Feed_compose_51 : decode b_Feed_compose 51 = .ok (.invokevirtual 54, 3) := by decide +kernel
theorem d_Feed_compose_54 : decode b_Feed_compose 54 = .ok (.ifCond .ne 9, 3) := by decide +kernel
theorem d_Feed_compose_57 : decode b_Feed_compose 57 = .ok (.aload_n 0, 1) := by decide +kernel
theorem d_Feed_compose_58 : decode b_Feed_compose 58 = .ok (.aload_n 1, 1) := by decide +kernel
theorem d_Feed_compose_59 : decode b_Feed_compose 59 = .ok (.iload_n 3, 1) := by decide +kernel
theorem d_Feed_compose_60 : decode b_Feed_compose 60 = .ok (.invokevirtual 58, 3) := by decide +kernel
theorem d_Feed_compose_63 : decode b_Feed_compose 63 = .ok (.iinc 3 1, 3) := by decide +kernel
theorem d_Feed_compose_66 : decode b_Feed_compose 66 = .ok (.goto (-28), 3) := by decide +kernel
theorem d_Feed_compose_69 : decode b_Feed_compose 69 = .ok (.aload_n 0, 1) := by decide +kernel
theorem d_Feed_compose_70 : decode b_Feed_compose 70 = .ok (.getfield 30, 3) := by decide +kernel
theorem d_Feed_compose_73 : decode b_Feed_compose 73 = .ok (.aload_n 0, 1) := by decide +kernel
theorem d_Feed_compose_74 : decode b_Feed_compose 74 = .ok (.getfield 30, 3) := by decide +kernel
theorem d_Feed_compose_77 : decode b_Feed_compose 77 = .ok (.getfield 62, 3) := by decide +kernel
theorem d_Feed_compose_80 : decode b_Feed_compose 80 = .ok (.iconst 3, 1) := by decide +kernel
theorem d_Feed_compose_81 : decode b_Feed_compose 81 = .ok (.aload_n 0, 1) := by decide +kernel
theorem d_Feed_compose_82 : decode b_Feed_compose 82 = .ok (.getfield 30, 3) := by decide +kernel
theorem d_Feed_compose_85 : decode b_Feed_compose 85 = .ok (.getfield 65, 3) := by decide +kernel
theorem d_Feed_compose_88 : decode b_Feed_compose 88 = .ok (.invokestatic 69, 3) := by decide +kernel
theorem d_Feed_compose_91 : decode b_Feed_compose 91 = .ok (.invokevirtual 51, 3) := by decide +kernel
theorem d_Feed_compose_94 : decode b_Feed_compose 94 = .ok (.aload_n 0, 1) := by decide +kernel
theorem d_Feed_compose_95 : decode b_Feed_compose 95 = .ok (.getfield 30, 3) := by decide +kernel
theorem d_Feed_compose_98 : decode b_Feed_compose 98 = .ok (.getfield 65, 3) := by decide +kernel
theorem d_Feed_compose_101 : decode b_Feed_compose 101 = .ok (.iconst 3, 1) := by decide +kernel
theorem d_Feed_compose_102 : decode b_Feed_compose 102 = .ok (.isub, 1) := by decide +kernel
theorem d_Feed_compose_103 : decode b_Feed_compose 103 = .ok (.istore_n 3, 1) := by decide +kernel
theorem d_Feed_compose_104 : decode b_Feed_compose 104 = .ok (.aload_n 0, 1) := by decide +kernel
theorem d_Feed_compose_105 : decode b_Feed_compose 105 = .ok (.getfield 30, 3) := by decide +kernel
theorem d_Feed_compose_108 : decode b_Feed_compose 108 = .ok (.iconst 0, 1) := by decide +kernel
theorem d_Feed_compose_109 : decode b_Feed_compose 109 = .ok (.iload_n 3, 1) := by decide +kernel
theorem d_Feed_compose_110 : decode b_Feed_compose 110 = .ok (.bipush 16, 2) := by decide +kernel
theorem d_Feed_compose_112 : decode b_Feed_compose 112 = .ok (.ishr, 1) := by decide +kernel
theorem d_Feed_compose_113 : decode b_Feed_compose 113 = .ok (.invokevirtual 73, 3) := by decide +kernel
theorem d_Feed_compose_116 : decode b_Feed_compose 116 = .ok (.aload_n 0, 1) := by decide +kernel
theorem d_Feed_compose_117 : decode b_Feed_compose 117 = .ok (.getfield 30, 3) := by decide +kernel
theorem d_Feed_compose_120 : decode b_Feed_compose 120 = .ok (.iconst 1, 1) := by decide +kernel
theorem d_Feed_compose_121 : decode b_Feed_compose 121 = .ok (.iload_n 3, 1) := by decide +kernel
theorem d_Feed_compose_122 : decode b_Feed_compose 122 = .ok (.bipush 8, 2) := by decide +kernel
theorem d_Feed_compose_124 : decode b_Feed_compose 124 = .ok (.ishr, 1) := by decide +kernel
theorem d_Feed_compose_125 : decode b_Feed_compose 125 = .ok (.sipush 255, 3) := by decide +kernel
theorem d_Feed_compose_128 : decode b_Feed_compose 128 = .ok (.iand, 1) := by decide +kernel
theorem d_Feed_compose_129 : decode b_Feed_compose 129 = .ok (.invokevirtual 73, 3) := by decide +kernel
theorem d_Feed_compose_132 : decode b_Feed_compose 132 = .ok (.aload_n 0, 1) := by decide +kernel
theorem d_Feed_compose_133 : decode b_Feed_compose 133 = .ok (.getfield 30, 3) := by decide +kernel
theorem d_Feed_compose_136 : decode b_Feed_compose 136 = .ok (.iconst 2, 1) := by decide +kernel
theorem d_Feed_compose_137 : decode b_Feed_compose 137 = .ok (.iload_n 3, 1) := by decide +kernel
theorem d_Feed_compose_138 : decode b_Feed_compose 138 = .ok (.sipush 255, 3) := by decide +kernel
theorem d_Feed_compose_141 : decode b_Feed_compose 141 = .ok (.iand, 1) := by decide +kernel
theorem d_Feed_compose_142 : decode b_Feed_compose 142 = .ok (.invokevirtual 73, 3) := by decide +kernel
theorem d_Feed_compose_145 : decode b_Feed_compose 145 = .ok (.aload_n 0, 1) := by decide +kernel
theorem d_Feed_compose_146 : decode b_Feed_compose 146 = .ok (.getfield 14, 3) := by decide +kernel
theorem d_Feed_compose_149 : decode b_Feed_compose 149 = .ok (.aload_n 1, 1) := by decide +kernel
theorem d_Feed_compose_150 : decode b_Feed_compose 150 = .ok (.invokevirtual 77, 3) := by decide +kernel
theorem d_Feed_compose_153 : decode b_Feed_compose 153 = .ok (.aload_n 0, 1) := by decide +kernel
theorem d_Feed_compose_154 : decode b_Feed_compose 154 = .ok (.iload_n 2, 1) := by decide +kernel
theorem d_Feed_compose_155 : decode b_Feed_compose 155 = .ok (.putfield 81, 3) := by decide +kernel
theorem d_Feed_compose_158 : decode b_Feed_compose 158 = .ok (.return_, 1) := by decide +kernel
theorem d_Feed_addRecord_0 : decode b_Feed_addRecord 0 = .ok (.aload_n 0, 1) := by decide +kernel
theorem d_Feed_addRecord_1 : decode b_Feed_addRecord 1 = .ok (.getfield 41, 3) := by decide +kernel
theorem d_Feed_addRecord_4 : decode b_Feed_addRecord 4 = .ok (.aload_n 1, 1) := by decide +kernel
theorem d_Feed_addRecord_5 : decode b_Feed_addRecord 5 = .ok (.iload_n 2, 1) := by decide +kernel
theorem d_Feed_addRecord_6 : decode b_Feed_addRecord 6 = .ok (.invokevirtual 84, 3) := by decide +kernel
theorem d_Feed_addRecord_9 : decode b_Feed_addRecord 9 = .ok (.aload_n 0, 1) := by decide +kernel
theorem d_Feed_addRecord_10 : decode b_Feed_addRecord 10 = .ok (.aload_n 0, 1) := by decide +kernel
theorem d_Feed_addRecord_11 : decode b_Feed_addRecord 11 = .ok (.getfield 14, 3) := by decide +kernel
theorem d_Feed_addRecord_14 : decode b_Feed_addRecord 14 = .ok (.bipush 48, 2) := by decide +kernel
theorem d_Feed_addRecord_16 : decode b_Feed_addRecord 16 = .ok (.aload_n 1, 1) := by decide +kernel
theorem d_Feed_addRecord_17 : decode b_Feed_addRecord 17 = .ok (.iload_n 2, 1) := by decide +kernel
theorem d_Feed_addRecord_18 : decode b_Feed_addRecord 18 = .ok (.invokevirtual 87, 3) := by decide +kernel
theorem d_Feed_addRecord_21 : decode b_Feed_addRecord 21 = .ok (.putfield 91, 3) := by decide +kernel
theorem d_Feed_addRecord_24 : decode b_Feed_addRecord 24 = .ok (.aload_n 0, 1) := by decide +kernel
theorem d_Feed_addRecord_25 : decode b_Feed_addRecord 25 = .ok (.aload_n 0, 1) := by decide +kernel
theorem d_Feed_addRecord_26 : decode b_Feed_addRecord 26 = .ok (.getfield 23, 3) := by decide +kernel
theorem d_Feed_addRecord_29 : decode b_Feed_addRecord 29 = .ok (.getfield 94, 3) := by decide +kernel
theorem d_Feed_addRecord_32 : decode b_Feed_addRecord 32 = .ok (.aload_n 0, 1) := by decide +kernel
theorem d_Feed_addRecord_33 : decode b_Feed_addRecord 33 = .ok (.getfield 23, 3) := by decide +kernel
theorem d_Feed_addRecord_36 : decode b_Feed_addRecord 36 = .ok (.getfield 97, 3) := by decide +kernel
theorem d_Feed_addRecord_39 : decode b_Feed_addRecord 39 = .ok (.aload_n 1, 1) := by decide +kernel
theorem d_Feed_addRecord_40 : decode b_Feed_addRecord 40 = .ok (.iload_n 2, 1) := by decide +kernel
theorem d_Feed_addRecord_41 : decode b_Feed_addRecord 41 = .ok (.invokevirtual 87, 3) := by decide +kernel
theorem d_Feed_addRecord_44 : decode b_Feed_addRecord 44 = .ok (.putfield 100, 3) := by decide +kernel
theorem d_Feed_addRecord_47 : decode b_Feed_addRecord 47 = .ok (.aload_n 0, 1) := by decide +kernel
theorem d_Feed_addRecord_48 : decode b_Feed_addRecord 48 = .ok (.invokevirtual 103, 3) := by decide +kernel
theorem d_Feed_addRecord_51 : decode b_Feed_addRecord 51 = .ok (.istore_n 3, 1) := by decide +kernel
theorem d_Feed_addRecord_52 : decode b_Feed_addRecord 52 = .ok (.aload_n 0, 1) := by decide +kernel
theorem d_Feed_addRecord_53 : decode b_Feed_addRecord 53 = .ok (.getfield 30, 3) := by decide +kernel
theorem d_Feed_addRecord_56 : decode b_Feed_addRecord 56 = .ok (.getfield 65, 3) := by decide +kernel
theorem d_Feed_addRecord_59 : decode b_Feed_addRecord 59 = .ok (.istore 4, 2) := by decide +kernel
theorem d_Feed_addRecord_61 : decode b_Feed_addRecord 61 = .ok (.aload_n 0, 1) := by decide +kernel
theorem d_Feed_addRecord_62 : decode b_Feed_addRecord 62 = .ok (.getfield 30, 3) := by decide +kernel
theorem d_Feed_addRecord_65 : decode b_Feed_addRecord 65 = .ok (.iload_n 3, 1) := by decide +kernel
theorem d_Feed_addRecord_66 : decode b_Feed_addRecord 66 = .ok (.invokevirtual 48, 3) := by decide +kernel
theorem d_Feed_addRecord_69 : decode b_Feed_addRecord 69 = .ok (.aload_n 0, 1) := by decide +kernel
theorem d_Feed_addRecord_70 : decode b_Feed_addRecord 70 = .ok (.getfield 30, 3) := by decide +kernel
theorem d_Feed_addRecord_73 : decode b_Feed_addRecord 73 = .ok (.iload_n 2, 1) := by decide +kernel
theorem d_Feed_addRecord_74 : decode b_Feed_addRecord 74 = .ok (.invokevirtual 48, 3) := by decide +kernel
theorem d_Feed_addRecord_77 : decode b_Feed_addRecord 77 = .ok (.aload_n 0, 1) := by decide +kernel
theorem d_Feed_addRecord_78 : decode b_Feed_addRecord 78 = .ok (.iload_n 3, 1) := by decide +kernel
theorem d_Feed_addRecord_79 : decode b_Feed_addRecord 79 = .ok (.aload_n 1, 1) := by decide +kernel
theorem d_Feed_addRecord_80 : decode b_Feed_addRecord 80 = .ok (.iload_n 2, 1) := by decide +kernel
theorem d_Feed_addRecord_81 : decode b_Feed_addRecord 81 = .ok (.invokevirtual 107, 3) := by decide +kernel
theorem d_Feed_addRecord_84 : decode b_Feed_addRecord 84 = .ok (.aload_n 0, 1) := by decide +kernel
theorem d_Feed_addRecord_85 : decode b_Feed_addRecord 85 = .ok (.getfield 34, 3) := by decide +kernel
theorem d_Feed_addRecord_88 : decode b_Feed_addRecord 88 = .ok (.iload_n 3, 1) := by decide +kernel
theorem d_Feed_addRecord_89 : decode b_Feed_addRecord 89 = .ok (.dup2, 1) := by decide +kernel
theorem d_Feed_addRecord_90 : decode b_Feed_addRecord 90 = .ok (.iaload, 1) := by decide +kernel
theorem d_Feed_addRecord_91 : decode b_Feed_addRecord 91 = .ok (.aload_n 0, 1) := by decide +kernel
theorem d_Feed_addRecord_92 : decode b_Feed_addRecord 92 = .ok (.getfield 30, 3) := by decide +kernel
theorem d_Feed_addRecord_95 : decode b_Feed_addRecord 95 = .ok (.getfield 65, 3) := by decide +kernel
theorem d_Feed_addRecord_98 : decode b_Feed_addRecord 98 = .ok (.iload 4, 2) := by decide +kernel
theorem d_Feed_addRecord_100 : decode b_Feed_addRecord 100 = .ok (.isub, 1) := by decide +kernel
theorem d_Feed_addRecord_101 : decode b_Feed_addRecord 101 = .ok (.iadd, 1) := by decide +kernel
theorem d_Feed_addRecord_102 : decode b_Feed_addRecord 102 = .ok (.iastore, 1) := by decide +kernel
theorem d_Feed_addRecord_103 : decode b_Feed_addRecord 103 = .ok (.iload_n 3, 1) := by decide +kernel
theorem d_Feed_addRecord_104 : decode b_Feed_addRecord 104 = .ok (.iconst 3, 1) := by decide +kernel
theorem d_Feed_addRecord_105 : decode b_Feed_addRecord 105 = .ok (.if_icmp .lt 12, 3) := by decide +kernel
theorem d_Feed_addRecord_108 : decode b_Feed_addRecord 108 = .ok (.aload_n 0, 1) := by decide +kernel
theorem d_Feed_addRecord_109 : decode b_Feed_addRecord 109 = .ok (.getfield 23, 3) := by decide +kernel
theorem d_Feed_addRecord_112 : decode b_Feed_addRecord 112 = .ok (.aload_n 1, 1) := by decide +kernel
theorem d_Feed_addRecord_113 : decode b_Feed_addRecord 113 = .ok (.iload_n 2, 1) := by decide +kernel
theorem d_Feed_addRecord_114 : decode b_Feed_addRecord 114 = .ok (.invokevirtual 111, 3) := by decide +kernel
theorem d_Feed_addRecord_117 : decode b_Feed_addRecord 117 = .ok (.return_, 1) := by decide +kernel
theorem d_Feed_chooseKind_0 : decode b_Feed_chooseKind 0 = .ok (.bipush 6, 2) := by decide +kernel
theorem d_Feed_chooseKind_2 : decode b_Feed_chooseKind 2 = .ok (.istore_n 1, 1) := by decide +kernel
theorem d_Feed_chooseKind_3 : decode b_Feed_chooseKind 3 = .ok (.bipush 6, 2) := by decide +kernel
theorem d_Feed_chooseKind_5 : decode b_Feed_chooseKind 5 = .ok (.istore_n 2, 1) := by decide +kernel
theorem d_Feed_chooseKind_6 : decode b_Feed_chooseKind 6 = .ok (.iload_n 2, 1) := by decide +kernel
theorem d_Feed_chooseKind_7 : decode b_Feed_chooseKind 7 = .ok (.ifCond .lt 32, 3) := by decide +kernel
theorem d_Feed_chooseKind_10 : decode b_Feed_chooseKind 10 = .ok (.aload_n 0, 1) := by decide +kernel
theorem d_Feed_chooseKind_11 : decode b_Feed_chooseKind 11 = .ok (.iload_n 2, 1) := by decide +kernel
theorem d_Feed_chooseKind_12 : decode b_Feed_chooseKind 12 = .ok (.invokevirtual 114, 3) := by decide +kernel
theorem d_Feed_chooseKind_15 : decode b_Feed_chooseKind 15 = .ok (.ifCond .eq 18, 3) := by decide +kernel
theorem d_Feed_chooseKind_18 : decode b_Feed_chooseKind 18 = .ok (.aload_n 0, 1) := by decide +kernel
theorem d_Feed_chooseKind_19 : decode b_Feed_chooseKind 19 = .ok (.iload_n 2, 1) := by decide +kernel
theorem d_Feed_chooseKind_20 : decode b_Feed_chooseKind 20 = .ok (.invokevirtual 118, 3) := by decide +kernel
theorem d_Feed_chooseKind_23 : decode b_Feed_chooseKind 23 = .ok (.aload_n 0, 1) := by decide +kernel
theorem d_Feed_chooseKind_24 : decode b_Feed_chooseKind 24 = .ok (.iload_n 1, 1) := by decide +kernel
theorem d_Feed_chooseKind_25 : decode b_Feed_chooseKind 25 = .ok (.invokevirtual 118, 3) := by decide +kernel
theorem d_Feed_chooseKind_28 : decode b_Feed_chooseKind 28 = .ok (.if_icmp .gt 5, 3) := by decide +kernel
theorem d_Feed_chooseKind_31 : decode b_Feed_chooseKind 31 = .ok (.iload_n 2, 1) := by decide +kernel
theorem d_Feed_chooseKind_32 : decode b_Feed_chooseKind 32 = .ok (.istore_n 1, 1) := by decide +kernel
theorem d_Feed_chooseKind_33 : decode b_Feed_chooseKind 33 = .ok (.iinc 2 (-1), 3) := by decide +kernel
theorem d_Feed_chooseKind_36 : decode b_Feed_chooseKind 36 = .ok (.goto (-30), 3) := by decide +kernel
theorem d_Feed_chooseKind_39 : decode b_Feed_chooseKind 39 = .ok (.iload_n 1, 1) := by decide +kernel
theorem d_Feed_chooseKind_40 : decode b_Feed_chooseKind 40 = .ok (.ireturn, 1) := by decide +kernel
theorem d_Feed_isFit_0 : decode b_Feed_isFit 0 = .ok (.iload_n 1, 1) := by decide +kernel
theorem d_Feed_isFit_1 : decode b_Feed_isFit 1 = .ok (.tableswitch 125 0 4 #[35, 52, 66, 80, 97], 35) := by decide +kernel
theorem d_Feed_isFit_36 : decode b_Feed_isFit 36 = .ok (.aload_n 0, 1) := by decide +kernel
theorem d_Feed_isFit_37 : decode b_Feed_isFit 37 = .ok (.getfield 41, 3) := by decide +kernel
theorem d_Feed_isFit_40 : decode b_Feed_isFit 40 = .ok (.getfield 122, 3) := by decide +kernel
theorem d_Feed_isFit_43 : decode b_Feed_isFit 43 = .ok (.iconst 1, 1) := by decide +kernel
theorem d_Feed_isFit_44 : decode b_Feed_isFit 44 = .ok (.if_icmp .ne 7, 3) := by decide +kernel
theorem d_Feed_isFit_47 : decode b_Feed_isFit 47 = .ok (.iconst 1, 1) := by decide +kernel
theorem d_Feed_isFit_48 : decode b_Feed_isFit 48 = .ok (.goto 4, 3) := by decide +kernel
theorem d_Feed_isFit_51 : decode b_Feed_isFit 51 = .ok (.iconst 0, 1) := by decide +kernel
theorem d_Feed_isFit_52 : decode b_Feed_isFit 52 = .ok (.ireturn, 1) := by decide +kernel
theorem d_Feed_isFit_53 : decode b_Feed_isFit 53 = .ok (.aload_n 0, 1) := by decide +kernel
theorem d_Feed_isFit_54 : decode b_Feed_isFit 54 = .ok (.getfield 91, 3) := by decide +kernel
theorem d_Feed_isFit_57 : decode b_Feed_isFit 57 = .ok (.iconst (-1), 1) := by decide +kernel
theorem d_Feed_isFit_58 : decode b_Feed_isFit 58 = .ok (.if_icmp .eq 7, 3) := by decide +kernel
theorem d_Feed_isFit_61 : decode b_Feed_isFit 61 = .ok (.iconst 1, 1) := by decide +kernel
theorem d_Feed_isFit_62 : decode b_Feed_isFit 62 = .ok (.goto 4, 3) := by decide +kernel
theorem d_Feed_isFit_65 : decode b_Feed_isFit 65 = .ok (.iconst 0, 1) := by decide +kernel
theorem d_Feed_isFit_66 : decode b_Feed_isFit 66 = .ok (.ireturn, 1) := by decide +kernel
theorem d_Feed_isFit_67 : decode b_Feed_isFit 67 = .ok (.aload_n 0, 1) := by decide +kernel
theorem d_Feed_isFit_68 : decode b_Feed_isFit 68 = .ok (.getfield 100, 3) := by decide +kernel
theorem d_Feed_isFit_71 : decode b_Feed_isFit 71 = .ok (.iconst (-1), 1) := by decide +kernel
theorem d_Feed_isFit_72 : decode b_Feed_isFit 72 = .ok (.if_icmp .eq 7, 3) := by decide +kernel
theorem d_Feed_isFit_75 : decode b_Feed_isFit 75 = .ok (.iconst 1, 1) := by decide +kernel
theorem d_Feed_isFit_76 : decode b_Feed_isFit 76 = .ok (.goto 4, 3) := by decide +kernel
theorem d_Feed_isFit_79 : decode b_Feed_isFit 79 = .ok (.iconst 0, 1) := by decide +kernel
theorem d_Feed_isFit_80 : decode b_Feed_isFit 80 = .ok (.ireturn, 1) := by decide +kernel
theorem d_Feed_isFit_81 : decode b_Feed_isFit 81 = .ok (.aload_n 0, 1) := by decide +kernel
theorem d_Feed_isFit_82 : decode b_Feed_isFit 82 = .ok (.getfield 41, 3) := by decide +kernel
theorem d_Feed_isFit_85 : decode b_Feed_isFit 85 = .ok (.getfield 122, 3) := by decide +kernel
theorem d_Feed_isFit_88 : decode b_Feed_isFit 88 = .ok (.iconst 2, 1) := by decide +kernel
theorem d_Feed_isFit_89 : decode b_Feed_isFit 89 = .ok (.if_icmp .ne 7, 3) := by decide +kernel
theorem d_Feed_isFit_92 : decode b_Feed_isFit 92 = .ok (.iconst 1, 1) := by decide +kernel
theorem d_Feed_isFit_93 : decode b_Feed_isFit 93 = .ok (.goto 4, 3) := by decide +kernel
theorem d_Feed_isFit_96 : decode b_Feed_isFit 96 = .ok (.iconst 0, 1) := by decide +kernel
theorem d_Feed_isFit_97 : decode b_Feed_isFit 97 = .ok (.ireturn, 1) := by decide +kernel
theorem d_Feed_isFit_98 : decode b_Feed_isFit 98 = .ok (.aload_n 0, 1) := by decide +kernel
theorem d_Feed_isFit_99 : decode b_Feed_isFit 99 = .ok (.getfield 41, 3) := by decide +kernel
theorem d_Feed_isFit_102 : decode b_Feed_isFit 102 = .ok (.getfield 122, 3) := by decide +kernel
theorem d_Feed_isFit_105 : decode b_Feed_isFit 105 = .ok (.iconst 3, 1) := by decide +kernel
theorem d_Feed_isFit_106 : decode b_Feed_isFit 106 = .ok (.if_icmp .lt 18, 3) := by decide +kernel
theorem d_Feed_isFit_109 : decode b_Feed_isFit 109 = .ok (.aload_n 0, 1) := by decide +kernel
theorem d_Feed_isFit_110 : decode b_Feed_isFit 110 = .ok (.getfield 41, 3) := by decide +kernel
theorem d_Feed_isFit_113 : decode b_Feed_isFit 113 = .ok (.getfield 122, 3) := by decide +kernel
theorem d_Feed_isFit_116 : decode b_Feed_isFit 116 = .ok (.iconst 4, 1) := by decide +kernel
theorem d_Feed_isFit_117 : decode b_Feed_isFit 117 = .ok (.if_icmp .gt 7, 3) := by decide +kernel
theorem d_Feed_isFit_120 : decode b_Feed_isFit 120 = .ok (.iconst 1, 1) := by decide +kernel
theorem d_Feed_isFit_121 : decode b_Feed_isFit 121 = .ok (.goto 4, 3) := by decide +kernel
theorem d_Feed_isFit_124 : decode b_Feed_isFit 124 = .ok (.iconst 0, 1) := by decide +kernel
theorem d_Feed_isFit_125 : decode b_Feed_isFit 125 = .ok (.ireturn, 1) := by decide +kernel
theorem d_Feed_isFit_126 : decode b_Feed_isFit 126 = .ok (.iconst 1, 1) := by decide +kernel
theorem d_Feed_isFit_127 : decode b_Feed_isFit 127 = .ok (.ireturn, 1) := by decide +kernel
theorem d_Feed_lengthOf_0 : decode b_Feed_lengthOf 0 = .ok (.iload_n 1, 1) := by decide +kernel
theorem d_Feed_lengthOf_1 : decode b_Feed_lengthOf 1 = .ok (.tableswitch 73 0 5 #[39, 41, 41, 43, 46, 61], 39) := by decide +kernel
theorem d_Feed_lengthOf_40 : decode b_Feed_lengthOf 40 = .ok (.iconst 2, 1) := by decide +kernel
theorem d_Feed_lengthOf_41 : decode b_Feed_lengthOf 41 = .ok (.ireturn, 1) := by decide +kernel
theorem d_Feed_lengthOf_42 : decode b_Feed_lengthOf 42 = .ok (.iconst 1, 1) := by decide +kernel
theorem d_Feed_lengthOf_43 : decode b_Feed_lengthOf 43 = .ok (.ireturn, 1) := by decide +kernel
theorem d_Feed_lengthOf_44 : decode b_Feed_lengthOf 44 = .ok (.bipush 12, 2) := by decide +kernel
theorem d_Feed_lengthOf_46 : decode b_Feed_lengthOf 46 = .ok (.ireturn, 1) := by decide +kernel
theorem d_Feed_lengthOf_47 : decode b_Feed_lengthOf 47 = .ok (.iconst 1, 1) := by decide +kernel
theorem d_Feed_lengthOf_48 : decode b_Feed_lengthOf 48 = .ok (.iconst 2, 1) := by decide +kernel
theorem d_Feed_lengthOf_49 : decode b_Feed_lengthOf 49 = .ok (.aload_n 0, 1) := by decide +kernel
theorem d_Feed_lengthOf_50 : decode b_Feed_lengthOf 50 = .ok (.getfield 41, 3) := by decide +kernel
theorem d_Feed_lengthOf_53 : decode b_Feed_lengthOf 53 = .ok (.getfield 122, 3) := by decide +kernel
theorem d_Feed_lengthOf_56 : decode b_Feed_lengthOf 56 = .ok (.imul, 1) := by decide +kernel
theorem d_Feed_lengthOf_57 : decode b_Feed_lengthOf 57 = .ok (.iadd, 1) := by decide +kernel
theorem d_Feed_lengthOf_58 : decode b_Feed_lengthOf 58 = .ok (.bipush 16, 2) := by decide +kernel
theorem d_Feed_lengthOf_60 : decode b_Feed_lengthOf 60 = .ok (.iadd, 1) := by decide +kernel
theorem d_Feed_lengthOf_61 : decode b_Feed_lengthOf 61 = .ok (.ireturn, 1) := by decide +kernel
theorem d_Feed_lengthOf_62 : decode b_Feed_lengthOf 62 = .ok (.iconst 1, 1) := by decide +kernel
theorem d_Feed_lengthOf_63 : decode b_Feed_lengthOf 63 = .ok (.iconst 3, 1) := by decide +kernel
theorem d_Feed_lengthOf_64 : decode b_Feed_lengthOf 64 = .ok (.aload_n 0, 1) := by decide +kernel
theorem d_Feed_lengthOf_65 : decode b_Feed_lengthOf 65 = .ok (.getfield 41, 3) := by decide +kernel
theorem d_Feed_lengthOf_68 : decode b_Feed_lengthOf 68 = .ok (.getfield 125, 3) := by decide +kernel
theorem d_Feed_lengthOf_71 : decode b_Feed_lengthOf 71 = .ok (.imul, 1) := by decide +kernel
theorem d_Feed_lengthOf_72 : decode b_Feed_lengthOf 72 = .ok (.iadd, 1) := by decide +kernel
theorem d_Feed_lengthOf_73 : decode b_Feed_lengthOf 73 = .ok (.ireturn, 1) := by decide +kernel
theorem d_Feed_lengthOf_74 : decode b_Feed_lengthOf 74 = .ok (.sipush 128, 3) := by decide +kernel
theorem d_Feed_lengthOf_77 : decode b_Feed_lengthOf 77 = .ok (.ireturn, 1) := by decide +kernel
theorem d_Feed_addContent_0 : decode b_Feed_addContent 0 = .ok (.iload_n 1, 1) := by decide +kernel
theorem d_Feed_addContent_1 : decode b_Feed_addContent 1 = .ok (.tableswitch 137 0 5 #[39, 58, 72, 86, 100, 128], 39) := by decide +kernel
theorem d_Feed_addContent_40 : decode b_Feed_addContent 40 = .ok (.aload_n 0, 1) := by decide +kernel
theorem d_Feed_addContent_41 : decode b_Feed_addContent 41 = .ok (.getfield 30, 3) := by decide +kernel
theorem d_Feed_addContent_44 : decode b_Feed_addContent 44 = .ok (.aload_n 0, 1) := by decide +kernel
theorem d_Feed_addContent_45 : decode b_Feed_addContent 45 = .ok (.getfield 41, 3) := by decide +kernel
theorem d_Feed_addContent_48 : decode b_Feed_addContent 48 = .ok (.getfield 128, 3) := by decide +kernel
theorem d_Feed_addContent_51 : decode b_Feed_addContent 51 = .ok (.iconst 0, 1) := by decide +kernel
theorem d_Feed_addContent_52 : decode b_Feed_addContent 52 = .ok (.iaload, 1) := by decide +kernel
theorem d_Feed_addContent_53 : decode b_Feed_addContent 53 = .ok (.invokevirtual 51, 3) := by decide +kernel
theorem d_Feed_addContent_56 : decode b_Feed_addContent 56 = .ok (.goto 88, 3) := by decide +kernel
theorem d_Feed_addContent_59 : decode b_Feed_addContent 59 = .ok (.aload_n 0, 1) := by decide +kernel
theorem d_Feed_addContent_60 : decode b_Feed_addContent 60 = .ok (.getfield 30, 3) := by decide +kernel
theorem d_Feed_addContent_63 : decode b_Feed_addContent 63 = .ok (.aload_n 0, 1) := by decide +kernel
theorem d_Feed_addContent_64 : decode b_Feed_addContent 64 = .ok (.getfield 91, 3) := by decide +kernel
theorem d_Feed_addContent_67 : decode b_Feed_addContent 67 = .ok (.invokevirtual 48, 3) := by decide +kernel
theorem d_Feed_addContent_70 : decode b_Feed_addContent 70 = .ok (.goto 74, 3) := by decide +kernel
theorem d_Feed_addContent_73 : decode b_Feed_addContent 73 = .ok (.aload_n 0, 1) := by decide +kernel
theorem d_Feed_addContent_74 : decode b_Feed_addContent 74 = .ok (.getfield 30, 3) := by decide +kernel
theorem d_Feed_addContent_77 : decode b_Feed_addContent 77 = .ok (.aload_n 0, 1) := by decide +kernel
theorem d_Feed_addContent_78 : decode b_Feed_addContent 78 = .ok (.getfield 100, 3) := by decide +kernel
theorem d_Feed_addContent_81 : decode b_Feed_addContent 81 = .ok (.invokevirtual 48, 3) := by decide +kernel
theorem d_Feed_addContent_84 : decode b_Feed_addContent 84 = .ok (.goto 60, 3) := by decide +kernel
theorem d_Feed_addContent_87 : decode b_Feed_addContent 87 = .ok (.aload_n 0, 1) := by decide +kernel
theorem d_Feed_addContent_88 : decode b_Feed_addContent 88 = .ok (.invokevirtual 131, 3) := by decide +kernel
theorem d_Feed_addContent_91 : decode b_Feed_addContent 91 = .ok (.aload_n 0, 1) := by decide +kernel
theorem d_Feed_addContent_92 : decode b_Feed_addContent 92 = .ok (.aload_n 2, 1) := by decide +kernel
theorem d_Feed_addContent_93 : decode b_Feed_addContent 93 = .ok (.iload_n 3, 1) := by decide +kernel
theorem d_Feed_addContent_94 : decode b_Feed_addContent 94 = .ok (.iconst 1, 1) := by decide +kernel
theorem d_Feed_addContent_95 : decode b_Feed_addContent 95 = .ok (.invokevirtual 134, 3) := by decide +kernel
theorem d_Feed_addContent_98 : decode b_Feed_addContent 98 = .ok (.goto 46, 3) := by decide +kernel
theorem d_Feed_addContent_101 : decode b_Feed_addContent 101 = .ok (.aload_n 0, 1) := by decide +kernel
theorem d_Feed_addContent_102 : decode b_Feed_addContent 102 = .ok (.getfield 30, 3) := by decide +kernel
theorem d_Feed_addContent_105 : decode b_Feed_addContent 105 = .ok (.aload_n 0, 1) := by decide +kernel
theorem d_Feed_addContent_106 : decode b_Feed_addContent 106 = .ok (.getfield 41, 3) := by decide +kernel
theorem d_Feed_addContent_109 : decode b_Feed_addContent 109 = .ok (.getfield 122, 3) := by decide +kernel
theorem d_Feed_addContent_112 : decode b_Feed_addContent 112 = .ok (.invokevirtual 48, 3) := by decide +kernel
theorem d_Feed_addContent_115 : decode b_Feed_addContent 115 = .ok (.aload_n 0, 1) := by decide +kernel
theorem d_Feed_addContent_116 : decode b_Feed_addContent 116 = .ok (.invokevirtual 131, 3) := by decide +kernel
theorem d_Feed_addContent_119 : decode b_Feed_addContent 119 = .ok (.aload_n 0, 1) := by decide +kernel
theorem d_Feed_addContent_120 : decode b_Feed_addContent 120 = .ok (.aload_n 2, 1) := by decide +kernel
theorem d_Feed_addContent_121 : decode b_Feed_addContent 121 = .ok (.iload_n 3, 1) := by decide +kernel
theorem d_Feed_addContent_122 : decode b_Feed_addContent 122 = .ok (.iconst 2, 1) := by decide +kernel
theorem d_Feed_addContent_123 : decode b_Feed_addContent 123 = .ok (.invokevirtual 134, 3) := by decide +kernel
theorem d_Feed_addContent_126 : decode b_Feed_addContent 126 = .ok (.goto 18, 3) := by decide +kernel
theorem d_Feed_addContent_129 : decode b_Feed_addContent 129 = .ok (.aload_n 0, 1) := by decide +kernel
theorem d_Feed_addContent_130 : decode b_Feed_addContent 130 = .ok (.aload_n 2, 1) := by decide +kernel
theorem d_Feed_addContent_131 : decode b_Feed_addContent 131 = .ok (.iload_n 3, 1) := by decide +kernel
theorem d_Feed_addContent_132 : decode b_Feed_addContent 132 = .ok (.invokevirtual 138, 3) := by decide +kernel
theorem d_Feed_addContent_135 : decode b_Feed_addContent 135 = .ok (.goto 9, 3) := by decide +kernel
theorem d_Feed_addContent_138 : decode b_Feed_addContent 138 = .ok (.aload_n 0, 1) := by decide +kernel
theorem d_Feed_addContent_139 : decode b_Feed_addContent 139 = .ok (.aload_n 2, 1) := by decide +kernel
theorem d_Feed_addContent_140 : decode b_Feed_addContent 140 = .ok (.iload_n 3, 1) := by decide +kernel
theorem d_Feed_addContent_141 : decode b_Feed_addContent 141 = .ok (.invokevirtual 141, 3) := by decide +kernel
theorem d_Feed_addContent_144 : decode b_Feed_addContent 144 = .ok (.return_, 1) := by decide +kernel
theorem d_Feed_addPalette_0 : decode b_Feed_addPalette 0 = .ok (.iconst 0, 1) := by decide +kernel
theorem d_Feed_addPalette_1 : decode b_Feed_addPalette 1 = .ok (.istore_n 1, 1) := by decide +kernel
theorem d_Feed_addPalette_2 : decode b_Feed_addPalette 2 = .ok (.iload_n 1, 1) := by decide +kernel
theorem d_Feed_addPalette_3 : decode b_Feed_addPalette 3 = .ok (.aload_n 0, 1) := by decide +kernel
theorem d_Feed_addPalette_4 : decode b_Feed_addPalette 4 = .ok (.getfield 41, 3) := by decide +kernel
theorem d_Feed_addPalette_7 : decode b_Feed_addPalette 7 = .ok (.getfield 122, 3) := by decide +kernel
theorem d_Feed_addPalette_10 : decode b_Feed_addPalette 10 = .ok (.if_icmp .ge 30, 3) := by decide +kernel
theorem d_Feed_addPalette_13 : decode b_Feed_addPalette 13 = .ok (.iload_n 1, 1) := by decide +kernel
theorem d_Feed_addPalette_14 : decode b_Feed_addPalette 14 = .ok (.iconst 4, 1) := by decide +kernel
theorem d_Feed_addPalette_15 : decode b_Feed_addPalette 15 = .ok (.if_icmp .ge 25, 3) := by decide +kernel
theorem d_Feed_addPalette_18 : decode b_Feed_addPalette 18 = .ok (.aload_n 0, 1) := by decide +kernel
theorem d_Feed_addPalette_19 : decode b_Feed_addPalette 19 = .ok (.getfield 30, 3) := by decide +kernel
theorem d_Feed_addPalette_22 : decode b_Feed_addPalette 22 = .ok (.aload_n 0, 1) := by decide +kernel
theorem d_Feed_addPalette_23 : decode b_Feed_addPalette 23 = .ok (.getfield 41, 3) := by decide +kernel
theorem d_Feed_addPalette_26 : decode b_Feed_addPalette 26 = .ok (.getfield 128, 3) := by decide +kernel
theorem d_Feed_addPalette_29 : decode b_Feed_addPalette 29 = .ok (.iload_n 1, 1) := by decide +kernel
theorem d_Feed_addPalette_30 : decode b_Feed_addPalette 30 = .ok (.iaload, 1) := by decide +kernel
theorem d_Feed_addPalette_31 : decode b_Feed_addPalette 31 = .ok (.invokevirtual 51, 3) := by decide +kernel
theorem d_Feed_addPalette_34 : decode b_Feed_addPalette 34 = .ok (.iinc 1 1, 3) := by decide +kernel
theorem d_Feed_addPalette_37 : decode b_Feed_addPalette 37 = .ok (.goto (-35), 3) := by decide +kernel
theorem d_Feed_addPalette_40 : decode b_Feed_addPalette 40 = .ok (.return_, 1) := by decide +kernel
theorem d_Feed_addBits_0 : decode b_Feed_addBits 0 = .ok (.iconst 0, 1) := by decide +kernel
theorem d_Feed_addBits_1 : decode b_Feed_addBits 1 = .ok (.istore 4, 2) := by decide +kernel
theorem d_Feed_addBits_3 : decode b_Feed_addBits 3 = .ok (.iconst 0, 1) := by decide +kernel
theorem d_Feed_addBits_4 : decode b_Feed_addBits 4 = .ok (.istore 5, 2) := by decide +kernel
theorem d_Feed_addBits_6 : decode b_Feed_addBits 6 = .ok (.iconst 0, 1) := by decide +kernel
theorem d_Feed_addBits_7 : decode b_Feed_addBits 7 = .ok (.istore 6, 2) := by decide +kernel
theorem d_Feed_addBits_9 : decode b_Feed_addBits 9 = .ok (.iload 6, 2) := by decide +kernel
theorem d_Feed_addBits_11 : decode b_Feed_addBits 11 = .ok (.bipush 64, 2) := by decide +kernel
theorem d_Feed_addBits_13 : decode b_Feed_addBits 13 = .ok (.if_icmp .ge 58, 3) := by decide +kernel
theorem d_Feed_addBits_16 : decode b_Feed_addBits 16 = .ok (.iload 4, 2) := by decide +kernel
theorem d_Feed_addBits_18 : decode b_Feed_addBits 18 = .ok (.iload_n 3, 1) := by decide +kernel
theorem d_Feed_addBits_19 : decode b_Feed_addBits 19 = .ok (.ishl, 1) := by decide +kernel
theorem d_Feed_addBits_20 : decode b_Feed_addBits 20 = .ok (.aload_n 0, 1) := by decide +kernel
theorem d_Feed_addBits_21 : decode b_Feed_addBits 21 = .ok (.getfield 41, 3) := by decide +kernel
theorem d_Feed_addBits_24 : decode b_Feed_addBits 24 = .ok (.aload_n 1, 1) := by decide +kernel
theorem d_Feed_addBits_25 : decode b_Feed_addBits 25 = .ok (.iload_n 2, 1) := by decide +kernel
theorem d_Feed_addBits_26 : decode b_Feed_addBits 26 = .ok (.iload 6, 2) := by decide +kernel
theorem d_Feed_addBits_28 : decode b_Feed_addBits 28 = .ok (.invokevirtual 144, 3) := by decide +kernel
theorem d_Feed_addBits_31 : decode b_Feed_addBits 31 = .ok (.invokevirtual 148, 3) := by decide +kernel
theorem d_Feed_addBits_34 : decode b_Feed_addBits 34 = .ok (.ior, 1) := by decide +kernel
theorem d_Feed_addBits_35 : decode b_Feed_addBits 35 = .ok (.istore 4, 2) := by decide +kernel
theorem d_Feed_addBits_37 : decode b_Feed_addBits 37 = .ok (.iload 5, 2) := by decide +kernel
theorem d_Feed_addBits_39 : decode b_Feed_addBits 39 = .ok (.iload_n 3, 1) := by decide +kernel
theorem d_Feed_addBits_40 : decode b_Feed_addBits 40 = .ok (.iadd, 1) := by decide +kernel
theorem d_Feed_addBits_41 : decode b_Feed_addBits 41 = .ok (.istore 5, 2) := by decide +kernel
theorem d_Feed_addBits_43 : decode b_Feed_addBits 43 = .ok (.iload 5, 2) := by decide +kernel
theorem d_Feed_addBits_45 : decode b_Feed_addBits 45 = .ok (.bipush 8, 2) := by decide +kernel
theorem d_Feed_addBits_47 : decode b_Feed_addBits 47 = .ok (.if_icmp .ne 18, 3) := by decide +kernel
theorem d_Feed_addBits_50 : decode b_Feed_addBits 50 = .ok (.aload_n 0, 1) := by decide +kernel
theorem d_Feed_addBits_51 : decode b_Feed_addBits 51 = .ok (.getfield 30, 3) := by decide +kernel
theorem d_Feed_addBits_54 : decode b_Feed_addBits 54 = .ok (.iload 4, 2) := by decide +kernel
theorem d_Feed_addBits_56 : decode b_Feed_addBits 56 = .ok (.invokevirtual 48, 3) := by decide +kernel
theorem d_Feed_addBits_59 : decode b_Feed_addBits 59 = .ok (.iconst 0, 1) := by decide +kernel
theorem d_Feed_addBits_60 : decode b_Feed_addBits 60 = .ok (.istore 4, 2) := by decide +kernel
theorem d_Feed_addBits_62 : decode b_Feed_addBits 62 = .ok (.iconst 0, 1) := by decide +kernel
theorem d_Feed_addBits_63 : decode b_Feed_addBits 63 = .ok (.istore 5, 2) := by decide +kernel
theorem d_Feed_addBits_65 : decode b_Feed_addBits 65 = .ok (.iinc 6 1, 3) := by decide +kernel
theorem d_Feed_addBits_68 : decode b_Feed_addBits 68 = .ok (.goto (-59), 3) := by decide +kernel
theorem d_Feed_addBits_71 : decode b_Feed_addBits 71 = .ok (.return_, 1) := by decide +kernel
theorem d_Feed_addRuns_0 : decode b_Feed_addRuns 0 = .ok (.aload_n 0, 1) := by decide +kernel
theorem d_Feed_addRuns_1 : decode b_Feed_addRuns 1 = .ok (.getfield 30, 3) := by decide +kernel
theorem d_Feed_addRuns_4 : decode b_Feed_addRuns 4 = .ok (.aload_n 0, 1) := by decide +kernel
theorem d_Feed_addRuns_5 : decode b_Feed_addRuns 5 = .ok (.getfield 41, 3) := by decide +kernel
theorem d_Feed_addRuns_8 : decode b_Feed_addRuns 8 = .ok (.getfield 125, 3) := by decide +kernel
theorem d_Feed_addRuns_11 : decode b_Feed_addRuns 11 = .ok (.invokevirtual 48, 3) := by decide +kernel
theorem d_Feed_addRuns_14 : decode b_Feed_addRuns 14 = .ok (.iconst 0, 1) := by decide +kernel
theorem d_Feed_addRuns_15 : decode b_Feed_addRuns 15 = .ok (.istore_n 3, 1) := by decide +kernel
theorem d_Feed_addRuns_16 : decode b_Feed_addRuns 16 = .ok (.iconst 0, 1) := by decide +kernel
theorem d_Feed_addRuns_17 : decode b_Feed_addRuns 17 = .ok (.istore 4, 2) := by decide +kernel
theorem d_Feed_addRuns_19 : decode b_Feed_addRuns 19 = .ok (.iload 4, 2) := by decide +kernel
theorem d_Feed_addRuns_21 : decode b_Feed_addRuns 21 = .ok (.bipush 64, 2) := by decide +kernel
theorem d_Feed_addRuns_23 : decode b_Feed_addRuns 23 = .ok (.if_icmp .ge 61, 3) := by decide +kernel
theorem d_Feed_addRuns_26 : decode b_Feed_addRuns 26 = .ok (.aload_n 1, 1) := by decide +kernel
theorem d_Feed_addRuns_27 : decode b_Feed_addRuns 27 = .ok (.iload_n 2, 1) := by decide +kernel
theorem d_Feed_addRuns_28 : decode b_Feed_addRuns 28 = .ok (.iload 4, 2) := by decide +kernel
theorem d_Feed_addRuns_30 : decode b_Feed_addRuns 30 = .ok (.invokevirtual 144, 3) := by decide +kernel
theorem d_Feed_addRuns_33 : decode b_Feed_addRuns 33 = .ok (.istore 5, 2) := by decide +kernel
theorem d_Feed_addRuns_35 : decode b_Feed_addRuns 35 = .ok (.iinc 3 1, 3) := by decide +kernel
theorem d_Feed_addRuns_38 : decode b_Feed_addRuns 38 = .ok (.iload 4, 2) := by decide +kernel
theorem d_Feed_addRuns_40 : decode b_Feed_addRuns 40 = .ok (.bipush 63, 2) := by decide +kernel
theorem d_Feed_addRuns_42 : decode b_Feed_addRuns 42 = .ok (.if_icmp .eq 17, 3) := by decide +kernel
theorem d_Feed_addRuns_45 : decode b_Feed_addRuns 45 = .ok (.aload_n 1, 1) := by decide +kernel
theorem d_Feed_addRuns_46 : decode b_Feed_addRuns 46 = .ok (.iload_n 2, 1) := by decide +kernel
theorem d_Feed_addRuns_47 : decode b_Feed_addRuns 47 = .ok (.iload 4, 2) := by decide +kernel
theorem d_Feed_addRuns_49 : decode b_Feed_addRuns 49 = .ok (.iconst 1, 1) := by decide +kernel
theorem d_Feed_addRuns_50 : decode b_Feed_addRuns 50 = .ok (.iadd, 1) := by decide +kernel
theorem d_Feed_addRuns_51 : decode b_Feed_addRuns 51 = .ok (.invokevirtual 144, 3) := by decide +kernel
theorem d_Feed_addRuns_54 : decode b_Feed_addRuns 54 = .ok (.iload 5, 2) := by decide +kernel
theorem d_Feed_addRuns_56 : decode b_Feed_addRuns 56 = .ok (.if_icmp .eq 22, 3) := by decide +kernel
theorem d_Feed_addRuns_59 : decode b_Feed_addRuns 59 = .ok (.aload_n 0, 1) := by decide +kernel
theorem d_Feed_addRuns_60 : decode b_Feed_addRuns 60 = .ok (.getfield 30, 3) := by decide +kernel
theorem d_Feed_addRuns_63 : decode b_Feed_addRuns 63 = .ok (.iload_n 3, 1) := by decide +kernel
theorem d_Feed_addRuns_64 : decode b_Feed_addRuns 64 = .ok (.invokevirtual 48, 3) := by decide +kernel
theorem d_Feed_addRuns_67 : decode b_Feed_addRuns 67 = .ok (.aload_n 0, 1) := by decide +kernel
theorem d_Feed_addRuns_68 : decode b_Feed_addRuns 68 = .ok (.getfield 30, 3) := by decide +kernel
theorem d_Feed_addRuns_71 : decode b_Feed_addRuns 71 = .ok (.iload 5, 2) := by decide +kernel
theorem d_Feed_addRuns_73 : decode b_Feed_addRuns 73 = .ok (.invokevirtual 51, 3) := by decide +kernel
theorem d_Feed_addRuns_76 : decode b_Feed_addRuns 76 = .ok (.iconst 0, 1) := by decide +kernel
theorem d_Feed_addRuns_77 : decode b_Feed_addRuns 77 = .ok (.istore_n 3, 1) := by decide +kernel
theorem d_Feed_addRuns_78 : decode b_Feed_addRuns 78 = .ok (.iinc 4 1, 3) := by decide +kernel
theorem d_Feed_addRuns_81 : decode b_Feed_addRuns 81 = .ok (.goto (-62), 3) := by decide +kernel
theorem d_Feed_addRuns_84 : decode b_Feed_addRuns 84 = .ok (.return_, 1) := by decide +kernel
theorem d_Feed_addRaw_0 : decode b_Feed_addRaw 0 = .ok (.iconst 0, 1) := by decide +kernel
theorem d_Feed_addRaw_1 : decode b_Feed_addRaw 1 = .ok (.istore_n 3, 1) := by decide +kernel
theorem d_Feed_addRaw_2 : decode b_Feed_addRaw 2 = .ok (.iload_n 3, 1) := by decide +kernel
theorem d_Feed_addRaw_3 : decode b_Feed_addRaw 3 = .ok (.bipush 64, 2) := by decide +kernel
theorem d_Feed_addRaw_5 : decode b_Feed_addRaw 5 = .ok (.if_icmp .ge 22, 3) := by decide +kernel
theorem d_Feed_addRaw_8 : decode b_Feed_addRaw 8 = .ok (.aload_n 0, 1) := by decide +kernel
theorem d_Feed_addRaw_9 : decode b_Feed_addRaw 9 = .ok (.getfield 30, 3) := by decide +kernel
theorem d_Feed_addRaw_12 : decode b_Feed_addRaw 12 = .ok (.aload_n 1, 1) := by decide +kernel
theorem d_Feed_addRaw_13 : decode b_Feed_addRaw 13 = .ok (.iload_n 2, 1) := by decide +kernel
theorem d_Feed_addRaw_14 : decode b_Feed_addRaw 14 = .ok (.iload_n 3, 1) := by decide +kernel
theorem d_Feed_addRaw_15 : decode b_Feed_addRaw 15 = .ok (.invokevirtual 144, 3) := by decide +kernel
theorem d_Feed_addRaw_18 : decode b_Feed_addRaw 18 = .ok (.invokevirtual 51, 3) := by decide +kernel
theorem d_Feed_addRaw_21 : decode b_Feed_addRaw 21 = .ok (.iinc 3 1, 3) := by decide +kernel
theorem d_Feed_addRaw_24 : decode b_Feed_addRaw 24 = .ok (.goto (-22), 3) := by decide +kernel
theorem d_Feed_addRaw_27 : decode b_Feed_addRaw 27 = .ok (.return_, 1) := by decide +kernel
theorem d_Display_init_0 : decode b_Display_init 0 = .ok (.aload_n 0, 1) := by decide +kernel
theorem d_Display_init_1 : decode b_Display_init 1 = .ok (.invokespecial 3, 3) := by decide +kernel
theorem d_Display_init_4 : decode b_Display_init 4 = .ok (.aload_n 0, 1) := by decide +kernel
theorem d_Display_init_5 : decode b_Display_init 5 = .ok (.new 9, 3) := by decide +kernel
theorem d_Display_init_8 : decode b_Display_init 8 = .ok (.dup, 1) := by decide +kernel
theorem d_Display_init_9 : decode b_Display_init 9 = .ok (.bipush 48, 2) := by decide +kernel
theorem d_Display_init_11 : decode b_Display_init 11 = .ok (.invokespecial 11, 3) := by decide +kernel
theorem d_Display_init_14 : decode b_Display_init 14 = .ok (.putfield 14, 3) := by decide +kernel
theorem d_Display_init_17 : decode b_Display_init 17 = .ok (.aload_n 0, 1) := by decide +kernel
theorem d_Display_init_18 : decode b_Display_init 18 = .ok (.new 9, 3) := by decide +kernel
theorem d_Display_init_21 : decode b_Display_init 21 = .ok (.dup, 1) := by decide +kernel
theorem d_Display_init_22 : decode b_Display_init 22 = .ok (.bipush 48, 2) := by decide +kernel
theorem d_Display_init_24 : decode b_Display_init 24 = .ok (.invokespecial 11, 3) := by decide +kernel
theorem d_Display_init_27 : decode b_Display_init 27 = .ok (.putfield 20, 3) := by decide +kernel
theorem d_Display_init_30 : decode b_Display_init 30 = .ok (.aload_n 0, 1) := by decide +kernel
theorem d_Display_init_31 : decode b_Display_init 31 = .ok (.new 23, 3) := by decide +kernel
theorem d_Display_init_34 : decode b_Display_init 34 = .ok (.dup, 1) := by decide +kernel
theorem d_Display_init_35 : decode b_Display_init 35 = .ok (.invokespecial 25, 3) := by decide +kernel
theorem d_Display_init_38 : decode b_Display_init 38 = .ok (.putfield 26, 3) := by decide +kernel
theorem d_Display_init_41 : decode b_Display_init 41 = .ok (.aload_n 0, 1) := by decide +kernel
theorem d_Display_init_42 : decode b_Display_init 42 = .ok (.sipush 6247, 3) := by decide +kernel
theorem d_Display_init_45 : decode b_Display_init 45 = .ok (.newarray .int, 2) := by decide +kernel
theorem d_Display_init_47 : decode b_Display_init 47 = .ok (.putfield 30, 3) := by decide +kernel
theorem d_Display_init_50 : decode b_Display_init 50 = .ok (.aload_n 0, 1) := by decide +kernel
theorem d_Display_init_51 : decode b_Display_init 51 = .ok (.iconst 4, 1) := by decide +kernel
theorem d_Display_init_52 : decode b_Display_init 52 = .ok (.newarray .int, 2) := by decide +kernel
theorem d_Display_init_54 : decode b_Display_init 54 = .ok (.putfield 34, 3) := by decide +kernel
theorem d_Display_init_57 : decode b_Display_init 57 = .ok (.return_, 1) := by decide +kernel
theorem d_Display_forget_0 : decode b_Display_forget 0 = .ok (.aload_n 0, 1) := by decide +kernel
theorem d_Display_forget_1 : decode b_Display_forget 1 = .ok (.iconst 0, 1) := by decide +kernel
theorem d_Display_forget_2 : decode b_Display_forget 2 = .ok (.putfield 37, 3) := by decide +kernel
theorem d_Display_forget_5 : decode b_Display_forget 5 = .ok (.aload_n 0, 1) := by decide +kernel
theorem d_Display_forget_6 : decode b_Display_forget 6 = .ok (.getfield 26, 3) := by decide +kernel
theorem d_Display_forget_9 : decode b_Display_forget 9 = .ok (.invokevirtual 41, 3) := by decide +kernel
theorem d_Display_forget_12 : decode b_Display_forget 12 = .ok (.return_, 1) := by decide +kernel
theorem d_Display_receive_0 : decode b_Display_receive 0 = .ok (.aload_n 0, 1) := by decide +kernel
theorem d_Display_receive_1 : decode b_Display_receive 1 = .ok (.getfield 37, 3) := by decide +kernel
theorem d_Display_receive_4 : decode b_Display_receive 4 = .ok (.sipush 6247, 3) := by decide +kernel
theorem d_Display_receive_7 : decode b_Display_receive 7 = .ok (.if_icmp .ge 23, 3) := by decide +kernel
theorem d_Display_receive_10 : decode b_Display_receive 10 = .ok (.aload_n 0, 1) := by decide +kernel
theorem d_Display_receive_11 : decode b_Display_receive 11 = .ok (.getfield 30, 3) := by decide +kernel
theorem d_Display_receive_14 : decode b_Display_receive 14 = .ok (.aload_n 0, 1) := by decide +kernel
theorem d_Display_receive_15 : decode b_Display_receive 15 = .ok (.getfield 37, 3) := by decide +kernel
theorem d_Display_receive_18 : decode b_Display_receive 18 = .ok (.iload_n 1, 1) := by decide +kernel
theorem d_Display_receive_19 : decode b_Display_receive 19 = .ok (.iastore, 1) := by decide +kernel
theorem d_Display_receive_20 : decode b_Display_receive 20 = .ok (.aload_n 0, 1) := by decide +kernel
theorem d_Display_receive_21 : decode b_Display_receive 21 = .ok (.dup, 1) := by decide +kernel
theorem d_Display_receive_22 : decode b_Display_receive 22 = .ok (.getfield 37, 3) := by decide +kernel
theorem d_Display_receive_25 : decode b_Display_receive 25 = .ok (.iconst 1, 1) := by decide +kernel
theorem d_Display_receive_26 : decode b_Display_receive 26 = .ok (.iadd, 1) := by decide +kernel
theorem d_Display_receive_27 : decode b_Display_receive 27 = .ok (.putfield 37, 3) := by decide +kernel
theorem d_Display_receive_30 : decode b_Display_receive 30 = .ok (.aload_n 0, 1) := by decide +kernel
theorem d_Display_receive_31 : decode b_Display_receive 31 = .ok (.getfield 37, 3) := by decide +kernel
theorem d_Display_receive_34 : decode b_Display_receive 34 = .ok (.iconst 3, 1) := by decide +kernel
theorem d_Display_receive_35 : decode b_Display_receive 35 = .ok (.if_icmp .ge 5, 3) := by decide +kernel
theorem d_Display_receive_38 : decode b_Display_receive 38 = .ok (.iconst 1, 1) := by decide +kernel
theorem d_Display_receive_39 : decode b_Display_receive 39 = .ok (.ireturn, 1) := by decide +kernel
theorem d_Display_receive_40 : decode b_Display_receive 40 = .ok (.aload_n 0, 1) := by decide +kernel
theorem d_Display_receive_41 : decode b_Display_receive 41 = .ok (.getfield 30, 3) := by decide +kernel
theorem d_Display_receive_44 : decode b_Display_receive 44 = .ok (.iconst 0, 1) := by decide +kernel
theorem d_Display_receive_45 : decode b_Display_receive 45 = .ok (.iaload, 1) := by decide +kernel
theorem d_Display_receive_46 : decode b_Display_receive 46 = .ok (.bipush 16, 2) := by decide +kernel
theorem d_Display_receive_48 : decode b_Display_receive 48 = .ok (.ishl, 1) := by decide +kernel
theorem d_Display_receive_49 : decode b_Display_receive 49 = .ok (.aload_n 0, 1) := by decide +kernel
theorem d_Display_receive_50 : decode b_Display_receive 50 = .ok (.getfield 30, 3) := by decide +kernel
theorem d_Display_receive_53 : decode b_Display_receive 53 = .ok (.iconst 1, 1) := by decide +kernel
theorem d_Display_receive_54 : decode b_Display_receive 54 = .ok (.iaload, 1) := by decide +kernel
theorem d_Display_receive_55 : decode b_Display_receive 55 = .ok (.bipush 8, 2) := by decide +kernel
theorem d_Display_receive_57 : decode b_Display_receive 57 = .ok (.ishl, 1) := by decide +kernel
theorem d_Display_receive_58 : decode b_Display_receive 58 = .ok (.ior, 1) := by decide +kernel
theorem d_Display_receive_59 : decode b_Display_receive 59 = .ok (.aload_n 0, 1) := by decide +kernel
theorem d_Display_receive_60 : decode b_Display_receive 60 = .ok (.getfield 30, 3) := by decide +kernel
theorem d_Display_receive_63 : decode b_Display_receive 63 = .ok (.iconst 2, 1) := by decide +kernel
theorem d_Display_receive_64 : decode b_Display_receive 64 = .ok (.iaload, 1) := by decide +kernel
theorem d_Display_receive_65 : decode b_Display_receive 65 = .ok (.ior, 1) := by decide +kernel
theorem d_Display_receive_66 : decode b_Display_receive 66 = .ok (.istore_n 2, 1) := by decide +kernel
theorem d_Display_receive_67 : decode b_Display_receive 67 = .ok (.iload_n 2, 1) := by decide +kernel
theorem d_Display_receive_68 : decode b_Display_receive 68 = .ok (.iconst 4, 1) := by decide +kernel
theorem d_Display_receive_69 : decode b_Display_receive 69 = .ok (.if_icmp .lt 10, 3) := by decide +kernel
theorem d_Display_receive_72 : decode b_Display_receive 72 = .ok (.iload_n 2, 1) := by decide +kernel
theorem d_Display_receive_73 : decode b_Display_receive 73 = .ok (.sipush 6244, 3) := by decide +kernel
theorem d_Display_receive_76 : decode b_Display_receive 76 = .ok (.if_icmp .le 5, 3) := by decide +kernel
theorem d_Display_receive_79 : decode b_Display_receive 79 = .ok (.iconst 0, 1) := by decide +kernel
theorem d_Display_receive_80 : decode b_Display_receive 80 = .ok (.ireturn, 1) := by decide +kernel
theorem d_Display_receive_81 : decode b_Display_receive 81 = .ok (.aload_n 0, 1) := by decide +kernel
theorem d_Display_receive_82 : decode b_Display_receive 82 = .ok (.getfield 37, 3) := by decide +kernel
theorem d_Display_receive_85 : decode b_Display_receive 85 = .ok (.iconst 3, 1) := by decide +kernel
theorem d_Display_receive_86 : decode b_Display_receive 86 = .ok (.iload_n 2, 1) := by decide +kernel
theorem d_Display_receive_87 : decode b_Display_receive 87 = .ok (.iadd, 1) := by decide +kernel
theorem d_Display_receive_88 : decode b_Display_receive 88 = .ok (.if_icmp .lt 10, 3) := by decide +kernel
theorem d_Display_receive_91 : decode b_Display_receive 91 = .ok (.aload_n 0, 1) := by decide +kernel
theorem d_Display_receive_92 : decode b_Display_receive 92 = .ok (.invokevirtual 44, 3) := by decide +kernel
theorem d_Display_receive_95 : decode b_Display_receive 95 = .ok (.ifCond .eq 7, 3) := by decide +kernel
theorem d_Display_receive_98 : decode b_Display_receive 98 = .ok (.iconst 1, 1) := by decide +kernel
theorem d_Display_receive_99 : decode b_Display_receive 99 = .ok (.goto 4, 3) := by decide +kernel
theorem d_Display_receive_102 : decode b_Display_receive 102 = .ok (.iconst 0, 1) := by decide +kernel
theorem d_Display_receive_103 : decode b_Display_receive 103 = .ok (.ireturn, 1) := by decide +kernel
theorem d_Display_readUpdate_0 : decode b_Display_readUpdate 0 = .ok (.aload_n 0, 1) := by decide +kernel
theorem d_Display_readUpdate_1 : decode b_Display_readUpdate 1 = .ok (.iconst 5, 1) := by decide +kernel
theorem d_Display_readUpdate_2 : decode b_Display_readUpdate 2 = .ok (.putfield 48, 3) := by decide +kernel
theorem d_Display_readUpdate_5 : decode b_Display_readUpdate 5 = .ok (.aload_n 0, 1) := by decide +kernel
theorem d_Display_readUpdate_6 : decode b_Display_readUpdate 6 = .ok (.aload_n 0, 1) := by decide +kernel
theorem d_Display_readUpdate_7 : decode b_Display_readUpdate 7 = .ok (.getfield 37, 3) := by decide +kernel
theorem d_Display_readUpdate_10 : decode b_Display_readUpdate 10 = .ok (.iconst 2, 1) := by decide +kernel
theorem d_Display_readUpdate_11 : decode b_Display_readUpdate 11 = .ok (.isub, 1) := by decide +kernel
theorem d_Display_readUpdate_12 : decode b_Display_readUpdate 12 = .ok (.putfield 51, 3) := by decide +kernel
theorem d_Display_readUpdate_15 : decode b_Display_readUpdate 15 = .ok (.aload_n 0, 1) := by decide +kernel
theorem d_Display_readUpdate_16 : decode b_Display_readUpdate 16 = .ok (.aload_n 0, 1) := by decide +kernel
theorem d_Display_readUpdate_17 : decode b_Display_readUpdate 17 = .ok (.getfield 30, 3) := by decide +kernel
theorem d_Display_readUpdate_20 : decode b_Display_readUpdate 20 = .ok (.iconst 3, 1) := by decide +kernel
theorem d_Display_readUpdate_21 : decode b_Display_readUpdate 21 = .ok (.aload_n 0, 1) := by decide +kernel
theorem d_Display_readUpdate_22 : decode b_Display_readUpdate 22 = .ok (.getfield 51, 3) := by decide +kernel
theorem d_Display_readUpdate_25 : decode b_Display_readUpdate 25 = .ok (.invokestatic 54, 3) := by decide +kernel
theorem d_Display_readUpdate_28 : decode b_Display_readUpdate 28 = .ok (.aload_n 0, 1) := by decide +kernel
theorem d_Display_readUpdate_29 : decode b_Display_readUpdate 29 = .ok (.aload_n 0, 1) := by decide +kernel
theorem d_Display_readUpdate_30 : decode b_Display_readUpdate 30 = .ok (.getfield 51, 3) := by decide +kernel
theorem d_Display_readUpdate_33 : decode b_Display_readUpdate 33 = .ok (.invokevirtual 58, 3) := by decide +kernel
theorem d_Display_readUpdate_36 : decode b_Display_readUpdate 36 = .ok (.if_icmp .eq 7, 3) := by decide +kernel
theorem d_Display_readUpdate_39 : decode b_Display_readUpdate 39 = .ok (.iconst 1, 1) := by decide +kernel
theorem d_Display_readUpdate_40 : decode b_Display_readUpdate 40 = .ok (.goto 4, 3) := by decide +kernel
theorem d_Display_readUpdate_43 : decode b_Display_readUpdate 43 = .ok (.iconst 0, 1) := by decide +kernel
theorem d_Display_readUpdate_44 : decode b_Display_readUpdate 44 = .ok (.putfield 62, 3) := by decide +kernel
theorem d_Display_readUpdate_47 : decode b_Display_readUpdate 47 = .ok (.aload_n 0, 1) := by decide +kernel
theorem d_Display_readUpdate_48 : decode b_Display_readUpdate 48 = .ok (.getfield 20, 3) := by decide +kernel
theorem d_Display_readUpdate_51 : decode b_Display_readUpdate 51 = .ok (.aload_n 0, 1) := by decide +kernel
theorem d_Display_readUpdate_52 : decode b_Display_readUpdate 52 = .ok (.getfield 14, 3) := by decide +kernel
theorem d_Display_readUpdate_55 : decode b_Display_readUpdate 55 = .ok (.invokevirtual 66, 3) := by decide +kernel
theorem d_Display_readUpdate_58 : decode b_Display_readUpdate 58 = .ok (.iconst 0, 1) := by decide +kernel
theorem d_Display_readUpdate_59 : decode b_Display_readUpdate 59 = .ok (.istore_n 1, 1) := by decide +kernel
theorem d_Display_readUpdate_60 : decode b_Display_readUpdate 60 = .ok (.iload_n 1, 1) := by decide +kernel
theorem d_Display_readUpdate_61 : decode b_Display_readUpdate 61 = .ok (.sipush 6244, 3) := by decide +kernel
theorem d_Display_readUpdate_64 : decode b_Display_readUpdate 64 = .ok (.if_icmp .ge 31, 3) := by decide +kernel
theorem d_Display_readUpdate_67 : decode b_Display_readUpdate 67 = .ok (.aload_n 0, 1) := by decide +kernel
theorem d_Display_readUpdate_68 : decode b_Display_readUpdate 68 = .ok (.getfield 48, 3) := by decide +kernel
theorem d_Display_readUpdate_71 : decode b_Display_readUpdate 71 = .ok (.aload_n 0, 1) := by decide +kernel
theorem d_Display_readUpdate_72 : decode b_Display_readUpdate 72 = .ok (.getfield 51, 3) := by decide +kernel
theorem d_Display_readUpdate_75 : decode b_Display_readUpdate 75 = .ok (.if_icmp .ge 20, 3) := by decide +kernel
theorem d_Display_readUpdate_78 : decode b_Display_readUpdate 78 = .ok (.aload_n 0, 1) := by decide +kernel
theorem d_Display_readUpdate_79 : decode b_Display_readUpdate 79 = .ok (.getfield 62, 3) := by decide +kernel
theorem d_Display_readUpdate_82 : decode b_Display_readUpdate 82 = .ok (.ifCond .ne 13, 3) := by decide +kernel
theorem d_Display_readUpdate_85 : decode b_Display_readUpdate 85 = .ok (.aload_n 0, 1) := by decide +kernel
theorem d_Display_readUpdate_86 : decode b_Display_readUpdate 86 = .ok (.invokevirtual 70, 3) := by decide +kernel
theorem d_Display_readUpdate_89 : decode b_Display_readUpdate 89 = .ok (.iinc 1 1, 3) := by decide +kernel
theorem d_Display_readUpdate_92 : decode b_Display_readUpdate 92 = .ok (.goto (-32), 3) := by decide +kernel
theorem d_Display_readUpdate_95 : decode b_Display_readUpdate 95 = .ok (.aload_n 0, 1) := by decide +kernel
theorem d_Display_readUpdate_96 : decode b_Display_readUpdate 96 = .ok (.getfield 62, 3) := by decide +kernel
theorem d_Display_readUpdate_99 : decode b_Display_readUpdate 99 = .ok (.ifCond .eq 5, 3) := by decide +kernel
theorem d_Display_readUpdate_102 : decode b_Display_readUpdate 102 = .ok (.iconst 0, 1) := by decide +kernel
theorem d_Display_readUpdate_103 : decode b_Display_readUpdate 103 = .ok (.ireturn, 1) := by decide +kernel
theorem d_Display_readUpdate_104 : decode b_Display_readUpdate 104 = .ok (.aload_n 0, 1) := by decide +kernel
theorem d_Display_readUpdate_105 : decode b_Display_readUpdate 105 = .ok (.getfield 14, 3) := by decide +kernel
theorem d_Display_readUpdate_108 : decode b_Display_readUpdate 108 = .ok (.aload_n 0, 1) := by decide +kernel
theorem d_Display_readUpdate_109 : decode b_Display_readUpdate 109 = .ok (.getfield 20, 3) := by decide +kernel
theorem d_Display_readUpdate_112 : decode b_Display_readUpdate 112 = .ok (.invokevirtual 66, 3) := by decide +kernel
theorem d_Display_readUpdate_115 : decode b_Display_readUpdate 115 = .ok (.aload_n 0, 1) := by decide +kernel
theorem d_Display_readUpdate_116 : decode b_Display_readUpdate 116 = .ok (.aload_n 0, 1) := by decide +kernel
theorem d_Display_readUpdate_117 : decode b_Display_readUpdate 117 = .ok (.getfield 73, 3) := by decide +kernel
theorem d_Display_readUpdate_120 : decode b_Display_readUpdate 120 = .ok (.aload_n 0, 1) := by decide +kernel
theorem d_Display_readUpdate_121 : decode b_Display_readUpdate 121 = .ok (.iconst 3, 1) := by decide +kernel
theorem d_Display_readUpdate_122 : decode b_Display_readUpdate 122 = .ok (.invokevirtual 58, 3) := by decide +kernel
theorem d_Display_readUpdate_125 : decode b_Display_readUpdate 125 = .ok (.invokestatic 76, 3) := by decide +kernel
theorem d_Display_readUpdate_128 : decode b_Display_readUpdate 128 = .ok (.putfield 73, 3) := by decide +kernel
theorem d_Display_readUpdate_131 : decode b_Display_readUpdate 131 = .ok (.aload_n 0, 1) := by decide +kernel
theorem d_Display_readUpdate_132 : decode b_Display_readUpdate 132 = .ok (.iconst 0, 1) := by decide +kernel
theorem d_Display_readUpdate_133 : decode b_Display_readUpdate 133 = .ok (.putfield 37, 3) := by decide +kernel
theorem d_Display_readUpdate_136 : decode b_Display_readUpdate 136 = .ok (.iconst 1, 1) := by decide +kernel
theorem d_Display_readUpdate_137 : decode b_Display_readUpdate 137 = .ok (.ireturn, 1) := by decide +kernel
theorem d_Display_numberAbove_0 : decode b_Display_numberAbove 0 = .ok (.iload_n 0, 1) := by decide +kernel
theorem d_Display_numberAbove_1 : decode b_Display_numberAbove 1 = .ok (.iconst 1, 1) := by decide +kernel
theorem d_Display_numberAbove_2 : decode b_Display_numberAbove 2 = .ok (.iadd, 1) := by decide +kernel
theorem d_Display_numberAbove_3 : decode b_Display_numberAbove 3 = .ok (.iload_n 1, 1) := by decide +kernel
theorem d_Display_numberAbove_4 : decode b_Display_numberAbove 4 = .ok (.iload_n 0, 1) := by decide +kernel
theorem d_Display_numberAbove_5 : decode b_Display_numberAbove 5 = .ok (.isub, 1) := by decide +kernel
theorem d_Display_numberAbove_6 : decode b_Display_numberAbove 6 = .ok (.iconst 1, 1) := by decide +kernel
theorem d_Display_numberAbove_7 : decode b_Display_numberAbove 7 = .ok (.isub, 1) := by decide +kernel
theorem d_Display_numberAbove_8 : decode b_Display_numberAbove 8 = .ok (.ldc 80, 2) := by decide +kernel
theorem d_Display_numberAbove_10 : decode b_Display_numberAbove 10 = .ok (.invokestatic 81, 3) := by decide +kernel
theorem d_Display_numberAbove_13 : decode b_Display_numberAbove 13 = .ok (.iadd, 1) := by decide +kernel
theorem d_Display_numberAbove_14 : decode b_Display_numberAbove 14 = .ok (.ireturn, 1) := by decide +kernel
theorem d_Display_pairAt_0 : decode b_Display_pairAt 0 = .ok (.aload_n 0, 1) := by decide +kernel
theorem d_Display_pairAt_1 : decode b_Display_pairAt 1 = .ok (.getfield 30, 3) := by decide +kernel
theorem d_Display_pairAt_4 : decode b_Display_pairAt 4 = .ok (.iload_n 1, 1) := by decide +kernel
theorem d_Display_pairAt_5 : decode b_Display_pairAt 5 = .ok (.iaload, 1) := by decide +kernel
theorem d_Display_pairAt_6 : decode b_Display_pairAt 6 = .ok (.bipush 8, 2) := by decide +kernel
theorem d_Display_pairAt_8 : decode b_Display_pairAt 8 = .ok (.ishl, 1) := by decide +kernel
theorem d_Display_pairAt_9 : decode b_Display_pairAt 9 = .ok (.aload_n 0, 1) := by decide +kernel
theorem d_Display_pairAt_10 : decode b_Display_pairAt 10 = .ok (.getfield 30, 3) := by decide +kernel
theorem d_Display_pairAt_13 : decode b_Display_pairAt 13 = .ok (.iload_n 1, 1) := by decide +kernel
theorem d_Display_pairAt_14 : decode b_Display_pairAt 14 = .ok (.iconst 1, 1) := by decide +kernel
theorem d_Display_pairAt_15 : decode b_Display_pairAt 15 = .ok (.iadd, 1) := by decide +kernel
theorem d_Display_pairAt_16 : decode b_Display_pairAt 16 = .ok (.iaload, 1) := by decide +kernel
theorem d_Display_pairAt_17 : decode b_Display_pairAt 17 = .ok (.ior, 1) := by decide +kernel
theorem d_Display_pairAt_18 : decode b_Display_pairAt 18 = .ok (.ireturn, 1) := by decide +kernel
theorem d_Display_readRecord_0 : decode b_Display_readRecord 0 = .ok (.aload_n 0, 1) := by decide +kernel
theorem d_Display_readRecord_1 : decode b_Display_readRecord 1 = .ok (.invokevirtual 86, 3) := by decide +kernel
theorem d_Display_readRecord_4 : decode b_Display_readRecord 4 = .ok (.istore_n 1, 1) := by decide +kernel
theorem d_Display_readRecord_5 : decode b_Display_readRecord 5 = .ok (.aload_n 0, 1) := by decide +kernel
theorem d_Display_readRecord_6 : decode b_Display_readRecord 6 = .ok (.invokevirtual 86, 3) := by decide +kernel
theorem d_Display_readRecord_9 : decode b_Display_readRecord 9 = .ok (.istore_n 2, 1) := by decide +kernel
theorem d_Display_readRecord_10 : decode b_Display_readRecord 10 = .ok (.iload_n 2, 1) := by decide +kernel
theorem d_Display_readRecord_11 : decode b_Display_readRecord 11 = .ok (.bipush 48, 2) := by decide +kernel
theorem d_Display_readRecord_13 : decode b_Display_readRecord 13 = .ok (.if_icmp .lt 9, 3) := by decide +kernel
theorem d_Display_readRecord_16 : decode b_Display_readRecord 16 = .ok (.aload_n 0, 1) := by decide +kernel
theorem d_Display_readRecord_17 : decode b_Display_readRecord 17 = .ok (.iconst 1, 1) := by decide +kernel
theorem d_Display_readRecord_18 : decode b_Display_readRecord 18 = .ok (.putfield 62, 3) := by decide +kernel
theorem d_Display_readRecord_21 : decode b_Display_readRecord 21 = .ok (.return_, 1) := by decide +kernel
theorem d_Display_readRecord_22 : decode b_Display_readRecord 22 = .ok (.iload_n 1, 1) := by decide +kernel
theorem d_Display_readRecord_23 : decode b_Display_readRecord 23 = .ok (.tableswitch 131 0 6 #[41, 56, 70, 92, 102, 115, 123], 41) := by decide +kernel
theorem d_Display_readRecord_64 : decode b_Display_readRecord 64 = .ok (.aload_n 0, 1) := by decide +kernel
theorem d_Display_readRecord_65 : decode b_Display_readRecord 65 = .ok (.iload_n 2, 1) := by decide +kernel
theorem d_Display_readRecord_66 : decode b_Display_readRecord 66 = .ok (.iconst 0, 1) := by decide +kernel
theorem d_Display_readRecord_67 : decode b_Display_readRecord 67 = .ok (.bipush 64, 2) := by decide +kernel
theorem d_Display_readRecord_69 : decode b_Display_readRecord 69 = .ok (.aload_n 0, 1) := by decide +kernel
theorem d_Display_readRecord_70 : decode b_Display_readRecord 70 = .ok (.invokevirtual 90, 3) := by decide +kernel
theorem d_Display_readRecord_73 : decode b_Display_readRecord 73 = .ok (.invokevirtual 93, 3) := by decide +kernel
theorem d_Display_readRecord_76 : decode b_Display_readRecord 76 = .ok (.goto 83, 3) := by decide +kernel
theorem d_Display_readRecord_79 : decode b_Display_readRecord 79 = .ok (.aload_n 0, 1) := by decide +kernel
theorem d_Display_readRecord_80 : decode b_Display_readRecord 80 = .ok (.iload_n 2, 1) := by decide +kernel
theorem d_Display_readRecord_81 : decode b_Display_readRecord 81 = .ok (.aload_n 0, 1) := by decide +kernel
theorem d_Display_readRecord_82 : decode b_Display_readRecord 82 = .ok (.getfield 14, 3) := by decide +kernel
theorem d_Display_readRecord_85 : decode b_Display_readRecord 85 = .ok (.bipush 48, 2) := by decide +kernel
theorem d_Display_readRecord_87 : decode b_Display_readRecord 87 = .ok (.invokevirtual 97, 3) := by decide +kernel
theorem d_Display_readRecord_90 : decode b_Display_readRecord 90 = .ok (.goto 69, 3) := by decide +kernel
theorem d_Display_readRecord_93 : decode b_Display_readRecord 93 = .ok (.aload_n 0, 1) := by decide +kernel
theorem d_Display_readRecord_94 : decode b_Display_readRecord 94 = .ok (.iload_n 2, 1) := by decide +kernel
theorem d_Display_readRecord_95 : decode b_Display_readRecord 95 = .ok (.aload_n 0, 1) := by decide +kernel
theorem d_Display_readRecord_96 : decode b_Display_readRecord 96 = .ok (.getfield 26, 3) := by decide +kernel
theorem d_Display_readRecord_99 : decode b_Display_readRecord 99 = .ok (.getfield 101, 3) := by decide +kernel
theorem d_Display_readRecord_102 : decode b_Display_readRecord 102 = .ok (.aload_n 0, 1) := by decide +kernel
theorem d_Display_readRecord_103 : decode b_Display_readRecord 103 = .ok (.getfield 26, 3) := by decide +kernel
theorem d_Display_readRecord_106 : decode b_Display_readRecord 106 = .ok (.getfield 104, 3) := by decide +kernel
theorem d_Display_readRecord_109 : decode b_Display_readRecord 109 = .ok (.invokevirtual 97, 3) := by decide +kernel
theorem d_Display_readRecord_112 : decode b_Display_readRecord 112 = .ok (.goto 47, 3) := by decide +kernel
theorem d_Display_readRecord_115 : decode b_Display_readRecord 115 = .ok (.aload_n 0, 1) := by decide +kernel
theorem d_Display_readRecord_116 : decode b_Display_readRecord 116 = .ok (.iload_n 2, 1) := by decide +kernel
theorem d_Display_readRecord_117 : decode b_Display_readRecord 117 = .ok (.iconst 2, 1) := by decide +kernel
theorem d_Display_readRecord_118 : decode b_Display_readRecord 118 = .ok (.iconst 1, 1) := by decide +kernel
theorem d_Display_readRecord_119 : decode b_Display_readRecord 119 = .ok (.invokevirtual 107, 3) := by decide +kernel
theorem d_Display_readRecord_122 : decode b_Display_readRecord 122 = .ok (.goto 37, 3) := by decide +kernel
theorem d_Display_readRecord_125 : decode b_Display_readRecord 125 = .ok (.aload_n 0, 1) := by decide +kernel
theorem d_Display_readRecord_126 : decode b_Display_readRecord 126 = .ok (.iload_n 2, 1) := by decide +kernel
theorem d_Display_readRecord_127 : decode b_Display_readRecord 127 = .ok (.aload_n 0, 1) := by decide +kernel
theorem d_Display_readRecord_128 : decode b_Display_readRecord 128 = .ok (.invokevirtual 111, 3) := by decide +kernel
theorem d_Display_readRecord_131 : decode b_Display_readRecord 131 = .ok (.iconst 2, 1) := by decide +kernel
theorem d_Display_readRecord_132 : decode b_Display_readRecord 132 = .ok (.invokevirtual 107, 3) := by decide +kernel
theorem d_Display_readRecord_135 : decode b_Display_readRecord 135 = .ok (.goto 24, 3) := by decide +kernel
theorem d_Display_readRecord_138 : decode b_Display_readRecord 138 = .ok (.aload_n 0, 1) := by decide +kernel
theorem d_Display_readRecord_139 : decode b_Display_readRecord 139 = .ok (.iload_n 2, 1) := by decide +kernel
theorem d_Display_readRecord_140 : decode b_Display_readRecord 140 = .ok (.invokevirtual 114, 3) := by decide +kernel
theorem d_Display_readRecord_143 : decode b_Display_readRecord 143 = .ok (.goto 16, 3) := by decide +kernel
theorem d_Display_readRecord_146 : decode b_Display_readRecord 146 = .ok (.aload_n 0, 1) := by decide +kernel
theorem d_Display_readRecord_147 : decode b_Display_readRecord 147 = .ok (.iload_n 2, 1) := by decide +kernel
theorem d_Display_readRecord_148 : decode b_Display_readRecord 148 = .ok (.invokevirtual 117, 3) := by decide +kernel
theorem d_Display_readRecord_151 : decode b_Display_readRecord 151 = .ok (.goto 8, 3) := by decide +kernel
theorem d_Display_readRecord_154 : decode b_Display_readRecord 154 = .ok (.aload_n 0, 1) := by decide +kernel
theorem d_Display_readRecord_155 : decode b_Display_readRecord 155 = .ok (.iconst 1, 1) := by decide +kernel
theorem d_Display_readRecord_156 : decode b_Display_readRecord 156 = .ok (.putfield 62, 3) := by decide +kernel
theorem d_Display_readRecord_159 : decode b_Display_readRecord 159 = .ok (.iload_n 1, 1) := by decide +kernel
theorem d_Display_readRecord_160 : decode b_Display_readRecord 160 = .ok (.iconst 3, 1) := by decide +kernel
theorem d_Display_readRecord_161 : decode b_Display_readRecord 161 = .ok (.if_icmp .lt 22, 3) := by decide +kernel
theorem d_Display_readRecord_164 : decode b_Display_readRecord 164 = .ok (.aload_n 0, 1) := by decide +kernel
theorem d_Display_readRecord_165 : decode b_Display_readRecord 165 = .ok (.getfield 62, 3) := by decide +kernel
theorem d_Display_readRecord_168 : decode b_Display_readRecord 168 = .ok (.ifCond .ne 15, 3) := by decide +kernel
theorem d_Display_readRecord_171 : decode b_Display_readRecord 171 = .ok (.aload_n 0, 1) := by decide +kernel
theorem d_Display_readRecord_172 : decode b_Display_readRecord 172 = .ok (.getfield 26, 3) := by decide +kernel
theorem d_Display_readRecord_175 : decode b_Display_readRecord 175 = .ok (.aload_n 0, 1) := by decide +kernel
theorem d_Display_readRecord_176 : decode b_Display_readRecord 176 = .ok (.getfield 20, 3) := by decide +kernel
theorem d_Display_readRecord_179 : decode b_Display_readRecord 179 = .ok (.iload_n 2, 1) := by decide +kernel
theorem d_Display_readRecord_180 : decode b_Display_readRecord 180 = .ok (.invokevirtual 120, 3) := by decide +kernel
theorem d_Display_readRecord_183 : decode b_Display_readRecord 183 = .ok (.return_, 1) := by decide +kernel
theorem d_Display_readSource_0 : decode b_Display_readSource 0 = .ok (.aload_n 0, 1) := by decide +kernel
theorem d_Display_readSource_1 : decode b_Display_readSource 1 = .ok (.invokevirtual 86, 3) := by decide +kernel
theorem d_Display_readSource_4 : decode b_Display_readSource 4 = .ok (.istore 4, 2) := by decide +kernel
theorem d_Display_readSource_6 : decode b_Display_readSource 6 = .ok (.iload 4, 2) := by decide +kernel
theorem d_Display_readSource_8 : decode b_Display_readSource 8 = .ok (.iload_n 3, 1) := by decide +kernel
theorem d_Display_readSource_9 : decode b_Display_readSource 9 = .ok (.if_icmp .ge 17, 3) := by decide +kernel
theorem d_Display_readSource_12 : decode b_Display_readSource 12 = .ok (.aload_n 0, 1) := by decide +kernel
theorem d_Display_readSource_13 : decode b_Display_readSource 13 = .ok (.getfield 20, 3) := by decide +kernel
theorem d_Display_readSource_16 : decode b_Display_readSource 16 = .ok (.iload_n 1, 1) := by decide +kernel
theorem d_Display_readSource_17 : decode b_Display_readSource 17 = .ok (.aload_n 2, 1) := by decide +kernel
theorem d_Display_readSource_18 : decode b_Display_readSource 18 = .ok (.iload 4, 2) := by decide +kernel
theorem d_Display_readSource_20 : decode b_Display_readSource 20 = .ok (.invokevirtual 124, 3) := by decide +kernel
theorem d_Display_readSource_23 : decode b_Display_readSource 23 = .ok (.goto 8, 3) := by decide +kernel
theorem d_Display_readSource_26 : decode b_Display_readSource 26 = .ok (.aload_n 0, 1) := by decide +kernel
theorem d_Display_readSource_27 : decode b_Display_readSource 27 = .ok (.iconst 1, 1) := by decide +kernel
theorem d_Display_readSource_28 : decode b_Display_readSource 28 = .ok (.putfield 62, 3) := by decide +kernel
theorem d_Display_readSource_31 : decode b_Display_readSource 31 = .ok (.return_, 1) := by decide +kernel
theorem d_Display_readColourCount_0 : decode b_Display_readColourCount 0 = .ok (.aload_n 0, 1) := by decide +kernel
theorem d_Display_readColourCount_1 : decode b_Display_readColourCount 1 = .ok (.invokevirtual 86, 3) := by decide +kernel
theorem d_Display_readColourCount_4 : decode b_Display_readColourCount 4 = .ok (.istore_n 1, 1) := by decide +kernel
theorem d_Display_readColourCount_5 : decode b_Display_readColourCount 5 = .ok (.iload_n 1, 1) := by decide +kernel
theorem d_Display_readColourCount_6 : decode b_Display_readColourCount 6 = .ok (.iconst 3, 1) := by decide +kernel
theorem d_Display_readColourCount_7 : decode b_Display_readColourCount 7 = .ok (.if_icmp .lt 8, 3) := by decide +kernel
theorem d_Display_readColourCount_10 : decode b_Display_readColourCount 10 = .ok (.iload_n 1, 1) := by decide +kernel
theorem d_Display_readColourCount_11 : decode b_Display_readColourCount 11 = .ok (.iconst 4, 1) := by decide +kernel
theorem d_Display_readColourCount_12 : decode b_Display_readColourCount 12 = .ok (.if_icmp .le 10, 3) := by decide +kernel
theorem d_Display_readColourCount_15 : decode b_Display_readColourCount 15 = .ok (.aload_n 0, 1) := by decide +kernel
theorem d_Display_readColourCount_16 : decode b_Display_readColourCount 16 = .ok (.iconst 1, 1) := by decide +kernel
theorem d_Display_readColourCount_17 : decode b_Display_readColourCount 17 = .ok (.putfield 62, 3) := by decide +kernel
theorem d_Display_readColourCount_20 : decode b_Display_readColourCount 20 = .ok (.iconst 0, 1) := by decide +kernel
theorem d_Display_readColourCount_21 : decode b_Display_readColourCount 21 = .ok (.ireturn, 1) := by decide +kernel
end
