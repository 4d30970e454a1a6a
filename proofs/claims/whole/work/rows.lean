section
-- ===== PART A: goes FIRST, ahead of the names: the tables' words, and 'selects' of the private methods out of them =====
/-- a private method of a class that the tables say can be made, by its rows of tables_1 -/
def lw_okq (q : MethodName × Nat) : Prop := (q.1.cls ≠ "java/lang/invoke/MethodHandle" ∧ q.1.cls ≠ "java/lang/invoke/VarHandle") ∧ Cond.instantiable q.1.cls q.2 ∈ tables_1 ∧ Cond.privateMethod q.1 ∈ tables_1 ∧ Cond.instanceMethod q.1 ∈ tables_1
theorem lw_p0 : lw_okq (⟨"TileScreen$Feed", "addRecord", "(LTileScreen$Tiles;I)V"⟩, 8) := ⟨⟨by decide +kernel, by decide +kernel⟩, List.mem_of_getElem? (i := 48) (by decide +kernel), List.mem_of_getElem? (i := 358) (by decide +kernel), List.mem_of_getElem? (i := 359) (by decide +kernel)⟩
theorem lw_p1 : lw_okq (⟨"TileScreen$Look", "meet", "(I)V"⟩, 3) := ⟨⟨by decide +kernel, by decide +kernel⟩, List.mem_of_getElem? (i := 98) (by decide +kernel), List.mem_of_getElem? (i := 367) (by decide +kernel), List.mem_of_getElem? (i := 368) (by decide +kernel)⟩
theorem lw_p2 : lw_okq (⟨"TileScreen$Feed", "chooseKind", "()I"⟩, 8) := ⟨⟨by decide +kernel, by decide +kernel⟩, List.mem_of_getElem? (i := 48) (by decide +kernel), List.mem_of_getElem? (i := 380) (by decide +kernel), List.mem_of_getElem? (i := 381) (by decide +kernel)⟩
theorem lw_p3 : lw_okq (⟨"TileScreen$Feed", "isFit", "(I)Z"⟩, 8) := ⟨⟨by decide +kernel, by decide +kernel⟩, List.mem_of_getElem? (i := 48) (by decide +kernel), List.mem_of_getElem? (i := 384) (by decide +kernel), List.mem_of_getElem? (i := 385) (by decide +kernel)⟩
theorem lw_p4 : lw_okq (⟨"TileScreen$Feed", "lengthOf", "(I)I"⟩, 8) := ⟨⟨by decide +kernel, by decide +kernel⟩, List.mem_of_getElem? (i := 48) (by decide +kernel), List.mem_of_getElem? (i := 388) (by decide +kernel), List.mem_of_getElem? (i := 389) (by decide +kernel)⟩
theorem lw_p5 : lw_okq (⟨"TileScreen$Feed", "addContent", "(ILTileScreen$Tiles;I)V"⟩, 8) := ⟨⟨by decide +kernel, by decide +kernel⟩, List.mem_of_getElem? (i := 48) (by decide +kernel), List.mem_of_getElem? (i := 392) (by decide +kernel), List.mem_of_getElem? (i := 393) (by decide +kernel)⟩
theorem lw_p6 : lw_okq (⟨"TileScreen$Feed", "addPalette", "()V"⟩, 8) := ⟨⟨by decide +kernel, by decide +kernel⟩, List.mem_of_getElem? (i := 48) (by decide +kernel), List.mem_of_getElem? (i := 396) (by decide +kernel), List.mem_of_getElem? (i := 397) (by decide +kernel)⟩
theorem lw_p7 : lw_okq (⟨"TileScreen$Feed", "addBits", "(LTileScreen$Tiles;II)V"⟩, 8) := ⟨⟨by decide +kernel, by decide +kernel⟩, List.mem_of_getElem? (i := 48) (by decide +kernel), List.mem_of_getElem? (i := 400) (by decide +kernel), List.mem_of_getElem? (i := 401) (by decide +kernel)⟩
theorem lw_p8 : lw_okq (⟨"TileScreen$Feed", "addRuns", "(LTileScreen$Tiles;I)V"⟩, 8) := ⟨⟨by decide +kernel, by decide +kernel⟩, List.mem_of_getElem? (i := 48) (by decide +kernel), List.mem_of_getElem? (i := 406) (by decide +kernel), List.mem_of_getElem? (i := 407) (by decide +kernel)⟩
theorem lw_p9 : lw_okq (⟨"TileScreen$Feed", "addRaw", "(LTileScreen$Tiles;I)V"⟩, 8) := ⟨⟨by decide +kernel, by decide +kernel⟩, List.mem_of_getElem? (i := 48) (by decide +kernel), List.mem_of_getElem? (i := 410) (by decide +kernel), List.mem_of_getElem? (i := 411) (by decide +kernel)⟩
theorem lw_p10 : lw_okq (⟨"TileScreen$Display", "readUpdate", "()Z"⟩, 10) := ⟨⟨by decide +kernel, by decide +kernel⟩, List.mem_of_getElem? (i := 151) (by decide +kernel), List.mem_of_getElem? (i := 445) (by decide +kernel), List.mem_of_getElem? (i := 446) (by decide +kernel)⟩
theorem lw_p11 : lw_okq (⟨"TileScreen$Display", "pairAt", "(I)I"⟩, 10) := ⟨⟨by decide +kernel, by decide +kernel⟩, List.mem_of_getElem? (i := 151) (by decide +kernel), List.mem_of_getElem? (i := 450) (by decide +kernel), List.mem_of_getElem? (i := 451) (by decide +kernel)⟩
theorem lw_p12 : lw_okq (⟨"TileScreen$Display", "readRecord", "()V"⟩, 10) := ⟨⟨by decide +kernel, by decide +kernel⟩, List.mem_of_getElem? (i := 151) (by decide +kernel), List.mem_of_getElem? (i := 455) (by decide +kernel), List.mem_of_getElem? (i := 456) (by decide +kernel)⟩
theorem lw_p13 : lw_okq (⟨"TileScreen$Display", "readByte", "()I"⟩, 10) := ⟨⟨by decide +kernel, by decide +kernel⟩, List.mem_of_getElem? (i := 151) (by decide +kernel), List.mem_of_getElem? (i := 459) (by decide +kernel), List.mem_of_getElem? (i := 460) (by decide +kernel)⟩
theorem lw_p14 : lw_okq (⟨"TileScreen$Display", "readColour", "()I"⟩, 10) := ⟨⟨by decide +kernel, by decide +kernel⟩, List.mem_of_getElem? (i := 151) (by decide +kernel), List.mem_of_getElem? (i := 463) (by decide +kernel), List.mem_of_getElem? (i := 464) (by decide +kernel)⟩
theorem lw_p15 : lw_okq (⟨"TileScreen$Display", "paint", "(IIII)V"⟩, 10) := ⟨⟨by decide +kernel, by decide +kernel⟩, List.mem_of_getElem? (i := 151) (by decide +kernel), List.mem_of_getElem? (i := 467) (by decide +kernel), List.mem_of_getElem? (i := 468) (by decide +kernel)⟩
def lw_privs_1 : List (MethodName × Nat) := [(⟨"TileScreen$Feed", "addRecord", "(LTileScreen$Tiles;I)V"⟩, 8), (⟨"TileScreen$Look", "meet", "(I)V"⟩, 3), (⟨"TileScreen$Feed", "chooseKind", "()I"⟩, 8), (⟨"TileScreen$Feed", "isFit", "(I)Z"⟩, 8), (⟨"TileScreen$Feed", "lengthOf", "(I)I"⟩, 8), (⟨"TileScreen$Feed", "addContent", "(ILTileScreen$Tiles;I)V"⟩, 8), (⟨"TileScreen$Feed", "addPalette", "()V"⟩, 8), (⟨"TileScreen$Feed", "addBits", "(LTileScreen$Tiles;II)V"⟩, 8), (⟨"TileScreen$Feed", "addRuns", "(LTileScreen$Tiles;I)V"⟩, 8), (⟨"TileScreen$Feed", "addRaw", "(LTileScreen$Tiles;I)V"⟩, 8), (⟨"TileScreen$Display", "readUpdate", "()Z"⟩, 10), (⟨"TileScreen$Display", "pairAt", "(I)I"⟩, 10), (⟨"TileScreen$Display", "readRecord", "()V"⟩, 10), (⟨"TileScreen$Display", "readByte", "()I"⟩, 10), (⟨"TileScreen$Display", "readColour", "()I"⟩, 10), (⟨"TileScreen$Display", "paint", "(IIII)V"⟩, 10)]
theorem lw_r1 : ∀ q ∈ lw_privs_1, lw_okq q := List.forall_mem_cons.mpr ⟨lw_p0, List.forall_mem_cons.mpr ⟨lw_p1, List.forall_mem_cons.mpr ⟨lw_p2, List.forall_mem_cons.mpr ⟨lw_p3, List.forall_mem_cons.mpr ⟨lw_p4, List.forall_mem_cons.mpr ⟨lw_p5, List.forall_mem_cons.mpr ⟨lw_p6, List.forall_mem_cons.mpr ⟨lw_p7, List.forall_mem_cons.mpr ⟨lw_p8, List.forall_mem_cons.mpr ⟨lw_p9, List.forall_mem_cons.mpr ⟨lw_p10, List.forall_mem_cons.mpr ⟨lw_p11, List.forall_mem_cons.mpr ⟨lw_p12, List.forall_mem_cons.mpr ⟨lw_p13, List.forall_mem_cons.mpr ⟨lw_p14, List.forall_mem_cons.mpr ⟨lw_p15, fun _ h => absurd h List.not_mem_nil⟩⟩⟩⟩⟩⟩⟩⟩⟩⟩⟩⟩⟩⟩⟩⟩
theorem lw_p16 : lw_okq (⟨"TileScreen$Display", "readSource", "(ILTileScreen$Tiles;I)V"⟩, 10) := ⟨⟨by decide +kernel, by decide +kernel⟩, List.mem_of_getElem? (i := 151) (by decide +kernel), List.mem_of_getElem? (i := 472) (by decide +kernel), List.mem_of_getElem? (i := 473) (by decide +kernel)⟩
theorem lw_p17 : lw_okq (⟨"TileScreen$Display", "readPixels", "(III)V"⟩, 10) := ⟨⟨by decide +kernel, by decide +kernel⟩, List.mem_of_getElem? (i := 151) (by decide +kernel), List.mem_of_getElem? (i := 477) (by decide +kernel), List.mem_of_getElem? (i := 478) (by decide +kernel)⟩
theorem lw_p18 : lw_okq (⟨"TileScreen$Display", "readColourCount", "()I"⟩, 10) := ⟨⟨by decide +kernel, by decide +kernel⟩, List.mem_of_getElem? (i := 151) (by decide +kernel), List.mem_of_getElem? (i := 481) (by decide +kernel), List.mem_of_getElem? (i := 482) (by decide +kernel)⟩
theorem lw_p19 : lw_okq (⟨"TileScreen$Display", "readRuns", "(I)V"⟩, 10) := ⟨⟨by decide +kernel, by decide +kernel⟩, List.mem_of_getElem? (i := 151) (by decide +kernel), List.mem_of_getElem? (i := 485) (by decide +kernel), List.mem_of_getElem? (i := 486) (by decide +kernel)⟩
theorem lw_p20 : lw_okq (⟨"TileScreen$Display", "readRaw", "(I)V"⟩, 10) := ⟨⟨by decide +kernel, by decide +kernel⟩, List.mem_of_getElem? (i := 151) (by decide +kernel), List.mem_of_getElem? (i := 489) (by decide +kernel), List.mem_of_getElem? (i := 490) (by decide +kernel)⟩
theorem lw_p21 : lw_okq (⟨"java/lang/Throwable", "fillInStackTrace", "(I)Ljava/lang/Throwable;"⟩, 6) := ⟨⟨by decide +kernel, by decide +kernel⟩, List.mem_of_getElem? (i := 584) (by decide +kernel), List.mem_of_getElem? (i := 582) (by decide +kernel), List.mem_of_getElem? (i := 583) (by decide +kernel)⟩
theorem lw_p22 : lw_okq (⟨"TileScreenModel", "become", "(II)V"⟩, 27) := ⟨⟨by decide +kernel, by decide +kernel⟩, List.mem_of_getElem? (i := 630) (by decide +kernel), List.mem_of_getElem? (i := 738) (by decide +kernel), List.mem_of_getElem? (i := 739) (by decide +kernel)⟩
theorem lw_p23 : lw_okq (⟨"TileScreenModel", "leave", "(I)V"⟩, 27) := ⟨⟨by decide +kernel, by decide +kernel⟩, List.mem_of_getElem? (i := 630) (by decide +kernel), List.mem_of_getElem? (i := 765) (by decide +kernel), List.mem_of_getElem? (i := 766) (by decide +kernel)⟩
theorem lw_p24 : lw_okq (⟨"TileScreenModel", "compose", "(I)V"⟩, 27) := ⟨⟨by decide +kernel, by decide +kernel⟩, List.mem_of_getElem? (i := 630) (by decide +kernel), List.mem_of_getElem? (i := 778) (by decide +kernel), List.mem_of_getElem? (i := 779) (by decide +kernel)⟩
theorem lw_p25 : lw_okq (⟨"TileScreenModel", "send", "(II)V"⟩, 27) := ⟨⟨by decide +kernel, by decide +kernel⟩, List.mem_of_getElem? (i := 630) (by decide +kernel), List.mem_of_getElem? (i := 782) (by decide +kernel), List.mem_of_getElem? (i := 783) (by decide +kernel)⟩
theorem lw_p26 : lw_okq (⟨"TileScreenModel", "sameTile", "(IIII)Z"⟩, 27) := ⟨⟨by decide +kernel, by decide +kernel⟩, List.mem_of_getElem? (i := 630) (by decide +kernel), List.mem_of_getElem? (i := 786) (by decide +kernel), List.mem_of_getElem? (i := 787) (by decide +kernel)⟩
theorem lw_p27 : lw_okq (⟨"TileScreenModel", "findColours", "()V"⟩, 27) := ⟨⟨by decide +kernel, by decide +kernel⟩, List.mem_of_getElem? (i := 630) (by decide +kernel), List.mem_of_getElem? (i := 790) (by decide +kernel), List.mem_of_getElem? (i := 791) (by decide +kernel)⟩
theorem lw_p28 : lw_okq (⟨"TileScreenModel", "numberOf", "(I)I"⟩, 27) := ⟨⟨by decide +kernel, by decide +kernel⟩, List.mem_of_getElem? (i := 630) (by decide +kernel), List.mem_of_getElem? (i := 794) (by decide +kernel), List.mem_of_getElem? (i := 795) (by decide +kernel)⟩
theorem lw_p29 : lw_okq (⟨"TileScreenModel", "write", "(III)Z"⟩, 27) := ⟨⟨by decide +kernel, by decide +kernel⟩, List.mem_of_getElem? (i := 630) (by decide +kernel), List.mem_of_getElem? (i := 798) (by decide +kernel), List.mem_of_getElem? (i := 799) (by decide +kernel)⟩
theorem lw_p30 : lw_okq (⟨"TileScreenModel", "put", "(I)V"⟩, 27) := ⟨⟨by decide +kernel, by decide +kernel⟩, List.mem_of_getElem? (i := 630) (by decide +kernel), List.mem_of_getElem? (i := 802) (by decide +kernel), List.mem_of_getElem? (i := 803) (by decide +kernel)⟩
theorem lw_p31 : lw_okq (⟨"TileScreenModel", "likeTile", "(I)I"⟩, 27) := ⟨⟨by decide +kernel, by decide +kernel⟩, List.mem_of_getElem? (i := 630) (by decide +kernel), List.mem_of_getElem? (i := 806) (by decide +kernel), List.mem_of_getElem? (i := 807) (by decide +kernel)⟩
def lw_privs_2 : List (MethodName × Nat) := [(⟨"TileScreen$Display", "readSource", "(ILTileScreen$Tiles;I)V"⟩, 10), (⟨"TileScreen$Display", "readPixels", "(III)V"⟩, 10), (⟨"TileScreen$Display", "readColourCount", "()I"⟩, 10), (⟨"TileScreen$Display", "readRuns", "(I)V"⟩, 10), (⟨"TileScreen$Display", "readRaw", "(I)V"⟩, 10), (⟨"java/lang/Throwable", "fillInStackTrace", "(I)Ljava/lang/Throwable;"⟩, 6), (⟨"TileScreenModel", "become", "(II)V"⟩, 27), (⟨"TileScreenModel", "leave", "(I)V"⟩, 27), (⟨"TileScreenModel", "compose", "(I)V"⟩, 27), (⟨"TileScreenModel", "send", "(II)V"⟩, 27), (⟨"TileScreenModel", "sameTile", "(IIII)Z"⟩, 27), (⟨"TileScreenModel", "findColours", "()V"⟩, 27), (⟨"TileScreenModel", "numberOf", "(I)I"⟩, 27), (⟨"TileScreenModel", "write", "(III)Z"⟩, 27), (⟨"TileScreenModel", "put", "(I)V"⟩, 27), (⟨"TileScreenModel", "likeTile", "(I)I"⟩, 27)]
theorem lw_r2 : ∀ q ∈ lw_privs_2, lw_okq q := List.forall_mem_cons.mpr ⟨lw_p16, List.forall_mem_cons.mpr ⟨lw_p17, List.forall_mem_cons.mpr ⟨lw_p18, List.forall_mem_cons.mpr ⟨lw_p19, List.forall_mem_cons.mpr ⟨lw_p20, List.forall_mem_cons.mpr ⟨lw_p21, List.forall_mem_cons.mpr ⟨lw_p22, List.forall_mem_cons.mpr ⟨lw_p23, List.forall_mem_cons.mpr ⟨lw_p24, List.forall_mem_cons.mpr ⟨lw_p25, List.forall_mem_cons.mpr ⟨lw_p26, List.forall_mem_cons.mpr ⟨lw_p27, List.forall_mem_cons.mpr ⟨lw_p28, List.forall_mem_cons.mpr ⟨lw_p29, List.forall_mem_cons.mpr ⟨lw_p30, List.forall_mem_cons.mpr ⟨lw_p31, fun _ h => absurd h List.not_mem_nil⟩⟩⟩⟩⟩⟩⟩⟩⟩⟩⟩⟩⟩⟩⟩⟩
theorem lw_p32 : lw_okq (⟨"TileScreenModel", "likeEntry", "(I)I"⟩, 27) := ⟨⟨by decide +kernel, by decide +kernel⟩, List.mem_of_getElem? (i := 630) (by decide +kernel), List.mem_of_getElem? (i := 810) (by decide +kernel), List.mem_of_getElem? (i := 811) (by decide +kernel)⟩
theorem lw_p33 : lw_okq (⟨"TileScreenModel", "putTwo", "(I)V"⟩, 27) := ⟨⟨by decide +kernel, by decide +kernel⟩, List.mem_of_getElem? (i := 630) (by decide +kernel), List.mem_of_getElem? (i := 814) (by decide +kernel), List.mem_of_getElem? (i := 815) (by decide +kernel)⟩
theorem lw_p34 : lw_okq (⟨"TileScreenModel", "putBits", "(I)V"⟩, 27) := ⟨⟨by decide +kernel, by decide +kernel⟩, List.mem_of_getElem? (i := 630) (by decide +kernel), List.mem_of_getElem? (i := 818) (by decide +kernel), List.mem_of_getElem? (i := 819) (by decide +kernel)⟩
theorem lw_p35 : lw_okq (⟨"TileScreenModel", "putRuns", "()V"⟩, 27) := ⟨⟨by decide +kernel, by decide +kernel⟩, List.mem_of_getElem? (i := 630) (by decide +kernel), List.mem_of_getElem? (i := 822) (by decide +kernel), List.mem_of_getElem? (i := 823) (by decide +kernel)⟩
theorem lw_p36 : lw_okq (⟨"TileScreenModel", "keep", "(I)V"⟩, 27) := ⟨⟨by decide +kernel, by decide +kernel⟩, List.mem_of_getElem? (i := 630) (by decide +kernel), List.mem_of_getElem? (i := 826) (by decide +kernel), List.mem_of_getElem? (i := 827) (by decide +kernel)⟩
theorem lw_p37 : lw_okq (⟨"TileScreenModel", "take", "(II)Z"⟩, 27) := ⟨⟨by decide +kernel, by decide +kernel⟩, List.mem_of_getElem? (i := 630) (by decide +kernel), List.mem_of_getElem? (i := 830) (by decide +kernel), List.mem_of_getElem? (i := 831) (by decide +kernel)⟩
theorem lw_p38 : lw_okq (⟨"TileScreenModel", "whole", "(I)Z"⟩, 27) := ⟨⟨by decide +kernel, by decide +kernel⟩, List.mem_of_getElem? (i := 630) (by decide +kernel), List.mem_of_getElem? (i := 834) (by decide +kernel), List.mem_of_getElem? (i := 835) (by decide +kernel)⟩
theorem lw_p39 : lw_okq (⟨"TileScreenModel", "getTwo", "(I)I"⟩, 27) := ⟨⟨by decide +kernel, by decide +kernel⟩, List.mem_of_getElem? (i := 630) (by decide +kernel), List.mem_of_getElem? (i := 838) (by decide +kernel), List.mem_of_getElem? (i := 839) (by decide +kernel)⟩
theorem lw_p40 : lw_okq (⟨"TileScreenModel", "get", "(I)I"⟩, 27) := ⟨⟨by decide +kernel, by decide +kernel⟩, List.mem_of_getElem? (i := 630) (by decide +kernel), List.mem_of_getElem? (i := 842) (by decide +kernel), List.mem_of_getElem? (i := 843) (by decide +kernel)⟩
theorem lw_p41 : lw_okq (⟨"TileScreenModel", "read", "(II)Z"⟩, 27) := ⟨⟨by decide +kernel, by decide +kernel⟩, List.mem_of_getElem? (i := 630) (by decide +kernel), List.mem_of_getElem? (i := 846) (by decide +kernel), List.mem_of_getElem? (i := 847) (by decide +kernel)⟩
theorem lw_p42 : lw_okq (⟨"TileScreenModel", "readLike", "(III)Z"⟩, 27) := ⟨⟨by decide +kernel, by decide +kernel⟩, List.mem_of_getElem? (i := 630) (by decide +kernel), List.mem_of_getElem? (i := 850) (by decide +kernel), List.mem_of_getElem? (i := 851) (by decide +kernel)⟩
theorem lw_p43 : lw_okq (⟨"TileScreenModel", "readRuns", "(I)Z"⟩, 27) := ⟨⟨by decide +kernel, by decide +kernel⟩, List.mem_of_getElem? (i := 630) (by decide +kernel), List.mem_of_getElem? (i := 854) (by decide +kernel), List.mem_of_getElem? (i := 855) (by decide +kernel)⟩
def lw_privs_3 : List (MethodName × Nat) := [(⟨"TileScreenModel", "likeEntry", "(I)I"⟩, 27), (⟨"TileScreenModel", "putTwo", "(I)V"⟩, 27), (⟨"TileScreenModel", "putBits", "(I)V"⟩, 27), (⟨"TileScreenModel", "putRuns", "()V"⟩, 27), (⟨"TileScreenModel", "keep", "(I)V"⟩, 27), (⟨"TileScreenModel", "take", "(II)Z"⟩, 27), (⟨"TileScreenModel", "whole", "(I)Z"⟩, 27), (⟨"TileScreenModel", "getTwo", "(I)I"⟩, 27), (⟨"TileScreenModel", "get", "(I)I"⟩, 27), (⟨"TileScreenModel", "read", "(II)Z"⟩, 27), (⟨"TileScreenModel", "readLike", "(III)Z"⟩, 27), (⟨"TileScreenModel", "readRuns", "(I)Z"⟩, 27)]
theorem lw_r3 : ∀ q ∈ lw_privs_3, lw_okq q := List.forall_mem_cons.mpr ⟨lw_p32, List.forall_mem_cons.mpr ⟨lw_p33, List.forall_mem_cons.mpr ⟨lw_p34, List.forall_mem_cons.mpr ⟨lw_p35, List.forall_mem_cons.mpr ⟨lw_p36, List.forall_mem_cons.mpr ⟨lw_p37, List.forall_mem_cons.mpr ⟨lw_p38, List.forall_mem_cons.mpr ⟨lw_p39, List.forall_mem_cons.mpr ⟨lw_p40, List.forall_mem_cons.mpr ⟨lw_p41, List.forall_mem_cons.mpr ⟨lw_p42, List.forall_mem_cons.mpr ⟨lw_p43, fun _ h => absurd h List.not_mem_nil⟩⟩⟩⟩⟩⟩⟩⟩⟩⟩⟩⟩
def lw_privs : List (MethodName × Nat) := lw_privs_1 ++ (lw_privs_2 ++ (lw_privs_3))
def lw_tbl : List Cond := k2_sels lw_privs ++ tables_1
theorem lw_privs_ok : ∀ q ∈ lw_privs, lw_okq q := by
  show ∀ q ∈ lw_privs_1 ++ (lw_privs_2 ++ (lw_privs_3)), lw_okq q
  exact List.forall_mem_append.mpr ⟨lw_r1, List.forall_mem_append.mpr ⟨lw_r2, lw_r3⟩⟩
end
section
/-! ROWS OVER NATURAL NUMBERS: an int that is not negative is nI n; an array of such is nF F. Each row is the kit's row with its number named. -/
def nF (F : Nat → Nat) : Nat → Int32 := fun j => nI (F j)
def up (F : Nat → Nat) (k v : Nat) : Nat → Nat := fun j => if j = k then v else F j
theorem up_s (F : Nat → Nat) (k v : Nat) : up F k v k = v := by unfold up; rw [if_pos rfl]
theorem up_n (F : Nat → Nat) {k j : Nat} (v : Nat) (h : j ≠ k) : up F k v j = F j := by unfold up; rw [if_neg h]
theorem upd_nF (F : Nat → Nat) (k v : Nat) : upd (nF F) k (nI v) = nF (up F k v) := by
  funext j
  unfold upd nF up
  by_cases h : j = k
  · rw [if_pos h, if_pos h]
  · rw [if_neg h, if_neg h]
theorem cpy_nF (F G : Nat → Nat) (sp dp n : Nat) : va_cpy (nF F) (nF G) sp dp n = nF (va_cpy F G sp dp n) := by
  funext j
  show (if dp ≤ j ∧ j < dp + n then nI (F (sp + (j - dp))) else nI (G j)) = nI (if dp ≤ j ∧ j < dp + n then F (sp + (j - dp)) else G j)
  by_cases h : dp ≤ j ∧ j < dp + n
  · rw [if_pos h, if_pos h]
  · rw [if_neg h, if_neg h]
theorem nF_0 : (fun _ => (0 : Int32)) = nF (fun _ => 0) := rfl
theorem nb_and (a b : Nat) : nI a &&& nI b = nI (a &&& b) := by
  apply Int32.toBitVec_inj.1
  show BitVec.ofNat 32 a &&& BitVec.ofNat 32 b = BitVec.ofNat 32 (a &&& b)
  apply BitVec.eq_of_getLsbD_eq
  intro i hi
  simp [hi]
theorem nb_or (a b : Nat) : nI a ||| nI b = nI (a ||| b) := by
  apply Int32.toBitVec_inj.1
  show BitVec.ofNat 32 a ||| BitVec.ofNat 32 b = BitVec.ofNat 32 (a ||| b)
  apply BitVec.eq_of_getLsbD_eq
  intro i hi
  simp [hi]
theorem nb_xor (a b : Nat) : nI a ^^^ nI b = nI (a ^^^ b) := by
  apply Int32.toBitVec_inj.1
  show BitVec.ofNat 32 a ^^^ BitVec.ofNat 32 b = BitVec.ofNat 32 (a ^^^ b)
  apply BitVec.eq_of_getLsbD_eq
  intro i hi
  simp [hi]
theorem nb_sh : ∀ k, k < 32 → ((nI k &&& 31).toBitVec.smod 32).toNat = k := by decide +kernel
theorem nb_shl {a k : Nat} (hk : k < 32) (h : a * 2 ^ k < 2 ^ 32) : nI a <<< (nI k &&& 31) = nI (a * 2 ^ k) := pk_shlN _ k (nb_sh k hk) h
theorem nb_shr {a k : Nat} (hk : k < 32) (h : a < 2 ^ 31) : nI a >>> (nI k &&& 31) = nI (a / 2 ^ k) := pk_shrN h _ k (nb_sh k hk)
theorem nb_orA {a b k : Nat} (hb : b < 2 ^ k) : nI (a * 2 ^ k) ||| nI b = nI (a * 2 ^ k + b) := by
  rw [nb_or, Nat.mul_comm, ← Nat.two_pow_add_eq_or_of_lt hb]
theorem nb_msk {a k : Nat} : nI a &&& nI (2 ^ k - 1) = nI (a % 2 ^ k) := by
  rw [nb_and, Nat.and_two_pow_sub_one_eq_mod]
theorem nb_ne {a b : Nat} (ha : a < 2 ^ 31) (hb : b < 2 ^ 31) (h : a ≠ b) : ¬ nI a = nI b := fun q => h ((nI_eq ha hb).mp q)
section
variable {p : Program} {l : Launch} {e : Env} {R : Room} {s : State} {m : MethodId} {args : Array Value} {below : List Frame} {meth : Method} {c : Code} {H : Heap} {locs : List Loc} {cells slots : Nat} {Q : State → Prop}
variable {cc : ByteArray} {pc : Nat} {ls : Array Slot} {rest : List Value}
/-- the top of the stack by another name for the same number -/
theorem nv_top {x y : Int32} (h : x = y) (k : W p l e R s m args below meth c H locs cells slots Q (F0 m pc ls (.int y :: rest))) : W p l e R s m args below meth c H locs cells slots Q (F0 m pc ls (.int x :: rest)) := h ▸ k
theorem nv_iadd (hx : p.tables.exec = Jvm.exec) (hb : c.code = cc) {a b : Nat} (hdg : decode cc pc = .ok (.iadd, 1))
    (k : W p l e R s m args below meth c H locs cells slots Q (F0 m (pc + 1) ls (.int (nI (a + b)) :: rest))) : W p l e R s m args below meth c H locs cells slots Q (F0 m pc ls (.int (nI b) :: .int (nI a) :: rest)) :=
  lv_iadd hx hb hdg (nv_top (nI_add a b) k)
theorem nv_isub (hx : p.tables.exec = Jvm.exec) (hb : c.code = cc) {a b : Nat} (h : b ≤ a) (hdg : decode cc pc = .ok (.isub, 1))
    (k : W p l e R s m args below meth c H locs cells slots Q (F0 m (pc + 1) ls (.int (nI (a - b)) :: rest))) : W p l e R s m args below meth c H locs cells slots Q (F0 m pc ls (.int (nI b) :: .int (nI a) :: rest)) :=
  lv_isub hx hb hdg (nv_top (pk_sub h) k)
theorem nv_imul (hx : p.tables.exec = Jvm.exec) (hb : c.code = cc) {a b : Nat} (hdg : decode cc pc = .ok (.imul, 1))
    (k : W p l e R s m args below meth c H locs cells slots Q (F0 m (pc + 1) ls (.int (nI (a * b)) :: rest))) : W p l e R s m args below meth c H locs cells slots Q (F0 m pc ls (.int (nI b) :: .int (nI a) :: rest)) :=
  lv_imul hx hb hdg (nv_top (pk_mul a b) k)
theorem nv_idiv (hx : p.tables.exec = Jvm.exec) (hb : c.code = cc) {a b : Nat} (ha : a < 2 ^ 31) (h0 : 0 < b) (hd : b < 2 ^ 31) (hdg : decode cc pc = .ok (.idiv, 1))
    (k : W p l e R s m args below meth c H locs cells slots Q (F0 m (pc + 1) ls (.int (nI (a / b)) :: rest))) : W p l e R s m args below meth c H locs cells slots Q (F0 m pc ls (.int (nI b) :: .int (nI a) :: rest)) :=
  lv_idiv hx hb hdg (nI_ne0 h0 hd) (nv_top (pk_div ha h0 hd) k)
theorem nv_irem (hx : p.tables.exec = Jvm.exec) (hb : c.code = cc) {a b : Nat} (ha : a < 2 ^ 31) (h0 : 0 < b) (hd : b < 2 ^ 31) (hdg : decode cc pc = .ok (.irem, 1))
    (k : W p l e R s m args below meth c H locs cells slots Q (F0 m (pc + 1) ls (.int (nI (a % b)) :: rest))) : W p l e R s m args below meth c H locs cells slots Q (F0 m pc ls (.int (nI b) :: .int (nI a) :: rest)) :=
  lv_irem hx hb hdg (nI_ne0 h0 hd) (nv_top (pk_rem ha h0 hd) k)
theorem nv_ishl (hx : p.tables.exec = Jvm.exec) (hb : c.code = cc) {a b : Nat} (hk : b < 32) (h : a * 2 ^ b < 2 ^ 32) (hdg : decode cc pc = .ok (.ishl, 1))
    (k : W p l e R s m args below meth c H locs cells slots Q (F0 m (pc + 1) ls (.int (nI (a * 2 ^ b)) :: rest))) : W p l e R s m args below meth c H locs cells slots Q (F0 m pc ls (.int (nI b) :: .int (nI a) :: rest)) :=
  lv_ishl hx hb hdg (nv_top (nb_shl hk h) k)
theorem nv_ishr (hx : p.tables.exec = Jvm.exec) (hb : c.code = cc) {a b : Nat} (hk : b < 32) (h : a < 2 ^ 31) (hdg : decode cc pc = .ok (.ishr, 1))
    (k : W p l e R s m args below meth c H locs cells slots Q (F0 m (pc + 1) ls (.int (nI (a / 2 ^ b)) :: rest))) : W p l e R s m args below meth c H locs cells slots Q (F0 m pc ls (.int (nI b) :: .int (nI a) :: rest)) :=
  lv_ishr hx hb hdg (nv_top (nb_shr hk h) k)
theorem nv_iand (hx : p.tables.exec = Jvm.exec) (hb : c.code = cc) {a b r : Nat} (h : a &&& b = r) (hdg : decode cc pc = .ok (.iand, 1))
    (k : W p l e R s m args below meth c H locs cells slots Q (F0 m (pc + 1) ls (.int (nI r) :: rest))) : W p l e R s m args below meth c H locs cells slots Q (F0 m pc ls (.int (nI b) :: .int (nI a) :: rest)) :=
  lv_iand hx hb hdg (nv_top (by rw [nb_and, h]) k)
/-- a mask of the j lowest bits -/
theorem nv_iandm (hx : p.tables.exec = Jvm.exec) (hb : c.code = cc) {a b : Nat} (j : Nat) (h : b = 2 ^ j - 1) (hdg : decode cc pc = .ok (.iand, 1))
    (k : W p l e R s m args below meth c H locs cells slots Q (F0 m (pc + 1) ls (.int (nI (a % 2 ^ j)) :: rest))) : W p l e R s m args below meth c H locs cells slots Q (F0 m pc ls (.int (nI b) :: .int (nI a) :: rest)) :=
  lv_iand hx hb hdg (nv_top (by rw [h]; exact nb_msk) k)
theorem nv_ior (hx : p.tables.exec = Jvm.exec) (hb : c.code = cc) {a b r : Nat} (h : a ||| b = r) (hdg : decode cc pc = .ok (.ior, 1))
    (k : W p l e R s m args below meth c H locs cells slots Q (F0 m (pc + 1) ls (.int (nI r) :: rest))) : W p l e R s m args below meth c H locs cells slots Q (F0 m pc ls (.int (nI b) :: .int (nI a) :: rest)) :=
  lv_ior hx hb hdg (nv_top (by rw [nb_or, h]) k)
theorem nv_ixor (hx : p.tables.exec = Jvm.exec) (hb : c.code = cc) {a b : Nat} (hdg : decode cc pc = .ok (.ixor, 1))
    (k : W p l e R s m args below meth c H locs cells slots Q (F0 m (pc + 1) ls (.int (nI (a ^^^ b)) :: rest))) : W p l e R s m args below meth c H locs cells slots Q (F0 m pc ls (.int (nI b) :: .int (nI a) :: rest)) :=
  lv_ixor hx hb hdg (nv_top (nb_xor a b) k)
theorem nv_icmp_lt (hx : p.tables.exec = Jvm.exec) (hb : c.code = cc) {a b : Nat} {off : Int} {tgt : Nat} (hdg : decode cc pc = .ok (.if_icmp .lt off, 3)) (ht : (pc : Int) + off = (tgt : Int)) (ha : a < 2 ^ 31) (hb2 : b < 2 ^ 31)
    (kt : a < b → W p l e R s m args below meth c H locs cells slots Q (F0 m tgt ls rest)) (kf : b ≤ a → W p l e R s m args below meth c H locs cells slots Q (F0 m (pc + 3) ls rest)) : W p l e R s m args below meth c H locs cells slots Q (F0 m pc ls (.int (nI b) :: .int (nI a) :: rest)) :=
  lv_icmp_lt hx hb hdg ht (fun h => kt ((nI_ltI ha hb2).mp h)) (fun h => kf (Nat.le_of_not_lt fun q => h ((nI_ltI ha hb2).mpr q)))
theorem nv_icmp_ge (hx : p.tables.exec = Jvm.exec) (hb : c.code = cc) {a b : Nat} {off : Int} {tgt : Nat} (hdg : decode cc pc = .ok (.if_icmp .ge off, 3)) (ht : (pc : Int) + off = (tgt : Int)) (ha : a < 2 ^ 31) (hb2 : b < 2 ^ 31)
    (kt : b ≤ a → W p l e R s m args below meth c H locs cells slots Q (F0 m tgt ls rest)) (kf : a < b → W p l e R s m args below meth c H locs cells slots Q (F0 m (pc + 3) ls rest)) : W p l e R s m args below meth c H locs cells slots Q (F0 m pc ls (.int (nI b) :: .int (nI a) :: rest)) :=
  lv_icmp_ge hx hb hdg ht (fun h => kt ((nI_leI hb2 ha).mp h)) (fun h => kf (Nat.lt_of_not_le fun q => h ((nI_leI hb2 ha).mpr q)))
theorem nv_icmp_le (hx : p.tables.exec = Jvm.exec) (hb : c.code = cc) {a b : Nat} {off : Int} {tgt : Nat} (hdg : decode cc pc = .ok (.if_icmp .le off, 3)) (ht : (pc : Int) + off = (tgt : Int)) (ha : a < 2 ^ 31) (hb2 : b < 2 ^ 31)
    (kt : a ≤ b → W p l e R s m args below meth c H locs cells slots Q (F0 m tgt ls rest)) (kf : b < a → W p l e R s m args below meth c H locs cells slots Q (F0 m (pc + 3) ls rest)) : W p l e R s m args below meth c H locs cells slots Q (F0 m pc ls (.int (nI b) :: .int (nI a) :: rest)) :=
  lv_icmp_le hx hb hdg ht (fun h => kt ((nI_leI ha hb2).mp h)) (fun h => kf (Nat.lt_of_not_le fun q => h ((nI_leI ha hb2).mpr q)))
theorem nv_icmp_gt (hx : p.tables.exec = Jvm.exec) (hb : c.code = cc) {a b : Nat} {off : Int} {tgt : Nat} (hdg : decode cc pc = .ok (.if_icmp .gt off, 3)) (ht : (pc : Int) + off = (tgt : Int)) (ha : a < 2 ^ 31) (hb2 : b < 2 ^ 31)
    (kt : b < a → W p l e R s m args below meth c H locs cells slots Q (F0 m tgt ls rest)) (kf : a ≤ b → W p l e R s m args below meth c H locs cells slots Q (F0 m (pc + 3) ls rest)) : W p l e R s m args below meth c H locs cells slots Q (F0 m pc ls (.int (nI b) :: .int (nI a) :: rest)) :=
  lv_icmp_gt hx hb hdg ht (fun h => kt ((nI_ltI hb2 ha).mp h)) (fun h => kf (Nat.le_of_not_lt fun q => h ((nI_ltI hb2 ha).mpr q)))
theorem nv_icmp_eq (hx : p.tables.exec = Jvm.exec) (hb : c.code = cc) {a b : Nat} {off : Int} {tgt : Nat} (hdg : decode cc pc = .ok (.if_icmp .eq off, 3)) (ht : (pc : Int) + off = (tgt : Int)) (ha : a < 2 ^ 31) (hb2 : b < 2 ^ 31)
    (kt : a = b → W p l e R s m args below meth c H locs cells slots Q (F0 m tgt ls rest)) (kf : a ≠ b → W p l e R s m args below meth c H locs cells slots Q (F0 m (pc + 3) ls rest)) : W p l e R s m args below meth c H locs cells slots Q (F0 m pc ls (.int (nI b) :: .int (nI a) :: rest)) :=
  lv_icmp_eq hx hb hdg ht (fun h => kt ((nI_eq ha hb2).mp h)) (fun h => kf (fun q => h ((nI_eq ha hb2).mpr q)))
theorem nv_icmp_ne (hx : p.tables.exec = Jvm.exec) (hb : c.code = cc) {a b : Nat} {off : Int} {tgt : Nat} (hdg : decode cc pc = .ok (.if_icmp .ne off, 3)) (ht : (pc : Int) + off = (tgt : Int)) (ha : a < 2 ^ 31) (hb2 : b < 2 ^ 31)
    (kt : a ≠ b → W p l e R s m args below meth c H locs cells slots Q (F0 m tgt ls rest)) (kf : a = b → W p l e R s m args below meth c H locs cells slots Q (F0 m (pc + 3) ls rest)) : W p l e R s m args below meth c H locs cells slots Q (F0 m pc ls (.int (nI b) :: .int (nI a) :: rest)) :=
  lv_icmp_ne hx hb hdg ht (fun h => kt (fun q => h ((nI_eq ha hb2).mpr q))) (fun h => kf ((nI_eq ha hb2).mp h))
theorem nv_if_eq (hx : p.tables.exec = Jvm.exec) (hb : c.code = cc) {a : Nat} {off : Int} {tgt : Nat} (hdg : decode cc pc = .ok (.ifCond .eq off, 3)) (ht : (pc : Int) + off = (tgt : Int)) (ha : a < 2 ^ 31)
    (kt : a = 0 → W p l e R s m args below meth c H locs cells slots Q (F0 m tgt ls rest)) (kf : a ≠ 0 → W p l e R s m args below meth c H locs cells slots Q (F0 m (pc + 3) ls rest)) : W p l e R s m args below meth c H locs cells slots Q (F0 m pc ls (.int (nI a) :: rest)) :=
  lv_if_eq hx hb hdg ht (fun h => kt ((nI_eq ha (by decide)).mp h)) (fun h => kf (fun q => h (by rw [q]; rfl)))
theorem nv_if_ne (hx : p.tables.exec = Jvm.exec) (hb : c.code = cc) {a : Nat} {off : Int} {tgt : Nat} (hdg : decode cc pc = .ok (.ifCond .ne off, 3)) (ht : (pc : Int) + off = (tgt : Int)) (ha : a < 2 ^ 31)
    (kt : a ≠ 0 → W p l e R s m args below meth c H locs cells slots Q (F0 m tgt ls rest)) (kf : a = 0 → W p l e R s m args below meth c H locs cells slots Q (F0 m (pc + 3) ls rest)) : W p l e R s m args below meth c H locs cells slots Q (F0 m pc ls (.int (nI a) :: rest)) :=
  lv_if_ne hx hb hdg ht (fun h => kt (fun q => h (by rw [q]; rfl))) (fun h => kf ((nI_eq ha (by decide)).mp h))
/-- a number that is not negative, held against 0 -/
theorem nv_if_ltF (hx : p.tables.exec = Jvm.exec) (hb : c.code = cc) {a : Nat} {off : Int} (tgt : Nat) (hdg : decode cc pc = .ok (.ifCond .lt off, 3)) (ht : (pc : Int) + off = (tgt : Int)) (ha : a < 2 ^ 31)
    (kf : W p l e R s m args below meth c H locs cells slots Q (F0 m (pc + 3) ls rest)) : W p l e R s m args below meth c H locs cells slots Q (F0 m pc ls (.int (nI a) :: rest)) :=
  lv_if_lt hx hb hdg ht (fun h => absurd h (nI_pos ha)) (fun _ => kf)
theorem nv_if_geT (hx : p.tables.exec = Jvm.exec) (hb : c.code = cc) {a : Nat} {off : Int} {tgt : Nat} (hdg : decode cc pc = .ok (.ifCond .ge off, 3)) (ht : (pc : Int) + off = (tgt : Int)) (ha : a < 2 ^ 31)
    (kt : W p l e R s m args below meth c H locs cells slots Q (F0 m tgt ls rest)) : W p l e R s m args below meth c H locs cells slots Q (F0 m pc ls (.int (nI a) :: rest)) :=
  lv_if_ge hx hb hdg ht (fun _ => kt) (fun h => absurd (nI_pos' ha) h)
theorem nv_if_le (hx : p.tables.exec = Jvm.exec) (hb : c.code = cc) {a : Nat} {off : Int} {tgt : Nat} (hdg : decode cc pc = .ok (.ifCond .le off, 3)) (ht : (pc : Int) + off = (tgt : Int)) (ha : a < 2 ^ 31)
    (kt : a = 0 → W p l e R s m args below meth c H locs cells slots Q (F0 m tgt ls rest)) (kf : 0 < a → W p l e R s m args below meth c H locs cells slots Q (F0 m (pc + 3) ls rest)) : W p l e R s m args below meth c H locs cells slots Q (F0 m pc ls (.int (nI a) :: rest)) :=
  lv_if_le hx hb hdg ht (fun h => kt (Nat.le_zero.mp ((nI_leI ha (by decide)).mp h))) (fun h => kf (Nat.pos_of_ne_zero fun q => h (by rw [q]; decide)))
theorem nv_if_gt (hx : p.tables.exec = Jvm.exec) (hb : c.code = cc) {a : Nat} {off : Int} {tgt : Nat} (hdg : decode cc pc = .ok (.ifCond .gt off, 3)) (ht : (pc : Int) + off = (tgt : Int)) (ha : a < 2 ^ 31)
    (kt : 0 < a → W p l e R s m args below meth c H locs cells slots Q (F0 m tgt ls rest)) (kf : a = 0 → W p l e R s m args below meth c H locs cells slots Q (F0 m (pc + 3) ls rest)) : W p l e R s m args below meth c H locs cells slots Q (F0 m pc ls (.int (nI a) :: rest)) :=
  lv_if_gt hx hb hdg ht (fun h => kt (Nat.pos_of_ne_zero fun q => by rw [q] at h; exact absurd h (by decide))) (fun h => kf (Classical.byContradiction fun q => h ((nI_ltI (by decide) ha).mpr (Nat.pos_of_ne_zero q))))
end
end
section
/-! CONTRACTS AND CALLS: one form of contract for all methods: a start world, a post world, the frame; a call is one row. -/
def nw_ok : Cond → Bool
  | .fieldLinkNest .. => true
  | .methodLinkNest .. => true
  | .castable .. => true
  | _ => false
theorem nw_on {w : Cond} (h : nw_ok w = true) : w.onTables = true := by
  cases w with
  | fieldLinkNest => rfl
  | methodLinkNest => rfl
  | castable => rfl
  | _ => exact Bool.noConfusion h
/-- what a world stands on: the classes, the array classes, the words of the nest -/
def gk (cl : List vw_C) (nw : List Cond) (D : va_G) (tys : List (ClassId × FieldType)) (U : State) : Prop := va_K D cl tys U ∧ ∀ w ∈ nw, nw_ok w = true ∧ va_Nw w U
theorem gk.warm {cl : List vw_C} {nw : List Cond} {D : va_G} {tys : List (ClassId × FieldType)} {s U : State} (hW : s.WarmedH U.vm) (h : gk cl nw D tys s) : gk cl nw D tys U := by
  refine ⟨va_K.moved hW.alike h.1, fun w hw => ⟨(h.2 w hw).1, ?_⟩⟩
  obtain ⟨h2, h1⟩ := h.2 w hw
  cases w with
  | fieldLinkNest => exact va_Nw.warmF hW h1
  | methodLinkNest => exact va_Nw.warmM hW h1
  | castable => exact va_Nw.warmC hW h1
  | _ => exact Bool.noConfusion h2
theorem gk.call {cl : List vw_C} {nw : List Cond} {D : va_G} {tys : List (ClassId × FieldType)} {U : State} (g : JFrame) (mk : MethodId) (a : Array Value) (h : gk cl nw D tys U) : gk cl nw D tys (U.calling g mk a) :=
  ⟨va_K.moved (u := U) (U := U.calling g mk a) (Vm.Alike.refl U.vm) h.1, fun w hw => ⟨(h.2 w hw).1, va_Nw.same (u := U) (U := U.calling g mk a) (nw_on (h.2 w hw).1) rfl (h.2 w hw).2⟩⟩
def cPre (cl : List vw_C) (nw : List Cond) (D : va_G) (tys : List (ClassId × FieldType)) (av : List Value) (w0 : va_W) (sz : Nat) : Array Value → State → Prop :=
  va_Pc av (fun U => U.heap.size = sz ∧ va_P D cl w0 U.heap ∧ gk cl nw D tys U ∧ va_D (fun _ => True) w0)
theorem cPre.blind {cl : List vw_C} {nw : List Cond} {D : va_G} {tys : List (ClassId × FieldType)} {av : List Value} {w0 : va_W} {sz : Nat} : FrameBlind (cPre cl nw D tys av w0 sz) := fun a U g mk q => by
  obtain ⟨q0, q1, qP, qK, qD⟩ := q
  exact ⟨q0, q1, qP, qK.call g mk a, qD⟩
/-- the contract of a method that answers an int -/
def CI {S : Type} (l : Launch) (cl : List vw_C) (nw : List Cond) (D : va_G) (tys : List (ClassId × FieldType)) (y : MethodName) (ws : List Cond) (rm : Room) (av : List Value) (w0 : va_W) (post : Int32 → S → Prop) (w1 : S → va_W) : Prop :=
  ∀ sz, Met l y ws rm (cPre cl nw D tys av w0 sz) (va_Qi post (fun u t => va_P D cl (w1 u) t.heap ∧ va_D (va_A w0 sz) (w1 u)) (va_A w0 sz)) rm.cells rm.slots (va_A w0 sz)
/-- the contract of a method that answers nothing -/
def CV {S : Type} (l : Launch) (cl : List vw_C) (nw : List Cond) (D : va_G) (tys : List (ClassId × FieldType)) (y : MethodName) (ws : List Cond) (rm : Room) (av : List Value) (w0 : va_W) (post : S → Prop) (w1 : S → va_W) : Prop :=
  ∀ sz, Met l y ws rm (cPre cl nw D tys av w0 sz) (va_Qv post (fun u t => va_P D cl (w1 u) t.heap ∧ va_D (va_A w0 sz) (w1 u)) (va_A w0 sz)) rm.cells rm.slots (va_A w0 sz)
theorem fm_of {α β : Type} {f : α → Option β} : ∀ (is : List α) (l : List β), is.map f = l.map some → is.filterMap f = l
  | [], [], _ => rfl
  | [], _ :: _, h => by cases h
  | _ :: _, [], h => by cases h
  | i :: is, b :: l, h => by
    rw [List.map_cons, List.map_cons] at h
    have h1 := (List.cons.inj h).1
    have h2 := fm_of is l (List.cons.inj h).2
    rw [List.filterMap_cons, h1, h2]
theorem hP_in {D : va_G} {cl : List vw_C} {ws ws' : va_W} {H : Heap} (h : va_P D cl ws H) (is : List Nat) (hs : is.map (fun i => ws[i]?) = ws'.map some) : va_P D cl ws' H := h.sub is (fm_of is ws' hs)
section
variable {p : Program} {l : Launch} {e : Env} {R : Room} {s : State} {m : MethodId} {args : Array Value} {below : List Frame} {meth : Method} {c : Code} {H : Heap} {locs : List Loc} {cells slots : Nat} {Q : State → Prop}
variable {pc : Nat} {ls : Array Slot} {rest st0 : List Value} {A : Nat → Prop} {H0 : Heap} {cl : List vw_C} {nw : List Cond} {D : va_G} {tys : List (ClassId × FieldType)}
variable {y : MethodName} {bytes cc : ByteArray} {maxL nL n index : Nat} {ret : Option FieldType} {ws : List Cond} {rm : Room} {Ts : List Cond} {own C : String} {b : Addr} {As : List Value} {wh wc wr : va_W}
/-- behind a call: the callee's cells stand in their places (isB) beside the rest -/
theorem kc_i {S : Type} {post : Int32 → S → Prop} {w1 w2 : S → va_W} {a : Array Value} {mc ms : Nat}
    (hr : va_Run p l e R s m args below meth c H locs cells slots mc ms (F0 m pc ls st0) rest (va_Qi post (fun u t => va_P D cl (w1 u) t.heap ∧ va_D (va_A wc H.size) (w1 u)) (va_A wc H.size) a) (va_A wc H.size))
    (hP : va_P D cl wh H) (hD : va_D A wh) (hS : va_S A H0 H locs) (hA : ∀ q, H0.size ≤ q → A q)
    (isC isR isB : List Nat) (hC : isC.map (fun i => wh[i]?) = wc.map some) (hR : isR.map (fun i => wh[i]?) = wr.map some) (hn : va_nd isR = true) (hdis : ∀ i ∈ isR, i ∉ isC) (hnB : va_nd isB = true) (hB2 : ∀ u, isB.map (fun i => (wr ++ w1 u)[i]?) = (w2 u).map some)
    (kk : ∀ (r : Int32) (u : S) (H1 : Heap) (locs1 : List Loc), post r u → va_P D cl (w2 u) H1 → va_D A (w2 u) → va_S A H0 H1 locs1 → W p l e R s m args below meth c H1 locs1 (cells + mc) (slots + ms) Q (F0 m (pc + 3) ls (.int r :: rest))) : W p l e R s m args below meth c H locs cells slots Q (F0 m pc ls st0) := by
  have hF := va_free hD hS hA isC hC
  refine va_calli hr hS (fun q _ h => hF q h) hF (fun r u t H1 locs1 ht _ hw hB _ hk hS1 => ?_)
  obtain ⟨hP1, hD1⟩ := hB
  rw [ht] at hP1
  obtain ⟨hP2, hD2⟩ := va_join hP hD isC isR hC hR hn hdis hk hF hP1 hD1
  exact kk r u H1 locs1 hw (hP_in hP2 isB (hB2 u)) (hD2.sub isB hnB (hB2 u)) hS1
theorem kc_v {S : Type} {post : S → Prop} {w1 w2 : S → va_W} {a : Array Value} {mc ms : Nat}
    (hr : va_Run p l e R s m args below meth c H locs cells slots mc ms (F0 m pc ls st0) rest (va_Qv post (fun u t => va_P D cl (w1 u) t.heap ∧ va_D (va_A wc H.size) (w1 u)) (va_A wc H.size) a) (va_A wc H.size))
    (hP : va_P D cl wh H) (hD : va_D A wh) (hS : va_S A H0 H locs) (hA : ∀ q, H0.size ≤ q → A q)
    (isC isR isB : List Nat) (hC : isC.map (fun i => wh[i]?) = wc.map some) (hR : isR.map (fun i => wh[i]?) = wr.map some) (hn : va_nd isR = true) (hdis : ∀ i ∈ isR, i ∉ isC) (hnB : va_nd isB = true) (hB2 : ∀ u, isB.map (fun i => (wr ++ w1 u)[i]?) = (w2 u).map some)
    (kk : ∀ (u : S) (H1 : Heap) (locs1 : List Loc), post u → va_P D cl (w2 u) H1 → va_D A (w2 u) → va_S A H0 H1 locs1 → W p l e R s m args below meth c H1 locs1 (cells + mc) (slots + ms) Q (F0 m (pc + 3) ls rest)) : W p l e R s m args below meth c H locs cells slots Q (F0 m pc ls st0) := by
  have hF := va_free hD hS hA isC hC
  refine va_callv hr hS (fun q _ h => hF q h) hF (fun u t H1 locs1 ht _ hw hB _ hk hS1 => ?_)
  obtain ⟨hP1, hD1⟩ := hB
  rw [ht] at hP1
  obtain ⟨hP2, hD2⟩ := va_join hP hD isC isR hC hR hn hdis hk hF hP1 hD1
  exact kk u H1 locs1 hw (hP_in hP2 isB (hB2 u)) (hD2.sub isB hnB (hB2 u)) hS1
/-- what a caller gives a callee: its cells out of the caller's -/
theorem k_pre {av : List Value} (hG : gk cl nw D tys s) (hP : va_P D cl wh H) (hD : va_D A wh) (isC : List Nat) (hC : isC.map (fun i => wh[i]?) = wc.map some) (hnC : va_nd isC = true) :
    ∀ U : State, U.heap = H → s.WarmedH U.vm → cPre cl nw D tys av wc H.size av.toArray U := fun U hU hW =>
  ⟨rfl, by rw [hU], by rw [hU]; exact hP_in hP isC hC, hG.warm hW, (hD.sub isC hnC hC).weaken (fun _ _ _ _ => trivial)⟩
/-- the receiver stands in the callee's cells -/
theorem k_rcv {q0 ci : Nat} {fs : List Value} {q : vw_C} (hG : gk cl nw D tys s) (hP : va_P D cl wh H) (isC : List Nat) (hC : isC.map (fun i => wh[i]?) = wc.map some) (hq : wc[q0]? = some (b, .inr (ci, fs))) (hc : cl[ci]? = some q) :
    ∃ cell : Cell, H[b]? = some cell ∧ cell.vm.isStatics = false ∧ s.vm.findClass q.1 = some cell.cls := va_recv hG.1 (hP_in hP isC hC) hc hq
end
theorem gi_tb {TB : List Cond} {c1 c2 : Cond} (hTB : GoodIn TB TB) (h2 : c2 ∈ TB) : GoodIn (c1 :: TB) (c2 :: TB) := fun w hw => by
  rcases List.mem_cons.mp hw with rfl | h
  · exact ⟨List.mem_cons_of_mem _ h2, (hTB _ h2).2⟩
  · exact ⟨List.mem_cons_of_mem _ h, (hTB _ h).2⟩
theorem gi_app {big a b : List Cond} (ha : GoodIn big a) (hb : GoodIn big b) : GoodIn big (a ++ b) := fun w hw => by
  rcases List.mem_append.mp hw with h | h
  · exact ha w h
  · exact hb w h
theorem gi_nil {big : List Cond} : GoodIn big [] := fun _ h => by cases h
theorem gi_cons {TB : List Cond} {c1 w : Cond} {l : List Cond} (hTB : GoodIn TB TB) (h : w ∈ TB) (hl : GoodIn (c1 :: TB) l) : GoodIn (c1 :: TB) (w :: l) := fun v hv => by
  rcases List.mem_cons.mp hv with rfl | h'
  · exact ⟨List.mem_cons_of_mem _ h, (hTB _ h).2⟩
  · exact hl v h'
theorem gi_V {TB : List Cond} {c1 c2 : Cond} {own C : String} {idx : Nat} {y : MethodName} (hTB : GoodIn TB TB) (h2 : c2 ∈ TB) (a1 : Cond.methodLink own idx y ∈ TB) (a2 : Cond.instanceMethod y ∈ TB) (a3 : Cond.selects C y y ∈ TB) (a4 : Cond.initialized C ∈ TB) : GoodIn (c1 :: TB) (wsV own idx C y (c2 :: TB)) :=
  gi_app (gi_cons hTB a1 (gi_cons hTB a2 (gi_cons hTB a3 (gi_cons hTB a4 gi_nil)))) (gi_tb hTB h2)
theorem gi_S {TB : List Cond} {c1 c2 : Cond} {own : String} {idx : Nat} {y : MethodName} (hTB : GoodIn TB TB) (h2 : c2 ∈ TB) (a1 : Cond.methodLink own idx y ∈ TB) (a2 : Cond.static y ∈ TB) (a4 : Cond.initialized own ∈ TB) : GoodIn (c1 :: TB) (wsS own idx y (c2 :: TB)) :=
  gi_app (gi_cons hTB a1 (gi_cons hTB a2 (gi_cons hTB a4 gi_nil))) (gi_tb hTB h2)
/-- a contract at another start and another end -/
theorem Met_cs {l : Launch} {y : MethodName} {ws : List Cond} {rm : Room} {Pc Pc' : Array Value → State → Prop} {Qc Qc' : Array Value → State → Outcome → State → Prop} {mc ms : Nat} {free free' : Addr → Prop} (h : Met l y ws rm Pc Qc mc ms free) (hP : ∀ a s, Pc' a s → Pc a s) (hQ : ∀ a s o t, Pc' a s → Qc a s o t → Qc' a s o t) (hf : ∀ q, free q → free' q) : Met l y ws rm Pc' Qc' mc ms free' := by
  intro p e ha hc hk s m args below hfr hap hpc hK
  obtain ⟨n, o, h1, h2, h3, hq, L, h4, h5⟩ := h p e ha hc hk s m args below hfr hap (hP _ _ hpc) hK
  exact ⟨n, o, h1, h2, h3, hQ _ _ _ _ hpc hq, L, h4, fun q hq => hf _ (h5 q hq)⟩
end
section
/-! A METHOD'S BODY: from the walk of its body, with an end that is left open (Q), to its contract; a call as one row. -/
/-- what stands all along a body: the machine, the code, the class that owns it, the words TB -/
def bd (p : Program) (c : Code) (cc : ByteArray) (nL : Nat) (s : State) (args : Array Value) (TB : List Cond) (own : String) (m : MethodId) : Prop :=
  p.tables.exec = Jvm.exec ∧ c.code = cc ∧ c.maxLocals = nL ∧ s.vm.findClass own = some m.cls ∧ ∀ w ∈ TB, w.before args s = true
theorem CI.of {S : Type} {l : Launch} {cl : List vw_C} {nw : List Cond} {D : va_G} {tys : List (ClassId × FieldType)} {y : MethodName} {cc : ByteArray} {maxL : Nat} {ty : FieldType} {TB : List Cond} {rm : Room} {av : List Value} {w0 : va_W} {post : Int32 → S → Prop} {w1 : S → va_W}
    (hy : plainName y.cls = true) (hlen : (lg_sl av).length ≤ maxL)
    (body : ∀ (p : Program) (e : Env) (s : State) (m : MethodId) (args : Array Value) (below : List Frame) (meth : Method) (c : Code) (A : Nat → Prop) (Q : State → Prop) (ls : Array Slot),
      bd p c cc maxL s args TB y.cls m → gk cl nw D tys s → (∀ q, s.heap.size ≤ q → A q) → va_P D cl w0 s.heap → va_D A w0 → va_S A s.heap s.heap [] → lv_has ls maxL (lv_args 0 av) →
      (∀ (r : Int32) (u : S) (H : Heap) (locs : List Loc) (pc : Nat) (ls : Array Slot), decode cc pc = .ok (.ireturn, 1) → narrow ty (.int r) = .int r → post r u → va_P D cl (w1 u) H → va_D A (w1 u) → va_S A s.heap H locs → W p l e rm s m args below meth c H locs rm.cells rm.slots Q (F0 m pc ls [.int r])) →
      W p l e rm s m args below meth c s.heap [] 0 0 Q (F0 m 0 ls [])) :
    CI l cl nw D tys y (.code y cc maxL (some ty) :: TB) rm av w0 post w1 := by
  intro sz
  refine Met.ofW (cc := cc) (maxL := maxL) (ret := some ty) hy rfl ?_
  intro p e s m args below meth c s₁ B hml hv
  obtain ⟨rfl, hsz, hP, hK, hD0⟩ := hv
  have hts := atoms_spec (ws := .code y cc maxL (some ty) :: TB) B.pre
  have hown : s.vm.findClass y.cls = some m.cls := findClass_of_methodNamed B.named
  have hlocks := B.notSynchronized
  have hr := B.returns
  subst hsz
  have hD := hD0.self (sz := s.heap.size)
  have hl := lv_entry av (n := maxL) hlen
  rw [lg_entry_eq]
  exact body p e s m _ below meth c (va_A w0 s.heap.size) _ _ ⟨B.exec, B.bytes, hml, hown, fun w hw => hts w (List.mem_cons_of_mem _ hw)⟩ hK (fun q h => Or.inr h) hP hD va_S.rf hl
    (fun r u H locs pc ls hdg hn hpost hP1 hD1 hS1 => W.zret B.exec B.bytes hr hn (fun t ht _ => ⟨⟨r, u, rfl, hpost, by rw [ht]; exact hP1, hD1⟩, hS1.F ht⟩) hS1.2.2 hdg hlocks)
theorem CV.of {S : Type} {l : Launch} {cl : List vw_C} {nw : List Cond} {D : va_G} {tys : List (ClassId × FieldType)} {y : MethodName} {cc : ByteArray} {maxL : Nat} {TB : List Cond} {rm : Room} {av : List Value} {w0 : va_W} {post : S → Prop} {w1 : S → va_W}
    (hy : plainName y.cls = true) (hlen : (lg_sl av).length ≤ maxL)
    (body : ∀ (p : Program) (e : Env) (s : State) (m : MethodId) (args : Array Value) (below : List Frame) (meth : Method) (c : Code) (A : Nat → Prop) (Q : State → Prop) (ls : Array Slot),
      bd p c cc maxL s args TB y.cls m → gk cl nw D tys s → (∀ q, s.heap.size ≤ q → A q) → va_P D cl w0 s.heap → va_D A w0 → va_S A s.heap s.heap [] → lv_has ls maxL (lv_args 0 av) → meth.name = y.name →
      (∀ (u : S) (H : Heap) (locs : List Loc) (pc : Nat) (ls : Array Slot), decode cc pc = .ok (.return_, 1) → post u → va_P D cl (w1 u) H → va_D A (w1 u) → va_S A s.heap H locs → W p l e rm s m args below meth c H locs rm.cells rm.slots Q (F0 m pc ls [])) →
      W p l e rm s m args below meth c s.heap [] 0 0 Q (F0 m 0 ls [])) :
    CV l cl nw D tys y (.code y cc maxL none :: TB) rm av w0 post w1 := by
  intro sz
  refine Met.ofW (cc := cc) (maxL := maxL) (ret := none) hy rfl ?_
  intro p e s m args below meth c s₁ B hml hv
  obtain ⟨rfl, hsz, hP, hK, hD0⟩ := hv
  have hts := atoms_spec (ws := .code y cc maxL none :: TB) B.pre
  have hown : s.vm.findClass y.cls = some m.cls := findClass_of_methodNamed B.named
  have hlocks := B.notSynchronized
  have hr := B.returns
  subst hsz
  have hD := hD0.self (sz := s.heap.size)
  have hl := lv_entry av (n := maxL) hlen
  rw [lg_entry_eq]
  exact body p e s m _ below meth c (va_A w0 s.heap.size) _ _ ⟨B.exec, B.bytes, hml, hown, fun w hw => hts w (List.mem_cons_of_mem _ hw)⟩ hK (fun q h => Or.inr h) hP hD va_S.rf hl (name_of_methodNamed B.named B.method).1
    (fun u H locs pc ls hdg hpost hP1 hD1 hS1 => W.vret B.exec B.bytes hr (fun t ht _ => ⟨⟨u, rfl, hpost, by rw [ht]; exact hP1, hD1⟩, hS1.F ht⟩) hS1.2.2 hdg hlocks)
section
variable {p : Program} {l : Launch} {e : Env} {R : Room} {s : State} {m : MethodId} {args : Array Value} {below : List Frame} {meth : Method} {c : Code} {H : Heap} {locs : List Loc} {cells slots : Nat} {Q : State → Prop}
variable {pc : Nat} {ls : Array Slot} {st0 : List Value} {A : Nat → Prop} {H0 : Heap} {cl : List vw_C} {nw : List Cond} {D : va_G} {tys : List (ClassId × FieldType)}
variable {y : MethodName} {bytes cc : ByteArray} {maxL nL n index : Nat} {ret : Option FieldType} {rm : Room} {TB : List Cond} {own C : String} {b : Addr} {wh wc wr : va_W}
/-- the links of a virtual call -/
def lkV (TB : List Cond) (own : String) (index : Nat) (C : String) (y : MethodName) (cd : Cond) : Prop := GoodIn TB (wsV own index C y (cd :: TB)) ∧ (y.cls = C ∧ y.cls ≠ "java/lang/invoke/MethodHandle" ∧ y.cls ≠ "java/lang/invoke/VarHandle")
def lkS (TB : List Cond) (own : String) (index : Nat) (y : MethodName) (cd : Cond) : Prop := GoodIn TB (wsS own index y (cd :: TB)) ∧ (y.cls = own ∧ y.cls ≠ "java/lang/invoke/MethodHandle" ∧ y.cls ≠ "java/lang/invoke/VarHandle")
def fitsRoom (rm R : Room) (maxL : Nat) : Bool := Nat.ble (rm.frames + 1) R.frames && Nat.ble (8 + (maxL + 11) + rm.locals) R.locals
theorem fitsRoom.ok {rm R : Room} {maxL : Nat} (h : fitsRoom rm R maxL = true) : rm.frames + 1 ≤ R.frames ∧ 8 + (maxL + 11) + rm.locals ≤ R.locals := by
  unfold fitsRoom at h
  rw [Bool.and_eq_true] at h
  exact ⟨Nat.le_of_ble_eq_true h.1, Nat.le_of_ble_eq_true h.2⟩
end
end
section
section
variable {p : Program} {l : Launch} {e : Env} {R : Room} {s : State} {m : MethodId} {args : Array Value} {below : List Frame} {meth : Method} {c : Code} {H : Heap} {locs : List Loc} {cells slots : Nat} {Q : State → Prop}
variable {pc : Nat} {ls : Array Slot} {st0 : List Value} {A : Nat → Prop} {H0 : Heap} {cl : List vw_C} {nw : List Cond} {D : va_G} {tys : List (ClassId × FieldType)}
variable {y : MethodName} {bytes cc : ByteArray} {maxL nL index : Nat} {ret : Option FieldType} {rm : Room} {TB : List Cond} {own C host : String} {b : Addr} {wh wc wr : va_W}
def okI (isC isR isB : List Nat) : Bool := va_nd isC && (va_nd isR && (va_nd isB && isR.all (fun i => !isC.contains i)))
theorem okI.ok {isC isR isB : List Nat} (h : okI isC isR isB = true) : va_nd isC = true ∧ va_nd isR = true ∧ va_nd isB = true ∧ ∀ i ∈ isR, i ∉ isC := by
  unfold okI at h
  rw [Bool.and_eq_true, Bool.and_eq_true, Bool.and_eq_true] at h
  refine ⟨h.1, h.2.1, h.2.2.1, fun i hi hc => ?_⟩
  have h1 := List.all_eq_true.mp h.2.2.2 i hi
  rw [List.contains_iff_mem.mpr hc] at h1
  exact Bool.noConfusion h1
theorem kV_i {S : Type} {post : Int32 → S → Prop} {w1 w2 : S → va_W} (As rest : List Value) (Bd : bd p c cc nL s args TB own m) (lk : lkV TB own index C y (.code y bytes maxL ret)) (hpn : (parseMethodDescriptor y.desc).map (fun d => d.parameters.length) = some As.length)
    (hc : CI l cl nw D tys y (.code y bytes maxL ret :: TB) rm (.ref b :: As) wc post w1) (hrm : fitsRoom rm R maxL = true) (hce : cells + rm.cells ≤ R.cells ∧ slots + rm.slots ≤ R.slots)
    (hG : gk cl nw D tys s) (hP : va_P D cl wh H) (hD : va_D A wh) (hS : va_S A H0 H locs) (hA : ∀ q, H0.size ≤ q → A q)
    (isC isR isB : List Nat) (hok : okI isC isR isB = true) (hC : isC.map (fun i => wh[i]?) = wc.map some) (hR : isR.map (fun i => wh[i]?) = wr.map some) (hB2 : ∀ u, isB.map (fun i => (wr ++ w1 u)[i]?) = (w2 u).map some)
    {q0 ci : Nat} {fs : List Value} {q : vw_C} (hq : wc[q0]? = some (b, .inr (ci, fs))) (hcl : cl[ci]? = some q) (hqC : q.1 = C) (hl : ls.size = nL) (hst : st0 = As.reverse ++ .ref b :: rest) (hw : (rest.map fun v => v.category).sum ≤ 8) (hdg : decode cc pc = .ok (.invokevirtual index, 3))
    (kk : ∀ (r : Int32) (u : S) (H1 : Heap) (locs1 : List Loc), post r u → va_P D cl (w2 u) H1 → va_D A (w2 u) → va_S A H0 H1 locs1 → W p l e R s m args below meth c H1 locs1 (cells + rm.cells) (slots + rm.slots) Q (F0 m (pc + 3) ls (.int r :: rest))) : W p l e R s m args below meth c H locs cells slots Q (F0 m pc ls st0) :=
  kc_i (va_runV (As := As) (rest := rest) Bd (hc H.size) (cwV As.length Bd.2.2.2.2 lk.1 rfl rfl rfl ⟨lk.2.1, lk.2.2.1, lk.2.2.2, hpn⟩ (fitsRoom.ok hrm)) ⟨cPre.blind, hqC ▸ k_rcv hG hP isC hC hq hcl, k_pre hG hP hD isC hC (okI.ok hok).1⟩ rfl rfl hl hst (lv_room hw) hdg hce) hP hD hS hA isC isR isB hC hR (okI.ok hok).2.1 (okI.ok hok).2.2.2 (okI.ok hok).2.2.1 hB2 kk
theorem kV_v {S : Type} {post : S → Prop} {w1 w2 : S → va_W} (As rest : List Value) (Bd : bd p c cc nL s args TB own m) (lk : lkV TB own index C y (.code y bytes maxL none)) (hpn : (parseMethodDescriptor y.desc).map (fun d => d.parameters.length) = some As.length)
    (hc : CV l cl nw D tys y (.code y bytes maxL none :: TB) rm (.ref b :: As) wc post w1) (hrm : fitsRoom rm R maxL = true) (hce : cells + rm.cells ≤ R.cells ∧ slots + rm.slots ≤ R.slots)
    (hG : gk cl nw D tys s) (hP : va_P D cl wh H) (hD : va_D A wh) (hS : va_S A H0 H locs) (hA : ∀ q, H0.size ≤ q → A q)
    (isC isR isB : List Nat) (hok : okI isC isR isB = true) (hC : isC.map (fun i => wh[i]?) = wc.map some) (hR : isR.map (fun i => wh[i]?) = wr.map some) (hB2 : ∀ u, isB.map (fun i => (wr ++ w1 u)[i]?) = (w2 u).map some)
    {q0 ci : Nat} {fs : List Value} {q : vw_C} (hq : wc[q0]? = some (b, .inr (ci, fs))) (hcl : cl[ci]? = some q) (hqC : q.1 = C) (hl : ls.size = nL) (hst : st0 = As.reverse ++ .ref b :: rest) (hw : (rest.map fun v => v.category).sum ≤ 8) (hdg : decode cc pc = .ok (.invokevirtual index, 3))
    (kk : ∀ (u : S) (H1 : Heap) (locs1 : List Loc), post u → va_P D cl (w2 u) H1 → va_D A (w2 u) → va_S A H0 H1 locs1 → W p l e R s m args below meth c H1 locs1 (cells + rm.cells) (slots + rm.slots) Q (F0 m (pc + 3) ls rest)) : W p l e R s m args below meth c H locs cells slots Q (F0 m pc ls st0) :=
  kc_v (va_runV (As := As) (rest := rest) Bd (hc H.size) (cwV As.length Bd.2.2.2.2 lk.1 rfl rfl rfl ⟨lk.2.1, lk.2.2.1, lk.2.2.2, hpn⟩ (fitsRoom.ok hrm)) ⟨cPre.blind, hqC ▸ k_rcv hG hP isC hC hq hcl, k_pre hG hP hD isC hC (okI.ok hok).1⟩ rfl rfl hl hst (lv_room hw) hdg hce) hP hD hS hA isC isR isB hC hR (okI.ok hok).2.1 (okI.ok hok).2.2.2 (okI.ok hok).2.2.1 hB2 kk
theorem kVN_i {S : Type} {post : Int32 → S → Prop} {w1 w2 : S → va_W} (As rest : List Value) (Bd : bd p c cc nL s args TB own m) (lk : GoodIn TB ((.code y bytes maxL ret) :: TB) ∧ Cond.instanceMethod y ∈ TB ∧ Cond.selects C y y ∈ TB ∧ Cond.initialized y.cls ∈ TB ∧ Cond.methodLinkNest own index y host ∈ nw ∧ y.cls ≠ "java/lang/invoke/MethodHandle" ∧ y.cls ≠ "java/lang/invoke/VarHandle") (hpn : (parseMethodDescriptor y.desc).map (fun d => d.parameters.length) = some As.length)
    (hc : CI l cl nw D tys y (.code y bytes maxL ret :: TB) rm (.ref b :: As) wc post w1) (hrm : fitsRoom rm R maxL = true) (hce : cells + rm.cells ≤ R.cells ∧ slots + rm.slots ≤ R.slots)
    (hG : gk cl nw D tys s) (hP : va_P D cl wh H) (hD : va_D A wh) (hS : va_S A H0 H locs) (hA : ∀ q, H0.size ≤ q → A q)
    (isC isR isB : List Nat) (hok : okI isC isR isB = true) (hC : isC.map (fun i => wh[i]?) = wc.map some) (hR : isR.map (fun i => wh[i]?) = wr.map some) (hB2 : ∀ u, isB.map (fun i => (wr ++ w1 u)[i]?) = (w2 u).map some)
    {q0 ci : Nat} {fs : List Value} {q : vw_C} (hq : wc[q0]? = some (b, .inr (ci, fs))) (hcl : cl[ci]? = some q) (hqC : q.1 = C) (hl : ls.size = nL) (hst : st0 = As.reverse ++ .ref b :: rest) (hw : (rest.map fun v => v.category).sum ≤ 8) (hdg : decode cc pc = .ok (.invokevirtual index, 3))
    (kk : ∀ (r : Int32) (u : S) (H1 : Heap) (locs1 : List Loc), post r u → va_P D cl (w2 u) H1 → va_D A (w2 u) → va_S A H0 H1 locs1 → W p l e R s m args below meth c H1 locs1 (cells + rm.cells) (slots + rm.slots) Q (F0 m (pc + 3) ls (.int r :: rest))) : W p l e R s m args below meth c H locs cells slots Q (F0 m pc ls st0) :=
  kc_i (va_runVN (As := As) (rest := rest) Bd (hc H.size) ⟨va_cnB As.length Bd.2.2.2.2 lk.1 rfl rfl rfl (hG.2 _ lk.2.2.2.2.1).2 (Bd.2.2.2.2 _ lk.2.2.2.1) ⟨lk.2.2.2.2.2.1, lk.2.2.2.2.2.2, hpn⟩ (fitsRoom.ok hrm), Bd.2.2.2.2 _ lk.2.1, Bd.2.2.2.2 _ lk.2.2.1⟩ ⟨cPre.blind, hqC ▸ k_rcv hG hP isC hC hq hcl, k_pre hG hP hD isC hC (okI.ok hok).1⟩ rfl rfl hl hst (lv_room hw) hdg hce) hP hD hS hA isC isR isB hC hR (okI.ok hok).2.1 (okI.ok hok).2.2.2 (okI.ok hok).2.2.1 hB2 kk
theorem kVN_v {S : Type} {post : S → Prop} {w1 w2 : S → va_W} (As rest : List Value) (Bd : bd p c cc nL s args TB own m) (lk : GoodIn TB ((.code y bytes maxL none) :: TB) ∧ Cond.instanceMethod y ∈ TB ∧ Cond.selects C y y ∈ TB ∧ Cond.initialized y.cls ∈ TB ∧ Cond.methodLinkNest own index y host ∈ nw ∧ y.cls ≠ "java/lang/invoke/MethodHandle" ∧ y.cls ≠ "java/lang/invoke/VarHandle") (hpn : (parseMethodDescriptor y.desc).map (fun d => d.parameters.length) = some As.length)
    (hc : CV l cl nw D tys y (.code y bytes maxL none :: TB) rm (.ref b :: As) wc post w1) (hrm : fitsRoom rm R maxL = true) (hce : cells + rm.cells ≤ R.cells ∧ slots + rm.slots ≤ R.slots)
    (hG : gk cl nw D tys s) (hP : va_P D cl wh H) (hD : va_D A wh) (hS : va_S A H0 H locs) (hA : ∀ q, H0.size ≤ q → A q)
    (isC isR isB : List Nat) (hok : okI isC isR isB = true) (hC : isC.map (fun i => wh[i]?) = wc.map some) (hR : isR.map (fun i => wh[i]?) = wr.map some) (hB2 : ∀ u, isB.map (fun i => (wr ++ w1 u)[i]?) = (w2 u).map some)
    {q0 ci : Nat} {fs : List Value} {q : vw_C} (hq : wc[q0]? = some (b, .inr (ci, fs))) (hcl : cl[ci]? = some q) (hqC : q.1 = C) (hl : ls.size = nL) (hst : st0 = As.reverse ++ .ref b :: rest) (hw : (rest.map fun v => v.category).sum ≤ 8) (hdg : decode cc pc = .ok (.invokevirtual index, 3))
    (kk : ∀ (u : S) (H1 : Heap) (locs1 : List Loc), post u → va_P D cl (w2 u) H1 → va_D A (w2 u) → va_S A H0 H1 locs1 → W p l e R s m args below meth c H1 locs1 (cells + rm.cells) (slots + rm.slots) Q (F0 m (pc + 3) ls rest)) : W p l e R s m args below meth c H locs cells slots Q (F0 m pc ls st0) :=
  kc_v (va_runVN (As := As) (rest := rest) Bd (hc H.size) ⟨va_cnB As.length Bd.2.2.2.2 lk.1 rfl rfl rfl (hG.2 _ lk.2.2.2.2.1).2 (Bd.2.2.2.2 _ lk.2.2.2.1) ⟨lk.2.2.2.2.2.1, lk.2.2.2.2.2.2, hpn⟩ (fitsRoom.ok hrm), Bd.2.2.2.2 _ lk.2.1, Bd.2.2.2.2 _ lk.2.2.1⟩ ⟨cPre.blind, hqC ▸ k_rcv hG hP isC hC hq hcl, k_pre hG hP hD isC hC (okI.ok hok).1⟩ rfl rfl hl hst (lv_room hw) hdg hce) hP hD hS hA isC isR isB hC hR (okI.ok hok).2.1 (okI.ok hok).2.2.2 (okI.ok hok).2.2.1 hB2 kk
theorem kS_i {S : Type} {post : Int32 → S → Prop} {w1 w2 : S → va_W} (As rest : List Value) (Bd : bd p c cc nL s args TB own m) (lk : lkS TB own index y (.code y bytes maxL ret)) (hpn : (parseMethodDescriptor y.desc).map (fun d => d.parameters.length) = some As.length)
    (hc : CI l cl nw D tys y (.code y bytes maxL ret :: TB) rm As wc post w1) (hrm : fitsRoom rm R maxL = true) (hce : cells + rm.cells ≤ R.cells ∧ slots + rm.slots ≤ R.slots)
    (hG : gk cl nw D tys s) (hP : va_P D cl wh H) (hD : va_D A wh) (hS : va_S A H0 H locs) (hA : ∀ q, H0.size ≤ q → A q)
    (isC isR isB : List Nat) (hok : okI isC isR isB = true) (hC : isC.map (fun i => wh[i]?) = wc.map some) (hR : isR.map (fun i => wh[i]?) = wr.map some) (hB2 : ∀ u, isB.map (fun i => (wr ++ w1 u)[i]?) = (w2 u).map some)
     (hl : ls.size = nL) (hst : st0 = As.reverse ++ rest) (hw : (rest.map fun v => v.category).sum ≤ 8) (hdg : decode cc pc = .ok (.invokestatic index, 3))
    (kk : ∀ (r : Int32) (u : S) (H1 : Heap) (locs1 : List Loc), post r u → va_P D cl (w2 u) H1 → va_D A (w2 u) → va_S A H0 H1 locs1 → W p l e R s m args below meth c H1 locs1 (cells + rm.cells) (slots + rm.slots) Q (F0 m (pc + 3) ls (.int r :: rest))) : W p l e R s m args below meth c H locs cells slots Q (F0 m pc ls st0) :=
  kc_i (va_runS (As := As) (rest := rest) Bd (hc H.size) (cwS As.length Bd.2.2.2.2 lk.1 rfl rfl rfl ⟨lk.2.1, lk.2.2.1, lk.2.2.2, hpn⟩ (fitsRoom.ok hrm)) ⟨cPre.blind, k_pre hG hP hD isC hC (okI.ok hok).1⟩ rfl rfl hl hst (lv_room hw) hdg hce) hP hD hS hA isC isR isB hC hR (okI.ok hok).2.1 (okI.ok hok).2.2.2 (okI.ok hok).2.2.1 hB2 kk
theorem kS_v {S : Type} {post : S → Prop} {w1 w2 : S → va_W} (As rest : List Value) (Bd : bd p c cc nL s args TB own m) (lk : lkS TB own index y (.code y bytes maxL none)) (hpn : (parseMethodDescriptor y.desc).map (fun d => d.parameters.length) = some As.length)
    (hc : CV l cl nw D tys y (.code y bytes maxL none :: TB) rm As wc post w1) (hrm : fitsRoom rm R maxL = true) (hce : cells + rm.cells ≤ R.cells ∧ slots + rm.slots ≤ R.slots)
    (hG : gk cl nw D tys s) (hP : va_P D cl wh H) (hD : va_D A wh) (hS : va_S A H0 H locs) (hA : ∀ q, H0.size ≤ q → A q)
    (isC isR isB : List Nat) (hok : okI isC isR isB = true) (hC : isC.map (fun i => wh[i]?) = wc.map some) (hR : isR.map (fun i => wh[i]?) = wr.map some) (hB2 : ∀ u, isB.map (fun i => (wr ++ w1 u)[i]?) = (w2 u).map some)
     (hl : ls.size = nL) (hst : st0 = As.reverse ++ rest) (hw : (rest.map fun v => v.category).sum ≤ 8) (hdg : decode cc pc = .ok (.invokestatic index, 3))
    (kk : ∀ (u : S) (H1 : Heap) (locs1 : List Loc), post u → va_P D cl (w2 u) H1 → va_D A (w2 u) → va_S A H0 H1 locs1 → W p l e R s m args below meth c H1 locs1 (cells + rm.cells) (slots + rm.slots) Q (F0 m (pc + 3) ls rest)) : W p l e R s m args below meth c H locs cells slots Q (F0 m pc ls st0) :=
  kc_v (va_runS (As := As) (rest := rest) Bd (hc H.size) (cwS As.length Bd.2.2.2.2 lk.1 rfl rfl rfl ⟨lk.2.1, lk.2.2.1, lk.2.2.2, hpn⟩ (fitsRoom.ok hrm)) ⟨cPre.blind, k_pre hG hP hD isC hC (okI.ok hok).1⟩ rfl rfl hl hst (lv_room hw) hdg hce) hP hD hS hA isC isR isB hC hR (okI.ok hok).2.1 (okI.ok hok).2.2.2 (okI.ok hok).2.2.1 hB2 kk
theorem kSN_i {S : Type} {post : Int32 → S → Prop} {w1 w2 : S → va_W} (As rest : List Value) (Bd : bd p c cc nL s args TB own m) (lk : GoodIn TB ((.code y bytes maxL ret) :: TB) ∧ Cond.static y ∈ TB ∧ Cond.initialized y.cls ∈ TB ∧ Cond.methodLinkNest own index y host ∈ nw ∧ y.cls ≠ "java/lang/invoke/MethodHandle" ∧ y.cls ≠ "java/lang/invoke/VarHandle") (hpn : (parseMethodDescriptor y.desc).map (fun d => d.parameters.length) = some As.length)
    (hc : CI l cl nw D tys y (.code y bytes maxL ret :: TB) rm As wc post w1) (hrm : fitsRoom rm R maxL = true) (hce : cells + rm.cells ≤ R.cells ∧ slots + rm.slots ≤ R.slots)
    (hG : gk cl nw D tys s) (hP : va_P D cl wh H) (hD : va_D A wh) (hS : va_S A H0 H locs) (hA : ∀ q, H0.size ≤ q → A q)
    (isC isR isB : List Nat) (hok : okI isC isR isB = true) (hC : isC.map (fun i => wh[i]?) = wc.map some) (hR : isR.map (fun i => wh[i]?) = wr.map some) (hB2 : ∀ u, isB.map (fun i => (wr ++ w1 u)[i]?) = (w2 u).map some)
     (hl : ls.size = nL) (hst : st0 = As.reverse ++ rest) (hw : (rest.map fun v => v.category).sum ≤ 8) (hdg : decode cc pc = .ok (.invokestatic index, 3))
    (kk : ∀ (r : Int32) (u : S) (H1 : Heap) (locs1 : List Loc), post r u → va_P D cl (w2 u) H1 → va_D A (w2 u) → va_S A H0 H1 locs1 → W p l e R s m args below meth c H1 locs1 (cells + rm.cells) (slots + rm.slots) Q (F0 m (pc + 3) ls (.int r :: rest))) : W p l e R s m args below meth c H locs cells slots Q (F0 m pc ls st0) :=
  kc_i (va_runSN (As := As) (rest := rest) Bd (hc H.size) ⟨va_cnB As.length Bd.2.2.2.2 lk.1 rfl rfl rfl (hG.2 _ lk.2.2.2.1).2 (Bd.2.2.2.2 _ lk.2.2.1) ⟨lk.2.2.2.2.1, lk.2.2.2.2.2, hpn⟩ (fitsRoom.ok hrm), Bd.2.2.2.2 _ lk.2.1, trivial⟩ ⟨cPre.blind, k_pre hG hP hD isC hC (okI.ok hok).1⟩ rfl rfl hl hst (lv_room hw) hdg hce) hP hD hS hA isC isR isB hC hR (okI.ok hok).2.1 (okI.ok hok).2.2.2 (okI.ok hok).2.2.1 hB2 kk
theorem kSN_v {S : Type} {post : S → Prop} {w1 w2 : S → va_W} (As rest : List Value) (Bd : bd p c cc nL s args TB own m) (lk : GoodIn TB ((.code y bytes maxL none) :: TB) ∧ Cond.static y ∈ TB ∧ Cond.initialized y.cls ∈ TB ∧ Cond.methodLinkNest own index y host ∈ nw ∧ y.cls ≠ "java/lang/invoke/MethodHandle" ∧ y.cls ≠ "java/lang/invoke/VarHandle") (hpn : (parseMethodDescriptor y.desc).map (fun d => d.parameters.length) = some As.length)
    (hc : CV l cl nw D tys y (.code y bytes maxL none :: TB) rm As wc post w1) (hrm : fitsRoom rm R maxL = true) (hce : cells + rm.cells ≤ R.cells ∧ slots + rm.slots ≤ R.slots)
    (hG : gk cl nw D tys s) (hP : va_P D cl wh H) (hD : va_D A wh) (hS : va_S A H0 H locs) (hA : ∀ q, H0.size ≤ q → A q)
    (isC isR isB : List Nat) (hok : okI isC isR isB = true) (hC : isC.map (fun i => wh[i]?) = wc.map some) (hR : isR.map (fun i => wh[i]?) = wr.map some) (hB2 : ∀ u, isB.map (fun i => (wr ++ w1 u)[i]?) = (w2 u).map some)
     (hl : ls.size = nL) (hst : st0 = As.reverse ++ rest) (hw : (rest.map fun v => v.category).sum ≤ 8) (hdg : decode cc pc = .ok (.invokestatic index, 3))
    (kk : ∀ (u : S) (H1 : Heap) (locs1 : List Loc), post u → va_P D cl (w2 u) H1 → va_D A (w2 u) → va_S A H0 H1 locs1 → W p l e R s m args below meth c H1 locs1 (cells + rm.cells) (slots + rm.slots) Q (F0 m (pc + 3) ls rest)) : W p l e R s m args below meth c H locs cells slots Q (F0 m pc ls st0) :=
  kc_v (va_runSN (As := As) (rest := rest) Bd (hc H.size) ⟨va_cnB As.length Bd.2.2.2.2 lk.1 rfl rfl rfl (hG.2 _ lk.2.2.2.1).2 (Bd.2.2.2.2 _ lk.2.2.1) ⟨lk.2.2.2.2.1, lk.2.2.2.2.2, hpn⟩ (fitsRoom.ok hrm), Bd.2.2.2.2 _ lk.2.1, trivial⟩ ⟨cPre.blind, k_pre hG hP hD isC hC (okI.ok hok).1⟩ rfl rfl hl hst (lv_room hw) hdg hce) hP hD hS hA isC isR isB hC hR (okI.ok hok).2.1 (okI.ok hok).2.2.2 (okI.ok hok).2.2.1 hB2 kk
theorem kI_v {S : Type} {post : S → Prop} {w1 w2 : S → va_W} (As rest : List Value) (Bd : bd p c cc nL s args TB own m) (lk : GoodIn TB ((.code y bytes maxL none) :: TB) ∧ Cond.initialized y.cls ∈ TB ∧ Cond.methodLink own index y ∈ TB ∧ Cond.instanceMethod y ∈ TB ∧ y.name = "<init>" ∧ y.cls ≠ "java/lang/invoke/MethodHandle" ∧ y.cls ≠ "java/lang/invoke/VarHandle") (hpn : (parseMethodDescriptor y.desc).map (fun d => d.parameters.length) = some As.length)
    (hc : CV l cl nw D tys y (.code y bytes maxL none :: TB) rm (.ref b :: As) wc post w1) (hrm : fitsRoom rm R maxL = true) (hce : cells + rm.cells ≤ R.cells ∧ slots + rm.slots ≤ R.slots)
    (hG : gk cl nw D tys s) (hP : va_P D cl wh H) (hD : va_D A wh) (hS : va_S A H0 H locs) (hA : ∀ q, H0.size ≤ q → A q)
    (isC isR isB : List Nat) (hok : okI isC isR isB = true) (hC : isC.map (fun i => wh[i]?) = wc.map some) (hR : isR.map (fun i => wh[i]?) = wr.map some) (hB2 : ∀ u, isB.map (fun i => (wr ++ w1 u)[i]?) = (w2 u).map some)
     (hl : ls.size = nL) (hst : st0 = As.reverse ++ .ref b :: rest) (hw : (rest.map fun v => v.category).sum ≤ 8) (hdg : decode cc pc = .ok (.invokespecial index, 3))
    (kk : ∀ (u : S) (H1 : Heap) (locs1 : List Loc), post u → va_P D cl (w2 u) H1 → va_D A (w2 u) → va_S A H0 H1 locs1 → W p l e R s m args below meth c H1 locs1 (cells + rm.cells) (slots + rm.slots) Q (F0 m (pc + 3) ls rest)) : W p l e R s m args below meth c H locs cells slots Q (F0 m pc ls st0) :=
  kc_v (va_runI (As := As) (rest := rest) Bd (hc H.size) (cwI As.length Bd.2.2.2.2 lk.1 rfl rfl rfl (Bd.2.2.2.2 _ lk.2.1) (Bd.2.2.2.2 _ lk.2.2.1) (Bd.2.2.2.2 _ lk.2.2.2.1) lk.2.2.2.2.1 ⟨lk.2.2.2.2.2.1, lk.2.2.2.2.2.2, hpn⟩ (fitsRoom.ok hrm)) ⟨cPre.blind, k_pre hG hP hD isC hC (okI.ok hok).1⟩ rfl rfl hl hst (lv_room hw) hdg hce) hP hD hS hA isC isR isB hC hR (okI.ok hok).2.1 (okI.ok hok).2.2.2 (okI.ok hok).2.2.1 hB2 kk
theorem kIN_v {S : Type} {post : S → Prop} {w1 w2 : S → va_W} (As rest : List Value) (Bd : bd p c cc nL s args TB own m) (lk : GoodIn TB ((.code y bytes maxL none) :: TB) ∧ Cond.initialized y.cls ∈ TB ∧ Cond.methodLinkNest own index y host ∈ nw ∧ Cond.instanceMethod y ∈ TB ∧ y.name = "<init>" ∧ y.cls ≠ "java/lang/invoke/MethodHandle" ∧ y.cls ≠ "java/lang/invoke/VarHandle") (hpn : (parseMethodDescriptor y.desc).map (fun d => d.parameters.length) = some As.length)
    (hc : CV l cl nw D tys y (.code y bytes maxL none :: TB) rm (.ref b :: As) wc post w1) (hrm : fitsRoom rm R maxL = true) (hce : cells + rm.cells ≤ R.cells ∧ slots + rm.slots ≤ R.slots)
    (hG : gk cl nw D tys s) (hP : va_P D cl wh H) (hD : va_D A wh) (hS : va_S A H0 H locs) (hA : ∀ q, H0.size ≤ q → A q)
    (isC isR isB : List Nat) (hok : okI isC isR isB = true) (hC : isC.map (fun i => wh[i]?) = wc.map some) (hR : isR.map (fun i => wh[i]?) = wr.map some) (hB2 : ∀ u, isB.map (fun i => (wr ++ w1 u)[i]?) = (w2 u).map some)
     (hl : ls.size = nL) (hst : st0 = As.reverse ++ .ref b :: rest) (hw : (rest.map fun v => v.category).sum ≤ 8) (hdg : decode cc pc = .ok (.invokespecial index, 3))
    (kk : ∀ (u : S) (H1 : Heap) (locs1 : List Loc), post u → va_P D cl (w2 u) H1 → va_D A (w2 u) → va_S A H0 H1 locs1 → W p l e R s m args below meth c H1 locs1 (cells + rm.cells) (slots + rm.slots) Q (F0 m (pc + 3) ls rest)) : W p l e R s m args below meth c H locs cells slots Q (F0 m pc ls st0) :=
  kc_v (va_runIN (As := As) (rest := rest) Bd (hc H.size) ⟨va_cnB As.length Bd.2.2.2.2 lk.1 rfl rfl rfl (hG.2 _ lk.2.2.1).2 (Bd.2.2.2.2 _ lk.2.1) ⟨lk.2.2.2.2.2.1, lk.2.2.2.2.2.2, hpn⟩ (fitsRoom.ok hrm), lk.2.2.2.2.1, Bd.2.2.2.2 _ lk.2.2.2.1⟩ ⟨cPre.blind, k_pre hG hP hD isC hC (okI.ok hok).1⟩ rfl rfl hl hst (lv_room hw) hdg hce) hP hD hS hA isC isR isB hC hR (okI.ok hok).2.1 (okI.ok hok).2.2.2 (okI.ok hok).2.2.1 hB2 kk
end
end
section
/-! NAMES: the words that every method may use (TB), the words of the nest (NW), classes, methods -/
def TB : List Cond := lw_tbl.filter goodWord
def NW : List Cond := tables_1.filter nw_ok
theorem TB_good : GoodIn TB TB := fun w hw => ⟨hw, good_of_word (List.mem_filter.mp hw).2⟩
theorem tb_in {w : Cond} (h : w ∈ tables_1) (hg : goodWord w = true) : w ∈ TB := List.mem_filter.mpr ⟨List.mem_append_right _ h, hg⟩
theorem tb_sel {w : Cond} (h : w ∈ k2_sels lw_privs) (hg : goodWord w = true) : w ∈ TB := List.mem_filter.mpr ⟨List.mem_append_left _ h, hg⟩
theorem nw_in {w : Cond} (h : w ∈ tables_1) (hg : nw_ok w = true) : w ∈ NW := List.mem_filter.mpr ⟨h, hg⟩
abbrev y_Tiles_init : MethodName := ⟨"TileScreen$Tiles", "<init>", "(I)V"⟩
abbrev b_Tiles_init : ByteArray := prog_8_method_1_code
abbrev y_Tiles_get : MethodName := ⟨"TileScreen$Tiles", "get", "(II)I"⟩
abbrev b_Tiles_get : ByteArray := prog_8_method_2_code
abbrev y_Tiles_set : MethodName := ⟨"TileScreen$Tiles", "set", "(III)V"⟩
abbrev b_Tiles_set : ByteArray := prog_8_method_3_code
abbrev y_Tiles_take : MethodName := ⟨"TileScreen$Tiles", "take", "(ILTileScreen$Tiles;I)V"⟩
abbrev b_Tiles_take : ByteArray := prog_8_method_4_code
abbrev y_Tiles_takeAll : MethodName := ⟨"TileScreen$Tiles", "takeAll", "(LTileScreen$Tiles;)V"⟩
abbrev b_Tiles_takeAll : ByteArray := prog_8_method_5_code
abbrev y_Tiles_isSame : MethodName := ⟨"TileScreen$Tiles", "isSame", "(ILTileScreen$Tiles;I)Z"⟩
abbrev b_Tiles_isSame : ByteArray := prog_8_method_6_code
abbrev y_Tiles_find : MethodName := ⟨"TileScreen$Tiles", "find", "(ILTileScreen$Tiles;I)I"⟩
abbrev b_Tiles_find : ByteArray := prog_8_method_7_code
abbrev y_Tiles_countOther : MethodName := ⟨"TileScreen$Tiles", "countOther", "(LTileScreen$Tiles;)I"⟩
abbrev b_Tiles_countOther : ByteArray := prog_8_method_8_code
abbrev y_Cache_init : MethodName := ⟨"TileScreen$Cache", "<init>", "()V"⟩
abbrev b_Cache_init : ByteArray := prog_2_method_1_code
abbrev y_Cache_clear : MethodName := ⟨"TileScreen$Cache", "clear", "()V"⟩
abbrev b_Cache_clear : ByteArray := prog_2_method_2_code
abbrev y_Cache_put : MethodName := ⟨"TileScreen$Cache", "put", "(LTileScreen$Tiles;I)V"⟩
abbrev b_Cache_put : ByteArray := prog_2_method_3_code
abbrev y_Line_init : MethodName := ⟨"TileScreen$Line", "<init>", "()V"⟩
abbrev b_Line_init : ByteArray := prog_5_method_1_code
abbrev y_Line_clear : MethodName := ⟨"TileScreen$Line", "clear", "()V"⟩
abbrev b_Line_clear : ByteArray := prog_5_method_2_code
abbrev y_Line_add : MethodName := ⟨"TileScreen$Line", "add", "(I)V"⟩
abbrev b_Line_add : ByteArray := prog_5_method_3_code
abbrev y_Line_addPair : MethodName := ⟨"TileScreen$Line", "addPair", "(I)V"⟩
abbrev b_Line_addPair : ByteArray := prog_5_method_4_code
abbrev y_Line_set : MethodName := ⟨"TileScreen$Line", "set", "(II)V"⟩
abbrev b_Line_set : ByteArray := prog_5_method_5_code
abbrev y_Line_get : MethodName := ⟨"TileScreen$Line", "get", "(I)I"⟩
abbrev b_Line_get : ByteArray := prog_5_method_6_code
abbrev y_Line_removeFirst : MethodName := ⟨"TileScreen$Line", "removeFirst", "()I"⟩
abbrev b_Line_removeFirst : ByteArray := prog_5_method_7_code
abbrev y_Poisons_init : MethodName := ⟨"TileScreen$Poisons", "<init>", "()V"⟩
abbrev b_Poisons_init : ByteArray := prog_7_method_1_code
abbrev y_Poisons_add : MethodName := ⟨"TileScreen$Poisons", "add", "(II)V"⟩
abbrev b_Poisons_add : ByteArray := prog_7_method_2_code
abbrev y_Poisons_spoil : MethodName := ⟨"TileScreen$Poisons", "spoil", "(I)I"⟩
abbrev b_Poisons_spoil : ByteArray := prog_7_method_3_code
abbrev y_Look_init : MethodName := ⟨"TileScreen$Look", "<init>", "()V"⟩
abbrev b_Look_init : ByteArray := prog_6_method_1_code
abbrev y_Look_study : MethodName := ⟨"TileScreen$Look", "study", "(LTileScreen$Tiles;I)V"⟩
abbrev b_Look_study : ByteArray := prog_6_method_2_code
abbrev y_Look_meet : MethodName := ⟨"TileScreen$Look", "meet", "(I)V"⟩
abbrev b_Look_meet : ByteArray := prog_6_method_3_code
abbrev y_Look_indexOf : MethodName := ⟨"TileScreen$Look", "indexOf", "(I)I"⟩
abbrev b_Look_indexOf : ByteArray := prog_6_method_4_code
abbrev y_Feed_init : MethodName := ⟨"TileScreen$Feed", "<init>", "()V"⟩
abbrev b_Feed_init : ByteArray := prog_4_method_1_code
abbrev y_Feed_compose : MethodName := ⟨"TileScreen$Feed", "compose", "(LTileScreen$Tiles;I)V"⟩
abbrev b_Feed_compose : ByteArray := prog_4_method_2_code
abbrev y_Feed_addRecord : MethodName := ⟨"TileScreen$Feed", "addRecord", "(LTileScreen$Tiles;I)V"⟩
abbrev b_Feed_addRecord : ByteArray := prog_4_method_3_code
abbrev y_Feed_chooseKind : MethodName := ⟨"TileScreen$Feed", "chooseKind", "()I"⟩
abbrev b_Feed_chooseKind : ByteArray := prog_4_method_4_code
abbrev y_Feed_isFit : MethodName := ⟨"TileScreen$Feed", "isFit", "(I)Z"⟩
abbrev b_Feed_isFit : ByteArray := prog_4_method_5_code
abbrev y_Feed_lengthOf : MethodName := ⟨"TileScreen$Feed", "lengthOf", "(I)I"⟩
abbrev b_Feed_lengthOf : ByteArray := prog_4_method_6_code
abbrev y_Feed_addContent : MethodName := ⟨"TileScreen$Feed", "addContent", "(ILTileScreen$Tiles;I)V"⟩
abbrev b_Feed_addContent : ByteArray := prog_4_method_7_code
abbrev y_Feed_addPalette : MethodName := ⟨"TileScreen$Feed", "addPalette", "()V"⟩
abbrev b_Feed_addPalette : ByteArray := prog_4_method_8_code
abbrev y_Feed_addBits : MethodName := ⟨"TileScreen$Feed", "addBits", "(LTileScreen$Tiles;II)V"⟩
abbrev b_Feed_addBits : ByteArray := prog_4_method_9_code
abbrev y_Feed_addRuns : MethodName := ⟨"TileScreen$Feed", "addRuns", "(LTileScreen$Tiles;I)V"⟩
abbrev b_Feed_addRuns : ByteArray := prog_4_method_10_code
abbrev y_Feed_addRaw : MethodName := ⟨"TileScreen$Feed", "addRaw", "(LTileScreen$Tiles;I)V"⟩
abbrev b_Feed_addRaw : ByteArray := prog_4_method_11_code
abbrev y_Display_init : MethodName := ⟨"TileScreen$Display", "<init>", "()V"⟩
abbrev b_Display_init : ByteArray := prog_3_method_1_code
abbrev y_Display_forget : MethodName := ⟨"TileScreen$Display", "forget", "()V"⟩
abbrev b_Display_forget : ByteArray := prog_3_method_2_code
abbrev y_Display_receive : MethodName := ⟨"TileScreen$Display", "receive", "(I)Z"⟩
abbrev b_Display_receive : ByteArray := prog_3_method_3_code
abbrev y_Display_readUpdate : MethodName := ⟨"TileScreen$Display", "readUpdate", "()Z"⟩
abbrev b_Display_readUpdate : ByteArray := prog_3_method_4_code
abbrev y_Display_numberAbove : MethodName := ⟨"TileScreen$Display", "numberAbove", "(II)I"⟩
abbrev b_Display_numberAbove : ByteArray := prog_3_method_5_code
abbrev y_Display_pairAt : MethodName := ⟨"TileScreen$Display", "pairAt", "(I)I"⟩
abbrev b_Display_pairAt : ByteArray := prog_3_method_6_code
abbrev y_Display_readRecord : MethodName := ⟨"TileScreen$Display", "readRecord", "()V"⟩
abbrev b_Display_readRecord : ByteArray := prog_3_method_7_code
abbrev y_Display_readSource : MethodName := ⟨"TileScreen$Display", "readSource", "(ILTileScreen$Tiles;I)V"⟩
abbrev b_Display_readSource : ByteArray := prog_3_method_8_code
abbrev y_Display_readColourCount : MethodName := ⟨"TileScreen$Display", "readColourCount", "()I"⟩
abbrev b_Display_readColourCount : ByteArray := prog_3_method_9_code
abbrev y_Display_readPixels : MethodName := ⟨"TileScreen$Display", "readPixels", "(III)V"⟩
abbrev b_Display_readPixels : ByteArray := prog_3_method_10_code
abbrev y_Display_readRuns : MethodName := ⟨"TileScreen$Display", "readRuns", "(I)V"⟩
abbrev b_Display_readRuns : ByteArray := prog_3_method_11_code
abbrev y_Display_readRaw : MethodName := ⟨"TileScreen$Display", "readRaw", "(I)V"⟩
abbrev b_Display_readRaw : ByteArray := prog_3_method_12_code
abbrev y_Display_paint : MethodName := ⟨"TileScreen$Display", "paint", "(IIII)V"⟩
abbrev b_Display_paint : ByteArray := prog_3_method_13_code
abbrev y_Display_readColour : MethodName := ⟨"TileScreen$Display", "readColour", "()I"⟩
abbrev b_Display_readColour : ByteArray := prog_3_method_14_code
abbrev y_Display_readByte : MethodName := ⟨"TileScreen$Display", "readByte", "()I"⟩
abbrev b_Display_readByte : ByteArray := prog_3_method_15_code
abbrev y_Viewer_init : MethodName := ⟨"TileScreen$Viewer", "<init>", "()V"⟩
abbrev b_Viewer_init : ByteArray := prog_9_method_1_code
abbrev y_Viewer_connect : MethodName := ⟨"TileScreen$Viewer", "connect", "()V"⟩
abbrev b_Viewer_connect : ByteArray := prog_9_method_2_code
abbrev y_Viewer_disconnect : MethodName := ⟨"TileScreen$Viewer", "disconnect", "()V"⟩
abbrev b_Viewer_disconnect : ByteArray := prog_9_method_3_code
abbrev y_Scr_init : MethodName := ⟨"TileScreen", "<init>", "()V"⟩
abbrev b_Scr_init : ByteArray := prog_1_method_1_code
abbrev y_Scr_fill : MethodName := ⟨"TileScreen", "fill", "(IIIII)Z"⟩
abbrev b_Scr_fill : ByteArray := prog_1_method_2_code
abbrev y_Scr_blit : MethodName := ⟨"TileScreen", "blit", "(IIII)Z"⟩
abbrev b_Scr_blit : ByteArray := prog_1_method_3_code
abbrev y_Scr_shade : MethodName := ⟨"TileScreen", "shade", "(IIII)Z"⟩
abbrev b_Scr_shade : ByteArray := prog_1_method_4_code
abbrev y_Scr_frame : MethodName := ⟨"TileScreen", "frame", "()I"⟩
abbrev b_Scr_frame : ByteArray := prog_1_method_5_code
abbrev y_Scr_join : MethodName := ⟨"TileScreen", "join", "(I)Z"⟩
abbrev b_Scr_join : ByteArray := prog_1_method_6_code
abbrev y_Scr_cut : MethodName := ⟨"TileScreen", "cut", "(I)Z"⟩
abbrev b_Scr_cut : ByteArray := prog_1_method_7_code
abbrev y_Scr_credit : MethodName := ⟨"TileScreen", "credit", "(II)I"⟩
abbrev b_Scr_credit : ByteArray := prog_1_method_8_code
abbrev y_Scr_pump : MethodName := ⟨"TileScreen", "pump", "(I)I"⟩
abbrev b_Scr_pump : ByteArray := prog_1_method_9_code
abbrev y_Scr_poison : MethodName := ⟨"TileScreen", "poison", "(III)Z"⟩
abbrev b_Scr_poison : ByteArray := prog_1_method_10_code
abbrev y_Scr_shown : MethodName := ⟨"TileScreen", "shown", "(I)I"⟩
abbrev b_Scr_shown : ByteArray := prog_1_method_11_code
abbrev y_Scr_at : MethodName := ⟨"TileScreen", "at", "(III)I"⟩
abbrev b_Scr_at : ByteArray := prog_1_method_12_code
abbrev y_Scr_about : MethodName := ⟨"TileScreen", "about", "(II)I"⟩
abbrev b_Scr_about : ByteArray := prog_1_method_13_code
abbrev y_Scr_bytesBy : MethodName := ⟨"TileScreen", "bytesBy", "(II)I"⟩
abbrev b_Scr_bytesBy : ByteArray := prog_1_method_14_code
abbrev y_Scr_onLine : MethodName := ⟨"TileScreen", "onLine", "(II)I"⟩
abbrev b_Scr_onLine : ByteArray := prog_1_method_15_code
abbrev y_Scr_isViewer : MethodName := ⟨"TileScreen", "isViewer", "(I)Z"⟩
abbrev b_Scr_isViewer : ByteArray := prog_1_method_16_code
abbrev y_Scr_isColour : MethodName := ⟨"TileScreen", "isColour", "(I)Z"⟩
abbrev b_Scr_isColour : ByteArray := prog_1_method_17_code
abbrev y_Scr_isInside : MethodName := ⟨"TileScreen", "isInside", "(IIII)Z"⟩
abbrev b_Scr_isInside : ByteArray := prog_1_method_18_code
abbrev y_Scr_tileOf : MethodName := ⟨"TileScreen", "tileOf", "(II)I"⟩
abbrev b_Scr_tileOf : ByteArray := prog_1_method_19_code
abbrev y_Scr_pixelOf : MethodName := ⟨"TileScreen", "pixelOf", "(II)I"⟩
abbrev b_Scr_pixelOf : ByteArray := prog_1_method_20_code
abbrev y_Scr_pixelAt : MethodName := ⟨"TileScreen", "pixelAt", "(LTileScreen$Tiles;II)I"⟩
abbrev b_Scr_pixelAt : ByteArray := prog_1_method_21_code
abbrev y_Scr_sumOf : MethodName := ⟨"TileScreen", "sumOf", "([III)I"⟩
abbrev b_Scr_sumOf : ByteArray := prog_1_method_22_code
abbrev y_Mod_init : MethodName := ⟨"TileScreenModel", "<init>", "()V"⟩
abbrev b_Mod_init : ByteArray := prog_11_method_1_code
abbrev y_Mod_thrown : MethodName := ⟨"TileScreenModel", "thrown", "()I"⟩
abbrev b_Mod_thrown : ByteArray := prog_11_method_2_code
abbrev y_Mod_spot : MethodName := ⟨"TileScreenModel", "spot", "(III)I"⟩
abbrev b_Mod_spot : ByteArray := prog_11_method_3_code
abbrev y_Mod_become : MethodName := ⟨"TileScreenModel", "become", "(II)V"⟩
abbrev b_Mod_become : ByteArray := prog_11_method_4_code
abbrev y_Mod_sameTile : MethodName := ⟨"TileScreenModel", "sameTile", "(IIII)Z"⟩
abbrev b_Mod_sameTile : ByteArray := prog_11_method_5_code
abbrev y_Mod_isRect : MethodName := ⟨"TileScreenModel", "isRect", "(IIII)Z"⟩
abbrev b_Mod_isRect : ByteArray := prog_11_method_6_code
abbrev y_Mod_isColour : MethodName := ⟨"TileScreenModel", "isColour", "(I)Z"⟩
abbrev b_Mod_isColour : ByteArray := prog_11_method_7_code
abbrev y_Mod_isViewer : MethodName := ⟨"TileScreenModel", "isViewer", "(I)Z"⟩
abbrev b_Mod_isViewer : ByteArray := prog_11_method_8_code
abbrev y_Mod_fill : MethodName := ⟨"TileScreenModel", "fill", "(IIIII)Z"⟩
abbrev b_Mod_fill : ByteArray := prog_11_method_9_code
abbrev y_Mod_blit : MethodName := ⟨"TileScreenModel", "blit", "(IIII)Z"⟩
abbrev b_Mod_blit : ByteArray := prog_11_method_10_code
abbrev y_Mod_shade : MethodName := ⟨"TileScreenModel", "shade", "(IIII)Z"⟩
abbrev b_Mod_shade : ByteArray := prog_11_method_11_code
abbrev y_Mod_frame : MethodName := ⟨"TileScreenModel", "frame", "()I"⟩
abbrev b_Mod_frame : ByteArray := prog_11_method_12_code
abbrev y_Mod_join : MethodName := ⟨"TileScreenModel", "join", "(I)Z"⟩
abbrev b_Mod_join : ByteArray := prog_11_method_13_code
abbrev y_Mod_leave : MethodName := ⟨"TileScreenModel", "leave", "(I)V"⟩
abbrev b_Mod_leave : ByteArray := prog_11_method_14_code
abbrev y_Mod_cut : MethodName := ⟨"TileScreenModel", "cut", "(I)Z"⟩
abbrev b_Mod_cut : ByteArray := prog_11_method_15_code
abbrev y_Mod_credit : MethodName := ⟨"TileScreenModel", "credit", "(II)I"⟩
abbrev b_Mod_credit : ByteArray := prog_11_method_16_code
abbrev y_Mod_put : MethodName := ⟨"TileScreenModel", "put", "(I)V"⟩
abbrev b_Mod_put : ByteArray := prog_11_method_17_code
abbrev y_Mod_putTwo : MethodName := ⟨"TileScreenModel", "putTwo", "(I)V"⟩
abbrev b_Mod_putTwo : ByteArray := prog_11_method_18_code
abbrev y_Mod_findColours : MethodName := ⟨"TileScreenModel", "findColours", "()V"⟩
abbrev b_Mod_findColours : ByteArray := prog_11_method_19_code
abbrev y_Mod_numberOf : MethodName := ⟨"TileScreenModel", "numberOf", "(I)I"⟩
abbrev b_Mod_numberOf : ByteArray := prog_11_method_20_code
abbrev y_Mod_likeTile : MethodName := ⟨"TileScreenModel", "likeTile", "(I)I"⟩
abbrev b_Mod_likeTile : ByteArray := prog_11_method_21_code
abbrev y_Mod_likeEntry : MethodName := ⟨"TileScreenModel", "likeEntry", "(I)I"⟩
abbrev b_Mod_likeEntry : ByteArray := prog_11_method_22_code
abbrev y_Mod_putBits : MethodName := ⟨"TileScreenModel", "putBits", "(I)V"⟩
abbrev b_Mod_putBits : ByteArray := prog_11_method_23_code
abbrev y_Mod_putRuns : MethodName := ⟨"TileScreenModel", "putRuns", "()V"⟩
abbrev b_Mod_putRuns : ByteArray := prog_11_method_24_code
abbrev y_Mod_write : MethodName := ⟨"TileScreenModel", "write", "(III)Z"⟩
abbrev b_Mod_write : ByteArray := prog_11_method_25_code
abbrev y_Mod_keep : MethodName := ⟨"TileScreenModel", "keep", "(I)V"⟩
abbrev b_Mod_keep : ByteArray := prog_11_method_26_code
abbrev y_Mod_send : MethodName := ⟨"TileScreenModel", "send", "(II)V"⟩
abbrev b_Mod_send : ByteArray := prog_11_method_27_code
abbrev y_Mod_compose : MethodName := ⟨"TileScreenModel", "compose", "(I)V"⟩
abbrev b_Mod_compose : ByteArray := prog_11_method_28_code
abbrev y_Mod_get : MethodName := ⟨"TileScreenModel", "get", "(I)I"⟩
abbrev b_Mod_get : ByteArray := prog_11_method_29_code
abbrev y_Mod_getTwo : MethodName := ⟨"TileScreenModel", "getTwo", "(I)I"⟩
abbrev b_Mod_getTwo : ByteArray := prog_11_method_30_code
abbrev y_Mod_read : MethodName := ⟨"TileScreenModel", "read", "(II)Z"⟩
abbrev b_Mod_read : ByteArray := prog_11_method_31_code
abbrev y_Mod_readLike : MethodName := ⟨"TileScreenModel", "readLike", "(III)Z"⟩
abbrev b_Mod_readLike : ByteArray := prog_11_method_32_code
abbrev y_Mod_readRuns : MethodName := ⟨"TileScreenModel", "readRuns", "(I)Z"⟩
abbrev b_Mod_readRuns : ByteArray := prog_11_method_33_code
abbrev y_Mod_whole : MethodName := ⟨"TileScreenModel", "whole", "(I)Z"⟩
abbrev b_Mod_whole : ByteArray := prog_11_method_34_code
abbrev y_Mod_take : MethodName := ⟨"TileScreenModel", "take", "(II)Z"⟩
abbrev b_Mod_take : ByteArray := prog_11_method_35_code
abbrev y_Mod_pump : MethodName := ⟨"TileScreenModel", "pump", "(I)I"⟩
abbrev b_Mod_pump : ByteArray := prog_11_method_36_code
abbrev y_Mod_poison : MethodName := ⟨"TileScreenModel", "poison", "(III)Z"⟩
abbrev b_Mod_poison : ByteArray := prog_11_method_37_code
abbrev y_Mod_shown : MethodName := ⟨"TileScreenModel", "shown", "(I)I"⟩
abbrev b_Mod_shown : ByteArray := prog_11_method_38_code
abbrev y_Mod_at : MethodName := ⟨"TileScreenModel", "at", "(III)I"⟩
abbrev b_Mod_at : ByteArray := prog_11_method_39_code
abbrev y_Mod_about : MethodName := ⟨"TileScreenModel", "about", "(II)I"⟩
abbrev b_Mod_about : ByteArray := prog_11_method_40_code
abbrev y_Mod_bytesBy : MethodName := ⟨"TileScreenModel", "bytesBy", "(II)I"⟩
abbrev b_Mod_bytesBy : ByteArray := prog_11_method_41_code
abbrev y_Mod_onLine : MethodName := ⟨"TileScreenModel", "onLine", "(II)I"⟩
abbrev b_Mod_onLine : ByteArray := prog_11_method_42_code
def F_Tiles : u_T := fun k => match k with
  | 0 => ("TileScreen$Tiles", "count", "I", true)
  | _ => ("TileScreen$Tiles", "pixels", "[I", true)
def t_Tiles : Nat → FieldType := fun k => match k with
  | 0 => .int
  | _ => .array (.int)
theorem n_Tiles : ∀ a, a < 2 → ∀ b, b < 2 → a ≠ b → (F_Tiles a).2.1 ≠ (F_Tiles b).2.1 := by decide +kernel
theorem t_Tiles_ok : ∀ k, k < 2 → parseFieldDescriptor (F_Tiles k).2.2.1 = some (t_Tiles k) := by decide +kernel
theorem i_Tiles : ∀ w ∈ u_ws "TileScreen$Tiles" F_Tiles 2, w ∈ TB := by
  have h : (u_ws "TileScreen$Tiles" F_Tiles 2).all (fun w => decide (w ∈ tables_1) && goodWord w) = true := by decide +kernel
  exact fun w hw => by have h1 := List.all_eq_true.mp h w hw; rw [Bool.and_eq_true, decide_eq_true_iff] at h1; exact tb_in h1.1 h1.2
def F_Cache : u_T := fun k => match k with
  | 0 => ("TileScreen$Cache", "tiles", "LTileScreen$Tiles;", true)
  | 1 => ("TileScreen$Cache", "place", "I", false)
  | _ => ("TileScreen$Cache", "used", "I", false)
def t_Cache : Nat → FieldType := fun k => match k with
  | 0 => .object "TileScreen$Tiles"
  | 1 => .int
  | _ => .int
theorem n_Cache : ∀ a, a < 3 → ∀ b, b < 3 → a ≠ b → (F_Cache a).2.1 ≠ (F_Cache b).2.1 := by decide +kernel
theorem t_Cache_ok : ∀ k, k < 3 → parseFieldDescriptor (F_Cache k).2.2.1 = some (t_Cache k) := by decide +kernel
theorem i_Cache : ∀ w ∈ u_ws "TileScreen$Cache" F_Cache 3, w ∈ TB := by
  have h : (u_ws "TileScreen$Cache" F_Cache 3).all (fun w => decide (w ∈ tables_1) && goodWord w) = true := by decide +kernel
  exact fun w hw => by have h1 := List.all_eq_true.mp h w hw; rw [Bool.and_eq_true, decide_eq_true_iff] at h1; exact tb_in h1.1 h1.2
def F_Line : u_T := fun k => match k with
  | 0 => ("TileScreen$Line", "bytes", "[I", true)
  | 1 => ("TileScreen$Line", "first", "I", false)
  | _ => ("TileScreen$Line", "size", "I", false)
def t_Line : Nat → FieldType := fun k => match k with
  | 0 => .array (.int)
  | 1 => .int
  | _ => .int
theorem n_Line : ∀ a, a < 3 → ∀ b, b < 3 → a ≠ b → (F_Line a).2.1 ≠ (F_Line b).2.1 := by decide +kernel
theorem t_Line_ok : ∀ k, k < 3 → parseFieldDescriptor (F_Line k).2.2.1 = some (t_Line k) := by decide +kernel
theorem i_Line : ∀ w ∈ u_ws "TileScreen$Line" F_Line 3, w ∈ TB := by
  have h : (u_ws "TileScreen$Line" F_Line 3).all (fun w => decide (w ∈ tables_1) && goodWord w) = true := by decide +kernel
  exact fun w hw => by have h1 := List.all_eq_true.mp h w hw; rw [Bool.and_eq_true, decide_eq_true_iff] at h1; exact tb_in h1.1 h1.2
def F_Poisons : u_T := fun k => match k with
  | 0 => ("TileScreen$Poisons", "ahead", "[I", true)
  | 1 => ("TileScreen$Poisons", "masks", "[I", true)
  | _ => ("TileScreen$Poisons", "count", "I", false)
def t_Poisons : Nat → FieldType := fun k => match k with
  | 0 => .array (.int)
  | 1 => .array (.int)
  | _ => .int
theorem n_Poisons : ∀ a, a < 3 → ∀ b, b < 3 → a ≠ b → (F_Poisons a).2.1 ≠ (F_Poisons b).2.1 := by decide +kernel
theorem t_Poisons_ok : ∀ k, k < 3 → parseFieldDescriptor (F_Poisons k).2.2.1 = some (t_Poisons k) := by decide +kernel
theorem i_Poisons : ∀ w ∈ u_ws "TileScreen$Poisons" F_Poisons 3, w ∈ TB := by
  have h : (u_ws "TileScreen$Poisons" F_Poisons 3).all (fun w => decide (w ∈ tables_1) && goodWord w) = true := by decide +kernel
  exact fun w hw => by have h1 := List.all_eq_true.mp h w hw; rw [Bool.and_eq_true, decide_eq_true_iff] at h1; exact tb_in h1.1 h1.2
def F_Look : u_T := fun k => match k with
  | 0 => ("TileScreen$Look", "palette", "[I", true)
  | 1 => ("TileScreen$Look", "colours", "I", false)
  | _ => ("TileScreen$Look", "runs", "I", false)
def t_Look : Nat → FieldType := fun k => match k with
  | 0 => .array (.int)
  | 1 => .int
  | _ => .int
theorem n_Look : ∀ a, a < 3 → ∀ b, b < 3 → a ≠ b → (F_Look a).2.1 ≠ (F_Look b).2.1 := by decide +kernel
theorem t_Look_ok : ∀ k, k < 3 → parseFieldDescriptor (F_Look k).2.2.1 = some (t_Look k) := by decide +kernel
theorem i_Look : ∀ w ∈ u_ws "TileScreen$Look" F_Look 3, w ∈ TB := by
  have h : (u_ws "TileScreen$Look" F_Look 3).all (fun w => decide (w ∈ tables_1) && goodWord w) = true := by decide +kernel
  exact fun w hw => by have h1 := List.all_eq_true.mp h w hw; rw [Bool.and_eq_true, decide_eq_true_iff] at h1; exact tb_in h1.1 h1.2
def F_Feed : u_T := fun k => match k with
  | 0 => ("TileScreen$Feed", "sent", "LTileScreen$Tiles;", true)
  | 1 => ("TileScreen$Feed", "sentNumber", "I", false)
  | 2 => ("TileScreen$Feed", "cache", "LTileScreen$Cache;", true)
  | 3 => ("TileScreen$Feed", "line", "LTileScreen$Line;", true)
  | 4 => ("TileScreen$Feed", "composed", "[I", true)
  | 5 => ("TileScreen$Feed", "look", "LTileScreen$Look;", true)
  | 6 => ("TileScreen$Feed", "twin", "I", false)
  | _ => ("TileScreen$Feed", "entry", "I", false)
def t_Feed : Nat → FieldType := fun k => match k with
  | 0 => .object "TileScreen$Tiles"
  | 1 => .int
  | 2 => .object "TileScreen$Cache"
  | 3 => .object "TileScreen$Line"
  | 4 => .array (.int)
  | 5 => .object "TileScreen$Look"
  | 6 => .int
  | _ => .int
theorem n_Feed : ∀ a, a < 8 → ∀ b, b < 8 → a ≠ b → (F_Feed a).2.1 ≠ (F_Feed b).2.1 := by decide +kernel
theorem t_Feed_ok : ∀ k, k < 8 → parseFieldDescriptor (F_Feed k).2.2.1 = some (t_Feed k) := by decide +kernel
theorem i_Feed : ∀ w ∈ u_ws "TileScreen$Feed" F_Feed 8, w ∈ TB := by
  have h : (u_ws "TileScreen$Feed" F_Feed 8).all (fun w => decide (w ∈ tables_1) && goodWord w) = true := by decide +kernel
  exact fun w hw => by have h1 := List.all_eq_true.mp h w hw; rw [Bool.and_eq_true, decide_eq_true_iff] at h1; exact tb_in h1.1 h1.2
def F_Display : u_T := fun k => match k with
  | 0 => ("TileScreen$Display", "front", "LTileScreen$Tiles;", true)
  | 1 => ("TileScreen$Display", "frontNumber", "I", false)
  | 2 => ("TileScreen$Display", "back", "LTileScreen$Tiles;", true)
  | 3 => ("TileScreen$Display", "cache", "LTileScreen$Cache;", true)
  | 4 => ("TileScreen$Display", "came", "[I", true)
  | 5 => ("TileScreen$Display", "cameSize", "I", false)
  | 6 => ("TileScreen$Display", "palette", "[I", true)
  | 7 => ("TileScreen$Display", "position", "I", false)
  | 8 => ("TileScreen$Display", "end", "I", false)
  | _ => ("TileScreen$Display", "wrong", "Z", false)
def t_Display : Nat → FieldType := fun k => match k with
  | 0 => .object "TileScreen$Tiles"
  | 1 => .int
  | 2 => .object "TileScreen$Tiles"
  | 3 => .object "TileScreen$Cache"
  | 4 => .array (.int)
  | 5 => .int
  | 6 => .array (.int)
  | 7 => .int
  | 8 => .int
  | _ => .boolean
theorem n_Display : ∀ a, a < 10 → ∀ b, b < 10 → a ≠ b → (F_Display a).2.1 ≠ (F_Display b).2.1 := by decide +kernel
theorem t_Display_ok : ∀ k, k < 10 → parseFieldDescriptor (F_Display k).2.2.1 = some (t_Display k) := by decide +kernel
theorem i_Display : ∀ w ∈ u_ws "TileScreen$Display" F_Display 10, w ∈ TB := by
  have h : (u_ws "TileScreen$Display" F_Display 10).all (fun w => decide (w ∈ tables_1) && goodWord w) = true := by decide +kernel
  exact fun w hw => by have h1 := List.all_eq_true.mp h w hw; rw [Bool.and_eq_true, decide_eq_true_iff] at h1; exact tb_in h1.1 h1.2
def F_Viewer : u_T := fun k => match k with
  | 0 => ("TileScreen$Viewer", "feed", "LTileScreen$Feed;", true)
  | 1 => ("TileScreen$Viewer", "display", "LTileScreen$Display;", true)
  | 2 => ("TileScreen$Viewer", "poisons", "LTileScreen$Poisons;", true)
  | 3 => ("TileScreen$Viewer", "connected", "Z", false)
  | 4 => ("TileScreen$Viewer", "credit", "I", false)
  | _ => ("TileScreen$Viewer", "epoch", "I", false)
def t_Viewer : Nat → FieldType := fun k => match k with
  | 0 => .object "TileScreen$Feed"
  | 1 => .object "TileScreen$Display"
  | 2 => .object "TileScreen$Poisons"
  | 3 => .boolean
  | 4 => .int
  | _ => .int
theorem n_Viewer : ∀ a, a < 6 → ∀ b, b < 6 → a ≠ b → (F_Viewer a).2.1 ≠ (F_Viewer b).2.1 := by decide +kernel
theorem t_Viewer_ok : ∀ k, k < 6 → parseFieldDescriptor (F_Viewer k).2.2.1 = some (t_Viewer k) := by decide +kernel
theorem i_Viewer : ∀ w ∈ u_ws "TileScreen$Viewer" F_Viewer 6, w ∈ TB := by
  have h : (u_ws "TileScreen$Viewer" F_Viewer 6).all (fun w => decide (w ∈ tables_1) && goodWord w) = true := by decide +kernel
  exact fun w hw => by have h1 := List.all_eq_true.mp h w hw; rw [Bool.and_eq_true, decide_eq_true_iff] at h1; exact tb_in h1.1 h1.2
def F_Scr : u_T := fun k => match k with
  | 0 => ("TileScreen", "drawn", "LTileScreen$Tiles;", true)
  | 1 => ("TileScreen", "closed", "LTileScreen$Tiles;", true)
  | 2 => ("TileScreen", "copy", "LTileScreen$Tiles;", true)
  | 3 => ("TileScreen", "viewers", "[LTileScreen$Viewer;", true)
  | _ => ("TileScreen", "number", "I", false)
def t_Scr : Nat → FieldType := fun k => match k with
  | 0 => .object "TileScreen$Tiles"
  | 1 => .object "TileScreen$Tiles"
  | 2 => .object "TileScreen$Tiles"
  | 3 => .array (.object "TileScreen$Viewer")
  | _ => .int
theorem n_Scr : ∀ a, a < 5 → ∀ b, b < 5 → a ≠ b → (F_Scr a).2.1 ≠ (F_Scr b).2.1 := by decide +kernel
theorem t_Scr_ok : ∀ k, k < 5 → parseFieldDescriptor (F_Scr k).2.2.1 = some (t_Scr k) := by decide +kernel
theorem i_Scr : ∀ w ∈ u_ws "TileScreen" F_Scr 5, w ∈ TB := by
  have h : (u_ws "TileScreen" F_Scr 5).all (fun w => decide (w ∈ tables_1) && goodWord w) = true := by decide +kernel
  exact fun w hw => by have h1 := List.all_eq_true.mp h w hw; rw [Bool.and_eq_true, decide_eq_true_iff] at h1; exact tb_in h1.1 h1.2
def F_Mod : u_T := fun k => match k with
  | 0 => ("TileScreenModel", "code", "I", false)
  | 1 => ("TileScreenModel", "pixel", "[I", true)
  | 2 => ("TileScreenModel", "number", "I", false)
  | 3 => ("TileScreenModel", "cached", "[I", true)
  | 4 => ("TileScreenModel", "place", "[I", true)
  | 5 => ("TileScreenModel", "there", "[Z", true)
  | 6 => ("TileScreenModel", "connected", "[Z", true)
  | 7 => ("TileScreenModel", "shown", "[I", true)
  | 8 => ("TileScreenModel", "sentFrame", "[I", true)
  | 9 => ("TileScreenModel", "credit", "[I", true)
  | 10 => ("TileScreenModel", "epoch", "[I", true)
  | 11 => ("TileScreenModel", "by", "[I", true)
  | 12 => ("TileScreenModel", "line", "[I", true)
  | 13 => ("TileScreenModel", "lineSize", "[I", true)
  | 14 => ("TileScreenModel", "lineAt", "[I", true)
  | 15 => ("TileScreenModel", "came", "[I", true)
  | 16 => ("TileScreenModel", "cameSize", "[I", true)
  | 17 => ("TileScreenModel", "poisonAt", "[I", true)
  | 18 => ("TileScreenModel", "poisonMask", "[I", true)
  | 19 => ("TileScreenModel", "poisons", "[I", true)
  | 20 => ("TileScreenModel", "tile", "[I", true)
  | 21 => ("TileScreenModel", "record", "[I", true)
  | 22 => ("TileScreenModel", "colour", "[I", true)
  | 23 => ("TileScreenModel", "size", "I", false)
  | 24 => ("TileScreenModel", "colours", "I", false)
  | 25 => ("TileScreenModel", "next", "I", false)
  | _ => ("TileScreenModel", "last", "I", false)
def t_Mod : Nat → FieldType := fun k => match k with
  | 0 => .int
  | 1 => .array (.int)
  | 2 => .int
  | 3 => .array (.int)
  | 4 => .array (.int)
  | 5 => .array (.boolean)
  | 6 => .array (.boolean)
  | 7 => .array (.int)
  | 8 => .array (.int)
  | 9 => .array (.int)
  | 10 => .array (.int)
  | 11 => .array (.int)
  | 12 => .array (.int)
  | 13 => .array (.int)
  | 14 => .array (.int)
  | 15 => .array (.int)
  | 16 => .array (.int)
  | 17 => .array (.int)
  | 18 => .array (.int)
  | 19 => .array (.int)
  | 20 => .array (.int)
  | 21 => .array (.int)
  | 22 => .array (.int)
  | 23 => .int
  | 24 => .int
  | 25 => .int
  | _ => .int
theorem n_Mod : ∀ a, a < 27 → ∀ b, b < 27 → a ≠ b → (F_Mod a).2.1 ≠ (F_Mod b).2.1 := by decide +kernel
theorem t_Mod_ok : ∀ k, k < 27 → parseFieldDescriptor (F_Mod k).2.2.1 = some (t_Mod k) := by decide +kernel
theorem i_Mod : ∀ w ∈ u_ws "TileScreenModel" F_Mod 27, w ∈ TB := by
  have h : (u_ws "TileScreenModel" F_Mod 27).all (fun w => decide (w ∈ tables_1) && goodWord w) = true := by decide +kernel
  exact fun w hw => by have h1 := List.all_eq_true.mp h w hw; rw [Bool.and_eq_true, decide_eq_true_iff] at h1; exact tb_in h1.1 h1.2
abbrev classes : List vw_C := [("TileScreen$Tiles", F_Tiles, 2), ("TileScreen$Cache", F_Cache, 3), ("TileScreen$Line", F_Line, 3), ("TileScreen$Poisons", F_Poisons, 3), ("TileScreen$Look", F_Look, 3), ("TileScreen$Feed", F_Feed, 8), ("TileScreen$Display", F_Display, 10), ("TileScreen$Viewer", F_Viewer, 6), ("TileScreen", F_Scr, 5), ("TileScreenModel", F_Mod, 27)]
end
section
/-! the words, one by one: k_n is the n-th of tables_1; s_n the selection of a private method -/
theorem k_0 : (Cond.initialized "TileScreenLaw") ∈ TB := tb_in (List.mem_of_getElem? (i := 0) (by decide +kernel)) (by decide +kernel)
theorem k_1 : (Cond.initialized "TileScreen") ∈ TB := tb_in (List.mem_of_getElem? (i := 1) (by decide +kernel)) (by decide +kernel)
theorem k_2 : (Cond.initialized "TileScreen$Tiles") ∈ TB := tb_in (List.mem_of_getElem? (i := 2) (by decide +kernel)) (by decide +kernel)
theorem k_3 : (Cond.initialized "TileScreen$Viewer") ∈ TB := tb_in (List.mem_of_getElem? (i := 3) (by decide +kernel)) (by decide +kernel)
theorem k_4 : (Cond.initialized "TileScreen$Feed") ∈ TB := tb_in (List.mem_of_getElem? (i := 4) (by decide +kernel)) (by decide +kernel)
theorem k_5 : (Cond.initialized "TileScreen$Cache") ∈ TB := tb_in (List.mem_of_getElem? (i := 5) (by decide +kernel)) (by decide +kernel)
theorem k_6 : (Cond.initialized "TileScreen$Line") ∈ TB := tb_in (List.mem_of_getElem? (i := 6) (by decide +kernel)) (by decide +kernel)
theorem k_7 : (Cond.initialized "TileScreen$Look") ∈ TB := tb_in (List.mem_of_getElem? (i := 7) (by decide +kernel)) (by decide +kernel)
theorem k_8 : (Cond.initialized "TileScreen$Display") ∈ TB := tb_in (List.mem_of_getElem? (i := 8) (by decide +kernel)) (by decide +kernel)
theorem k_9 : (Cond.initialized "TileScreen$Poisons") ∈ TB := tb_in (List.mem_of_getElem? (i := 9) (by decide +kernel)) (by decide +kernel)
theorem k_10 : (Cond.initialized "TileScreenModel") ∈ TB := tb_in (List.mem_of_getElem? (i := 10) (by decide +kernel)) (by decide +kernel)
theorem k_11 : (Cond.initialized "java/lang/System") ∈ TB := tb_in (List.mem_of_getElem? (i := 11) (by decide +kernel)) (by decide +kernel)
theorem k_12 : (Cond.initialized "java/lang/Throwable") ∈ TB := tb_in (List.mem_of_getElem? (i := 12) (by decide +kernel)) (by decide +kernel)
theorem k_13 : (Cond.initialized "java/lang/Exception") ∈ TB := tb_in (List.mem_of_getElem? (i := 13) (by decide +kernel)) (by decide +kernel)
theorem k_14 : (Cond.initialized "java/lang/RuntimeException") ∈ TB := tb_in (List.mem_of_getElem? (i := 14) (by decide +kernel)) (by decide +kernel)
theorem k_15 : (Cond.initialized "java/lang/IllegalArgumentException") ∈ TB := tb_in (List.mem_of_getElem? (i := 15) (by decide +kernel)) (by decide +kernel)
theorem k_16 : (Cond.initialized "java/lang/IllegalStateException") ∈ TB := tb_in (List.mem_of_getElem? (i := 16) (by decide +kernel)) (by decide +kernel)
theorem k_17 : (Cond.initialized "java/lang/Math") ∈ TB := tb_in (List.mem_of_getElem? (i := 17) (by decide +kernel)) (by decide +kernel)
theorem k_18 : (Cond.classLink "TileScreenLaw" 8 "TileScreen") ∈ TB := tb_in (List.mem_of_getElem? (i := 18) (by decide +kernel)) (by decide +kernel)
theorem k_19 : (Cond.instantiable "TileScreen" 5) ∈ TB := tb_in (List.mem_of_getElem? (i := 19) (by decide +kernel)) (by decide +kernel)
theorem k_20 : (Cond.methodLink "TileScreenLaw" 17 ⟨"TileScreen", "<init>", "()V"⟩) ∈ TB := tb_in (List.mem_of_getElem? (i := 20) (by decide +kernel)) (by decide +kernel)
theorem k_21 : (Cond.instanceMethod ⟨"TileScreen", "<init>", "()V"⟩) ∈ TB := tb_in (List.mem_of_getElem? (i := 21) (by decide +kernel)) (by decide +kernel)
theorem k_22 : (Cond.code ⟨"TileScreen", "<init>", "()V"⟩ prog_1_method_1_code 2 none) ∈ TB := tb_in (List.mem_of_getElem? (i := 22) (by decide +kernel)) (by decide +kernel)
theorem k_23 : (Cond.methodLink "TileScreen" 3 ⟨"java/lang/Object", "<init>", "()V"⟩) ∈ TB := tb_in (List.mem_of_getElem? (i := 23) (by decide +kernel)) (by decide +kernel)
theorem k_24 : (Cond.instanceMethod ⟨"java/lang/Object", "<init>", "()V"⟩) ∈ TB := tb_in (List.mem_of_getElem? (i := 24) (by decide +kernel)) (by decide +kernel)
theorem k_25 : (Cond.code ⟨"java/lang/Object", "<init>", "()V"⟩ object_method_1_code 1 none) ∈ TB := tb_in (List.mem_of_getElem? (i := 25) (by decide +kernel)) (by decide +kernel)
theorem k_26 : (Cond.classLink "TileScreen" 9 "TileScreen$Tiles") ∈ TB := tb_in (List.mem_of_getElem? (i := 26) (by decide +kernel)) (by decide +kernel)
theorem k_27 : (Cond.instantiable "TileScreen$Tiles" 2) ∈ TB := tb_in (List.mem_of_getElem? (i := 27) (by decide +kernel)) (by decide +kernel)
theorem k_28 : (Cond.methodLink "TileScreen" 11 ⟨"TileScreen$Tiles", "<init>", "(I)V"⟩) ∈ TB := tb_in (List.mem_of_getElem? (i := 28) (by decide +kernel)) (by decide +kernel)
theorem k_29 : (Cond.instanceMethod ⟨"TileScreen$Tiles", "<init>", "(I)V"⟩) ∈ TB := tb_in (List.mem_of_getElem? (i := 29) (by decide +kernel)) (by decide +kernel)
theorem k_30 : (Cond.code ⟨"TileScreen$Tiles", "<init>", "(I)V"⟩ prog_8_method_1_code 2 none) ∈ TB := tb_in (List.mem_of_getElem? (i := 30) (by decide +kernel)) (by decide +kernel)
theorem k_31 : (Cond.methodLink "TileScreen$Tiles" 3 ⟨"java/lang/Object", "<init>", "()V"⟩) ∈ TB := tb_in (List.mem_of_getElem? (i := 31) (by decide +kernel)) (by decide +kernel)
theorem k_32 : (Cond.fieldLink "TileScreen$Tiles" 9 "TileScreen$Tiles" "count" "I") ∈ TB := tb_in (List.mem_of_getElem? (i := 32) (by decide +kernel)) (by decide +kernel)
theorem k_33 : (Cond.fieldLink "TileScreen$Tiles" 15 "TileScreen$Tiles" "pixels" "[I") ∈ TB := tb_in (List.mem_of_getElem? (i := 33) (by decide +kernel)) (by decide +kernel)
theorem k_39 : (Cond.arrayClass .int) ∈ TB := tb_in (List.mem_of_getElem? (i := 39) (by decide +kernel)) (by decide +kernel)
theorem k_40 : (Cond.classLink "TileScreen" 24 "TileScreen$Viewer") ∈ TB := tb_in (List.mem_of_getElem? (i := 40) (by decide +kernel)) (by decide +kernel)
theorem k_42 : (Cond.instantiable "TileScreen$Viewer" 6) ∈ TB := tb_in (List.mem_of_getElem? (i := 42) (by decide +kernel)) (by decide +kernel)
theorem k_43 : (Cond.methodLinkNest "TileScreen" 30 ⟨"TileScreen$Viewer", "<init>", "()V"⟩ "TileScreen") ∈ NW := nw_in (List.mem_of_getElem? (i := 43) (by decide +kernel)) rfl
theorem k_44 : (Cond.instanceMethod ⟨"TileScreen$Viewer", "<init>", "()V"⟩) ∈ TB := tb_in (List.mem_of_getElem? (i := 44) (by decide +kernel)) (by decide +kernel)
theorem k_45 : (Cond.code ⟨"TileScreen$Viewer", "<init>", "()V"⟩ prog_9_method_1_code 1 none) ∈ TB := tb_in (List.mem_of_getElem? (i := 45) (by decide +kernel)) (by decide +kernel)
theorem k_46 : (Cond.methodLink "TileScreen$Viewer" 1 ⟨"java/lang/Object", "<init>", "()V"⟩) ∈ TB := tb_in (List.mem_of_getElem? (i := 46) (by decide +kernel)) (by decide +kernel)
theorem k_47 : (Cond.classLink "TileScreen$Viewer" 7 "TileScreen$Feed") ∈ TB := tb_in (List.mem_of_getElem? (i := 47) (by decide +kernel)) (by decide +kernel)
theorem k_48 : (Cond.instantiable "TileScreen$Feed" 8) ∈ TB := tb_in (List.mem_of_getElem? (i := 48) (by decide +kernel)) (by decide +kernel)
theorem k_49 : (Cond.methodLinkNest "TileScreen$Viewer" 9 ⟨"TileScreen$Feed", "<init>", "()V"⟩ "TileScreen") ∈ NW := nw_in (List.mem_of_getElem? (i := 49) (by decide +kernel)) rfl
theorem k_50 : (Cond.instanceMethod ⟨"TileScreen$Feed", "<init>", "()V"⟩) ∈ TB := tb_in (List.mem_of_getElem? (i := 50) (by decide +kernel)) (by decide +kernel)
theorem k_51 : (Cond.code ⟨"TileScreen$Feed", "<init>", "()V"⟩ prog_4_method_1_code 1 none) ∈ TB := tb_in (List.mem_of_getElem? (i := 51) (by decide +kernel)) (by decide +kernel)
theorem k_52 : (Cond.methodLink "TileScreen$Feed" 3 ⟨"java/lang/Object", "<init>", "()V"⟩) ∈ TB := tb_in (List.mem_of_getElem? (i := 52) (by decide +kernel)) (by decide +kernel)
theorem k_53 : (Cond.classLink "TileScreen$Feed" 9 "TileScreen$Tiles") ∈ TB := tb_in (List.mem_of_getElem? (i := 53) (by decide +kernel)) (by decide +kernel)
theorem k_54 : (Cond.methodLink "TileScreen$Feed" 11 ⟨"TileScreen$Tiles", "<init>", "(I)V"⟩) ∈ TB := tb_in (List.mem_of_getElem? (i := 54) (by decide +kernel)) (by decide +kernel)
theorem k_55 : (Cond.classLink "TileScreen$Feed" 20 "TileScreen$Cache") ∈ TB := tb_in (List.mem_of_getElem? (i := 55) (by decide +kernel)) (by decide +kernel)
theorem k_56 : (Cond.instantiable "TileScreen$Cache" 3) ∈ TB := tb_in (List.mem_of_getElem? (i := 56) (by decide +kernel)) (by decide +kernel)
theorem k_57 : (Cond.methodLinkNest "TileScreen$Feed" 22 ⟨"TileScreen$Cache", "<init>", "()V"⟩ "TileScreen") ∈ NW := nw_in (List.mem_of_getElem? (i := 57) (by decide +kernel)) rfl
theorem k_58 : (Cond.instanceMethod ⟨"TileScreen$Cache", "<init>", "()V"⟩) ∈ TB := tb_in (List.mem_of_getElem? (i := 58) (by decide +kernel)) (by decide +kernel)
theorem k_59 : (Cond.code ⟨"TileScreen$Cache", "<init>", "()V"⟩ prog_2_method_1_code 1 none) ∈ TB := tb_in (List.mem_of_getElem? (i := 59) (by decide +kernel)) (by decide +kernel)
theorem k_60 : (Cond.methodLink "TileScreen$Cache" 3 ⟨"java/lang/Object", "<init>", "()V"⟩) ∈ TB := tb_in (List.mem_of_getElem? (i := 60) (by decide +kernel)) (by decide +kernel)
theorem k_61 : (Cond.classLink "TileScreen$Cache" 9 "TileScreen$Tiles") ∈ TB := tb_in (List.mem_of_getElem? (i := 61) (by decide +kernel)) (by decide +kernel)
theorem k_62 : (Cond.methodLink "TileScreen$Cache" 11 ⟨"TileScreen$Tiles", "<init>", "(I)V"⟩) ∈ TB := tb_in (List.mem_of_getElem? (i := 62) (by decide +kernel)) (by decide +kernel)
theorem k_63 : (Cond.fieldLink "TileScreen$Cache" 14 "TileScreen$Cache" "tiles" "LTileScreen$Tiles;") ∈ TB := tb_in (List.mem_of_getElem? (i := 63) (by decide +kernel)) (by decide +kernel)
theorem k_64 : (Cond.fieldLinkNest "TileScreen$Feed" 94 "TileScreen$Cache" "tiles" "LTileScreen$Tiles;" "TileScreen") ∈ NW := nw_in (List.mem_of_getElem? (i := 64) (by decide +kernel)) rfl
theorem k_65 : (Cond.fieldLinkNest "TileScreen$Display" 101 "TileScreen$Cache" "tiles" "LTileScreen$Tiles;" "TileScreen") ∈ NW := nw_in (List.mem_of_getElem? (i := 65) (by decide +kernel)) rfl
theorem k_66 : (Cond.fieldLink "TileScreen$Cache" 20 "TileScreen$Cache" "place" "I") ∈ TB := tb_in (List.mem_of_getElem? (i := 66) (by decide +kernel)) (by decide +kernel)
theorem k_67 : (Cond.fieldLinkNest "TileScreen" 164 "TileScreen$Cache" "place" "I" "TileScreen") ∈ NW := nw_in (List.mem_of_getElem? (i := 67) (by decide +kernel)) rfl
theorem k_68 : (Cond.fieldLink "TileScreen$Cache" 24 "TileScreen$Cache" "used" "I") ∈ TB := tb_in (List.mem_of_getElem? (i := 68) (by decide +kernel)) (by decide +kernel)
theorem k_69 : (Cond.fieldLinkNest "TileScreen$Feed" 97 "TileScreen$Cache" "used" "I" "TileScreen") ∈ NW := nw_in (List.mem_of_getElem? (i := 69) (by decide +kernel)) rfl
theorem k_70 : (Cond.fieldLinkNest "TileScreen$Display" 104 "TileScreen$Cache" "used" "I" "TileScreen") ∈ NW := nw_in (List.mem_of_getElem? (i := 70) (by decide +kernel)) rfl
theorem k_78 : (Cond.classLink "TileScreen$Feed" 27 "TileScreen$Line") ∈ TB := tb_in (List.mem_of_getElem? (i := 78) (by decide +kernel)) (by decide +kernel)
theorem k_79 : (Cond.instantiable "TileScreen$Line" 3) ∈ TB := tb_in (List.mem_of_getElem? (i := 79) (by decide +kernel)) (by decide +kernel)
theorem k_80 : (Cond.methodLinkNest "TileScreen$Feed" 29 ⟨"TileScreen$Line", "<init>", "()V"⟩ "TileScreen") ∈ NW := nw_in (List.mem_of_getElem? (i := 80) (by decide +kernel)) rfl
theorem k_81 : (Cond.instanceMethod ⟨"TileScreen$Line", "<init>", "()V"⟩) ∈ TB := tb_in (List.mem_of_getElem? (i := 81) (by decide +kernel)) (by decide +kernel)
theorem k_82 : (Cond.code ⟨"TileScreen$Line", "<init>", "()V"⟩ prog_5_method_1_code 1 none) ∈ TB := tb_in (List.mem_of_getElem? (i := 82) (by decide +kernel)) (by decide +kernel)
theorem k_83 : (Cond.methodLink "TileScreen$Line" 3 ⟨"java/lang/Object", "<init>", "()V"⟩) ∈ TB := tb_in (List.mem_of_getElem? (i := 83) (by decide +kernel)) (by decide +kernel)
theorem k_84 : (Cond.fieldLink "TileScreen$Line" 9 "TileScreen$Line" "bytes" "[I") ∈ TB := tb_in (List.mem_of_getElem? (i := 84) (by decide +kernel)) (by decide +kernel)
theorem k_85 : (Cond.fieldLinkNest "TileScreen$Feed" 62 "TileScreen$Line" "bytes" "[I" "TileScreen") ∈ NW := nw_in (List.mem_of_getElem? (i := 85) (by decide +kernel)) rfl
theorem k_86 : (Cond.fieldLink "TileScreen$Line" 15 "TileScreen$Line" "first" "I") ∈ TB := tb_in (List.mem_of_getElem? (i := 86) (by decide +kernel)) (by decide +kernel)
theorem k_87 : (Cond.fieldLink "TileScreen$Line" 19 "TileScreen$Line" "size" "I") ∈ TB := tb_in (List.mem_of_getElem? (i := 87) (by decide +kernel)) (by decide +kernel)
theorem k_88 : (Cond.fieldLinkNest "TileScreen$Feed" 65 "TileScreen$Line" "size" "I" "TileScreen") ∈ NW := nw_in (List.mem_of_getElem? (i := 88) (by decide +kernel)) rfl
theorem k_89 : (Cond.fieldLinkNest "TileScreen" 102 "TileScreen$Line" "size" "I" "TileScreen") ∈ NW := nw_in (List.mem_of_getElem? (i := 89) (by decide +kernel)) rfl
theorem k_97 : (Cond.classLink "TileScreen$Feed" 38 "TileScreen$Look") ∈ TB := tb_in (List.mem_of_getElem? (i := 97) (by decide +kernel)) (by decide +kernel)
theorem k_98 : (Cond.instantiable "TileScreen$Look" 3) ∈ TB := tb_in (List.mem_of_getElem? (i := 98) (by decide +kernel)) (by decide +kernel)
theorem k_99 : (Cond.methodLinkNest "TileScreen$Feed" 40 ⟨"TileScreen$Look", "<init>", "()V"⟩ "TileScreen") ∈ NW := nw_in (List.mem_of_getElem? (i := 99) (by decide +kernel)) rfl
theorem k_100 : (Cond.instanceMethod ⟨"TileScreen$Look", "<init>", "()V"⟩) ∈ TB := tb_in (List.mem_of_getElem? (i := 100) (by decide +kernel)) (by decide +kernel)
theorem k_101 : (Cond.code ⟨"TileScreen$Look", "<init>", "()V"⟩ prog_6_method_1_code 1 none) ∈ TB := tb_in (List.mem_of_getElem? (i := 101) (by decide +kernel)) (by decide +kernel)
theorem k_102 : (Cond.methodLink "TileScreen$Look" 3 ⟨"java/lang/Object", "<init>", "()V"⟩) ∈ TB := tb_in (List.mem_of_getElem? (i := 102) (by decide +kernel)) (by decide +kernel)
theorem k_103 : (Cond.fieldLink "TileScreen$Look" 9 "TileScreen$Look" "palette" "[I") ∈ TB := tb_in (List.mem_of_getElem? (i := 103) (by decide +kernel)) (by decide +kernel)
theorem k_104 : (Cond.fieldLinkNest "TileScreen$Feed" 128 "TileScreen$Look" "palette" "[I" "TileScreen") ∈ NW := nw_in (List.mem_of_getElem? (i := 104) (by decide +kernel)) rfl
theorem k_105 : (Cond.fieldLink "TileScreen$Look" 15 "TileScreen$Look" "colours" "I") ∈ TB := tb_in (List.mem_of_getElem? (i := 105) (by decide +kernel)) (by decide +kernel)
theorem k_106 : (Cond.fieldLinkNest "TileScreen$Feed" 122 "TileScreen$Look" "colours" "I" "TileScreen") ∈ NW := nw_in (List.mem_of_getElem? (i := 106) (by decide +kernel)) rfl
theorem k_107 : (Cond.fieldLink "TileScreen$Look" 19 "TileScreen$Look" "runs" "I") ∈ TB := tb_in (List.mem_of_getElem? (i := 107) (by decide +kernel)) (by decide +kernel)
theorem k_108 : (Cond.fieldLinkNest "TileScreen$Feed" 125 "TileScreen$Look" "runs" "I" "TileScreen") ∈ NW := nw_in (List.mem_of_getElem? (i := 108) (by decide +kernel)) rfl
theorem k_116 : (Cond.fieldLink "TileScreen$Feed" 14 "TileScreen$Feed" "sent" "LTileScreen$Tiles;") ∈ TB := tb_in (List.mem_of_getElem? (i := 116) (by decide +kernel)) (by decide +kernel)
theorem k_117 : (Cond.fieldLinkNest "TileScreen$Viewer" 38 "TileScreen$Feed" "sent" "LTileScreen$Tiles;" "TileScreen") ∈ NW := nw_in (List.mem_of_getElem? (i := 117) (by decide +kernel)) rfl
theorem k_118 : (Cond.fieldLinkNest "TileScreen" 153 "TileScreen$Feed" "sent" "LTileScreen$Tiles;" "TileScreen") ∈ NW := nw_in (List.mem_of_getElem? (i := 118) (by decide +kernel)) rfl
theorem k_119 : (Cond.fieldLinkNest "TileScreen$Viewer" 54 "TileScreen$Feed" "sentNumber" "I" "TileScreen") ∈ NW := nw_in (List.mem_of_getElem? (i := 119) (by decide +kernel)) rfl
theorem k_120 : (Cond.fieldLink "TileScreen$Feed" 81 "TileScreen$Feed" "sentNumber" "I") ∈ TB := tb_in (List.mem_of_getElem? (i := 120) (by decide +kernel)) (by decide +kernel)
theorem k_121 : (Cond.fieldLinkNest "TileScreen" 107 "TileScreen$Feed" "sentNumber" "I" "TileScreen") ∈ NW := nw_in (List.mem_of_getElem? (i := 121) (by decide +kernel)) rfl
theorem k_122 : (Cond.fieldLink "TileScreen$Feed" 23 "TileScreen$Feed" "cache" "LTileScreen$Cache;") ∈ TB := tb_in (List.mem_of_getElem? (i := 122) (by decide +kernel)) (by decide +kernel)
theorem k_123 : (Cond.fieldLinkNest "TileScreen$Viewer" 57 "TileScreen$Feed" "cache" "LTileScreen$Cache;" "TileScreen") ∈ NW := nw_in (List.mem_of_getElem? (i := 123) (by decide +kernel)) rfl
theorem k_124 : (Cond.fieldLinkNest "TileScreen" 160 "TileScreen$Feed" "cache" "LTileScreen$Cache;" "TileScreen") ∈ NW := nw_in (List.mem_of_getElem? (i := 124) (by decide +kernel)) rfl
theorem k_125 : (Cond.fieldLink "TileScreen$Feed" 30 "TileScreen$Feed" "line" "LTileScreen$Line;") ∈ TB := tb_in (List.mem_of_getElem? (i := 125) (by decide +kernel)) (by decide +kernel)
theorem k_126 : (Cond.fieldLinkNest "TileScreen$Viewer" 70 "TileScreen$Feed" "line" "LTileScreen$Line;" "TileScreen") ∈ NW := nw_in (List.mem_of_getElem? (i := 126) (by decide +kernel)) rfl
theorem k_127 : (Cond.fieldLinkNest "TileScreen" 96 "TileScreen$Feed" "line" "LTileScreen$Line;" "TileScreen") ∈ NW := nw_in (List.mem_of_getElem? (i := 127) (by decide +kernel)) rfl
theorem k_128 : (Cond.fieldLink "TileScreen$Feed" 34 "TileScreen$Feed" "composed" "[I") ∈ TB := tb_in (List.mem_of_getElem? (i := 128) (by decide +kernel)) (by decide +kernel)
theorem k_129 : (Cond.fieldLinkNest "TileScreen" 169 "TileScreen$Feed" "composed" "[I" "TileScreen") ∈ NW := nw_in (List.mem_of_getElem? (i := 129) (by decide +kernel)) rfl
theorem k_130 : (Cond.fieldLink "TileScreen$Feed" 41 "TileScreen$Feed" "look" "LTileScreen$Look;") ∈ TB := tb_in (List.mem_of_getElem? (i := 130) (by decide +kernel)) (by decide +kernel)
theorem k_131 : (Cond.fieldLink "TileScreen$Feed" 91 "TileScreen$Feed" "twin" "I") ∈ TB := tb_in (List.mem_of_getElem? (i := 131) (by decide +kernel)) (by decide +kernel)
theorem k_132 : (Cond.fieldLink "TileScreen$Feed" 100 "TileScreen$Feed" "entry" "I") ∈ TB := tb_in (List.mem_of_getElem? (i := 132) (by decide +kernel)) (by decide +kernel)
theorem k_150 : (Cond.classLink "TileScreen$Viewer" 16 "TileScreen$Display") ∈ TB := tb_in (List.mem_of_getElem? (i := 150) (by decide +kernel)) (by decide +kernel)
theorem k_151 : (Cond.instantiable "TileScreen$Display" 10) ∈ TB := tb_in (List.mem_of_getElem? (i := 151) (by decide +kernel)) (by decide +kernel)
theorem k_152 : (Cond.methodLinkNest "TileScreen$Viewer" 18 ⟨"TileScreen$Display", "<init>", "()V"⟩ "TileScreen") ∈ NW := nw_in (List.mem_of_getElem? (i := 152) (by decide +kernel)) rfl
theorem k_153 : (Cond.instanceMethod ⟨"TileScreen$Display", "<init>", "()V"⟩) ∈ TB := tb_in (List.mem_of_getElem? (i := 153) (by decide +kernel)) (by decide +kernel)
theorem k_154 : (Cond.code ⟨"TileScreen$Display", "<init>", "()V"⟩ prog_3_method_1_code 1 none) ∈ TB := tb_in (List.mem_of_getElem? (i := 154) (by decide +kernel)) (by decide +kernel)
theorem k_155 : (Cond.methodLink "TileScreen$Display" 3 ⟨"java/lang/Object", "<init>", "()V"⟩) ∈ TB := tb_in (List.mem_of_getElem? (i := 155) (by decide +kernel)) (by decide +kernel)
theorem k_156 : (Cond.classLink "TileScreen$Display" 9 "TileScreen$Tiles") ∈ TB := tb_in (List.mem_of_getElem? (i := 156) (by decide +kernel)) (by decide +kernel)
theorem k_157 : (Cond.methodLink "TileScreen$Display" 11 ⟨"TileScreen$Tiles", "<init>", "(I)V"⟩) ∈ TB := tb_in (List.mem_of_getElem? (i := 157) (by decide +kernel)) (by decide +kernel)
theorem k_158 : (Cond.classLink "TileScreen$Display" 23 "TileScreen$Cache") ∈ TB := tb_in (List.mem_of_getElem? (i := 158) (by decide +kernel)) (by decide +kernel)
theorem k_159 : (Cond.methodLinkNest "TileScreen$Display" 25 ⟨"TileScreen$Cache", "<init>", "()V"⟩ "TileScreen") ∈ NW := nw_in (List.mem_of_getElem? (i := 159) (by decide +kernel)) rfl
theorem k_160 : (Cond.fieldLink "TileScreen$Display" 14 "TileScreen$Display" "front" "LTileScreen$Tiles;") ∈ TB := tb_in (List.mem_of_getElem? (i := 160) (by decide +kernel)) (by decide +kernel)
theorem k_161 : (Cond.fieldLinkNest "TileScreen$Viewer" 42 "TileScreen$Display" "front" "LTileScreen$Tiles;" "TileScreen") ∈ NW := nw_in (List.mem_of_getElem? (i := 161) (by decide +kernel)) rfl
theorem k_162 : (Cond.fieldLinkNest "TileScreen" 144 "TileScreen$Display" "front" "LTileScreen$Tiles;" "TileScreen") ∈ NW := nw_in (List.mem_of_getElem? (i := 162) (by decide +kernel)) rfl
theorem k_163 : (Cond.fieldLinkNest "TileScreen$Viewer" 51 "TileScreen$Display" "frontNumber" "I" "TileScreen") ∈ NW := nw_in (List.mem_of_getElem? (i := 163) (by decide +kernel)) rfl
theorem k_164 : (Cond.fieldLink "TileScreen$Display" 73 "TileScreen$Display" "frontNumber" "I") ∈ TB := tb_in (List.mem_of_getElem? (i := 164) (by decide +kernel)) (by decide +kernel)
theorem k_165 : (Cond.fieldLinkNest "TileScreen" 141 "TileScreen$Display" "frontNumber" "I" "TileScreen") ∈ NW := nw_in (List.mem_of_getElem? (i := 165) (by decide +kernel)) rfl
theorem k_166 : (Cond.fieldLink "TileScreen$Display" 20 "TileScreen$Display" "back" "LTileScreen$Tiles;") ∈ TB := tb_in (List.mem_of_getElem? (i := 166) (by decide +kernel)) (by decide +kernel)
theorem k_167 : (Cond.fieldLink "TileScreen$Display" 26 "TileScreen$Display" "cache" "LTileScreen$Cache;") ∈ TB := tb_in (List.mem_of_getElem? (i := 167) (by decide +kernel)) (by decide +kernel)
theorem k_168 : (Cond.fieldLinkNest "TileScreen$Viewer" 66 "TileScreen$Display" "cache" "LTileScreen$Cache;" "TileScreen") ∈ NW := nw_in (List.mem_of_getElem? (i := 168) (by decide +kernel)) rfl
theorem k_169 : (Cond.fieldLink "TileScreen$Display" 30 "TileScreen$Display" "came" "[I") ∈ TB := tb_in (List.mem_of_getElem? (i := 169) (by decide +kernel)) (by decide +kernel)
theorem k_170 : (Cond.fieldLink "TileScreen$Display" 37 "TileScreen$Display" "cameSize" "I") ∈ TB := tb_in (List.mem_of_getElem? (i := 170) (by decide +kernel)) (by decide +kernel)
theorem k_171 : (Cond.fieldLinkNest "TileScreen" 147 "TileScreen$Display" "cameSize" "I" "TileScreen") ∈ NW := nw_in (List.mem_of_getElem? (i := 171) (by decide +kernel)) rfl
theorem k_172 : (Cond.fieldLink "TileScreen$Display" 34 "TileScreen$Display" "palette" "[I") ∈ TB := tb_in (List.mem_of_getElem? (i := 172) (by decide +kernel)) (by decide +kernel)
theorem k_173 : (Cond.fieldLink "TileScreen$Display" 48 "TileScreen$Display" "position" "I") ∈ TB := tb_in (List.mem_of_getElem? (i := 173) (by decide +kernel)) (by decide +kernel)
theorem k_174 : (Cond.fieldLink "TileScreen$Display" 51 "TileScreen$Display" "end" "I") ∈ TB := tb_in (List.mem_of_getElem? (i := 174) (by decide +kernel)) (by decide +kernel)
theorem k_175 : (Cond.fieldLink "TileScreen$Display" 62 "TileScreen$Display" "wrong" "Z") ∈ TB := tb_in (List.mem_of_getElem? (i := 175) (by decide +kernel)) (by decide +kernel)
theorem k_197 : (Cond.classLink "TileScreen$Viewer" 23 "TileScreen$Poisons") ∈ TB := tb_in (List.mem_of_getElem? (i := 197) (by decide +kernel)) (by decide +kernel)
theorem k_198 : (Cond.instantiable "TileScreen$Poisons" 3) ∈ TB := tb_in (List.mem_of_getElem? (i := 198) (by decide +kernel)) (by decide +kernel)
theorem k_199 : (Cond.methodLinkNest "TileScreen$Viewer" 25 ⟨"TileScreen$Poisons", "<init>", "()V"⟩ "TileScreen") ∈ NW := nw_in (List.mem_of_getElem? (i := 199) (by decide +kernel)) rfl
theorem k_200 : (Cond.instanceMethod ⟨"TileScreen$Poisons", "<init>", "()V"⟩) ∈ TB := tb_in (List.mem_of_getElem? (i := 200) (by decide +kernel)) (by decide +kernel)
theorem k_201 : (Cond.code ⟨"TileScreen$Poisons", "<init>", "()V"⟩ prog_7_method_1_code 1 none) ∈ TB := tb_in (List.mem_of_getElem? (i := 201) (by decide +kernel)) (by decide +kernel)
theorem k_202 : (Cond.methodLink "TileScreen$Poisons" 3 ⟨"java/lang/Object", "<init>", "()V"⟩) ∈ TB := tb_in (List.mem_of_getElem? (i := 202) (by decide +kernel)) (by decide +kernel)
theorem k_203 : (Cond.fieldLink "TileScreen$Poisons" 9 "TileScreen$Poisons" "ahead" "[I") ∈ TB := tb_in (List.mem_of_getElem? (i := 203) (by decide +kernel)) (by decide +kernel)
theorem k_204 : (Cond.fieldLink "TileScreen$Poisons" 15 "TileScreen$Poisons" "masks" "[I") ∈ TB := tb_in (List.mem_of_getElem? (i := 204) (by decide +kernel)) (by decide +kernel)
theorem k_205 : (Cond.fieldLink "TileScreen$Poisons" 18 "TileScreen$Poisons" "count" "I") ∈ TB := tb_in (List.mem_of_getElem? (i := 205) (by decide +kernel)) (by decide +kernel)
theorem k_213 : (Cond.fieldLink "TileScreen$Viewer" 10 "TileScreen$Viewer" "feed" "LTileScreen$Feed;") ∈ TB := tb_in (List.mem_of_getElem? (i := 213) (by decide +kernel)) (by decide +kernel)
theorem k_214 : (Cond.fieldLinkNest "TileScreen" 92 "TileScreen$Viewer" "feed" "LTileScreen$Feed;" "TileScreen") ∈ NW := nw_in (List.mem_of_getElem? (i := 214) (by decide +kernel)) rfl
theorem k_215 : (Cond.fieldLink "TileScreen$Viewer" 19 "TileScreen$Viewer" "display" "LTileScreen$Display;") ∈ TB := tb_in (List.mem_of_getElem? (i := 215) (by decide +kernel)) (by decide +kernel)
theorem k_216 : (Cond.fieldLinkNest "TileScreen" 114 "TileScreen$Viewer" "display" "LTileScreen$Display;" "TileScreen") ∈ NW := nw_in (List.mem_of_getElem? (i := 216) (by decide +kernel)) rfl
theorem k_217 : (Cond.fieldLink "TileScreen$Viewer" 26 "TileScreen$Viewer" "poisons" "LTileScreen$Poisons;") ∈ TB := tb_in (List.mem_of_getElem? (i := 217) (by decide +kernel)) (by decide +kernel)
theorem k_218 : (Cond.fieldLinkNest "TileScreen" 118 "TileScreen$Viewer" "poisons" "LTileScreen$Poisons;" "TileScreen") ∈ NW := nw_in (List.mem_of_getElem? (i := 218) (by decide +kernel)) rfl
theorem k_219 : (Cond.fieldLink "TileScreen$Viewer" 30 "TileScreen$Viewer" "connected" "Z") ∈ TB := tb_in (List.mem_of_getElem? (i := 219) (by decide +kernel)) (by decide +kernel)
theorem k_220 : (Cond.fieldLinkNest "TileScreen" 66 "TileScreen$Viewer" "connected" "Z" "TileScreen") ∈ NW := nw_in (List.mem_of_getElem? (i := 220) (by decide +kernel)) rfl
theorem k_221 : (Cond.fieldLink "TileScreen$Viewer" 67 "TileScreen$Viewer" "credit" "I") ∈ TB := tb_in (List.mem_of_getElem? (i := 221) (by decide +kernel)) (by decide +kernel)
theorem k_222 : (Cond.fieldLinkNest "TileScreen" 84 "TileScreen$Viewer" "credit" "I" "TileScreen") ∈ NW := nw_in (List.mem_of_getElem? (i := 222) (by decide +kernel)) rfl
theorem k_223 : (Cond.fieldLink "TileScreen$Viewer" 34 "TileScreen$Viewer" "epoch" "I") ∈ TB := tb_in (List.mem_of_getElem? (i := 223) (by decide +kernel)) (by decide +kernel)
theorem k_224 : (Cond.fieldLinkNest "TileScreen" 150 "TileScreen$Viewer" "epoch" "I" "TileScreen") ∈ NW := nw_in (List.mem_of_getElem? (i := 224) (by decide +kernel)) rfl
theorem k_238 : (Cond.fieldLink "TileScreen" 14 "TileScreen" "drawn" "LTileScreen$Tiles;") ∈ TB := tb_in (List.mem_of_getElem? (i := 238) (by decide +kernel)) (by decide +kernel)
theorem k_239 : (Cond.fieldLink "TileScreen" 18 "TileScreen" "closed" "LTileScreen$Tiles;") ∈ TB := tb_in (List.mem_of_getElem? (i := 239) (by decide +kernel)) (by decide +kernel)
theorem k_240 : (Cond.fieldLink "TileScreen" 21 "TileScreen" "copy" "LTileScreen$Tiles;") ∈ TB := tb_in (List.mem_of_getElem? (i := 240) (by decide +kernel)) (by decide +kernel)
theorem k_241 : (Cond.fieldLink "TileScreen" 26 "TileScreen" "viewers" "[LTileScreen$Viewer;") ∈ TB := tb_in (List.mem_of_getElem? (i := 241) (by decide +kernel)) (by decide +kernel)
theorem k_242 : (Cond.fieldLink "TileScreen" 31 "TileScreen" "number" "I") ∈ TB := tb_in (List.mem_of_getElem? (i := 242) (by decide +kernel)) (by decide +kernel)
theorem k_254 : (Cond.methodLink "TileScreenLaw" 21 ⟨"TileScreen", "fill", "(IIIII)Z"⟩) ∈ TB := tb_in (List.mem_of_getElem? (i := 254) (by decide +kernel)) (by decide +kernel)
theorem k_255 : (Cond.instanceMethod ⟨"TileScreen", "fill", "(IIIII)Z"⟩) ∈ TB := tb_in (List.mem_of_getElem? (i := 255) (by decide +kernel)) (by decide +kernel)
theorem k_256 : (Cond.selects "TileScreen" ⟨"TileScreen", "fill", "(IIIII)Z"⟩ ⟨"TileScreen", "fill", "(IIIII)Z"⟩) ∈ TB := tb_in (List.mem_of_getElem? (i := 256) (by decide +kernel)) (by decide +kernel)
theorem k_257 : (Cond.code ⟨"TileScreen", "fill", "(IIIII)Z"⟩ prog_1_method_2_code 8 (some .boolean)) ∈ TB := tb_in (List.mem_of_getElem? (i := 257) (by decide +kernel)) (by decide +kernel)
theorem k_258 : (Cond.methodLink "TileScreen" 35 ⟨"TileScreen", "isInside", "(IIII)Z"⟩) ∈ TB := tb_in (List.mem_of_getElem? (i := 258) (by decide +kernel)) (by decide +kernel)
theorem k_259 : (Cond.static ⟨"TileScreen", "isInside", "(IIII)Z"⟩) ∈ TB := tb_in (List.mem_of_getElem? (i := 259) (by decide +kernel)) (by decide +kernel)
theorem k_260 : (Cond.code ⟨"TileScreen", "isInside", "(IIII)Z"⟩ prog_1_method_18_code 4 (some .boolean)) ∈ TB := tb_in (List.mem_of_getElem? (i := 260) (by decide +kernel)) (by decide +kernel)
theorem k_261 : (Cond.methodLink "TileScreen" 39 ⟨"TileScreen", "isColour", "(I)Z"⟩) ∈ TB := tb_in (List.mem_of_getElem? (i := 261) (by decide +kernel)) (by decide +kernel)
theorem k_262 : (Cond.static ⟨"TileScreen", "isColour", "(I)Z"⟩) ∈ TB := tb_in (List.mem_of_getElem? (i := 262) (by decide +kernel)) (by decide +kernel)
theorem k_263 : (Cond.code ⟨"TileScreen", "isColour", "(I)Z"⟩ prog_1_method_17_code 1 (some .boolean)) ∈ TB := tb_in (List.mem_of_getElem? (i := 263) (by decide +kernel)) (by decide +kernel)
theorem k_264 : (Cond.constant "TileScreen" 176 65536) ∈ TB := tb_in (List.mem_of_getElem? (i := 264) (by decide +kernel)) (by decide +kernel)
theorem k_265 : (Cond.methodLink "TileScreen" 43 ⟨"TileScreen", "tileOf", "(II)I"⟩) ∈ TB := tb_in (List.mem_of_getElem? (i := 265) (by decide +kernel)) (by decide +kernel)
theorem k_266 : (Cond.static ⟨"TileScreen", "tileOf", "(II)I"⟩) ∈ TB := tb_in (List.mem_of_getElem? (i := 266) (by decide +kernel)) (by decide +kernel)
theorem k_267 : (Cond.code ⟨"TileScreen", "tileOf", "(II)I"⟩ prog_1_method_19_code 2 (some .int)) ∈ TB := tb_in (List.mem_of_getElem? (i := 267) (by decide +kernel)) (by decide +kernel)
theorem k_268 : (Cond.methodLink "TileScreen" 47 ⟨"TileScreen", "pixelOf", "(II)I"⟩) ∈ TB := tb_in (List.mem_of_getElem? (i := 268) (by decide +kernel)) (by decide +kernel)
theorem k_269 : (Cond.static ⟨"TileScreen", "pixelOf", "(II)I"⟩) ∈ TB := tb_in (List.mem_of_getElem? (i := 269) (by decide +kernel)) (by decide +kernel)
theorem k_270 : (Cond.code ⟨"TileScreen", "pixelOf", "(II)I"⟩ prog_1_method_20_code 2 (some .int)) ∈ TB := tb_in (List.mem_of_getElem? (i := 270) (by decide +kernel)) (by decide +kernel)
theorem k_271 : (Cond.methodLink "TileScreen" 50 ⟨"TileScreen$Tiles", "set", "(III)V"⟩) ∈ TB := tb_in (List.mem_of_getElem? (i := 271) (by decide +kernel)) (by decide +kernel)
theorem k_272 : (Cond.instanceMethod ⟨"TileScreen$Tiles", "set", "(III)V"⟩) ∈ TB := tb_in (List.mem_of_getElem? (i := 272) (by decide +kernel)) (by decide +kernel)
theorem k_273 : (Cond.selects "TileScreen$Tiles" ⟨"TileScreen$Tiles", "set", "(III)V"⟩ ⟨"TileScreen$Tiles", "set", "(III)V"⟩) ∈ TB := tb_in (List.mem_of_getElem? (i := 273) (by decide +kernel)) (by decide +kernel)
theorem k_274 : (Cond.code ⟨"TileScreen$Tiles", "set", "(III)V"⟩ prog_8_method_3_code 4 none) ∈ TB := tb_in (List.mem_of_getElem? (i := 274) (by decide +kernel)) (by decide +kernel)
theorem k_275 : (Cond.methodLink "TileScreenLaw" 26 ⟨"TileScreen", "blit", "(IIII)Z"⟩) ∈ TB := tb_in (List.mem_of_getElem? (i := 275) (by decide +kernel)) (by decide +kernel)
theorem k_276 : (Cond.instanceMethod ⟨"TileScreen", "blit", "(IIII)Z"⟩) ∈ TB := tb_in (List.mem_of_getElem? (i := 276) (by decide +kernel)) (by decide +kernel)
theorem k_277 : (Cond.selects "TileScreen" ⟨"TileScreen", "blit", "(IIII)Z"⟩ ⟨"TileScreen", "blit", "(IIII)Z"⟩) ∈ TB := tb_in (List.mem_of_getElem? (i := 277) (by decide +kernel)) (by decide +kernel)
theorem k_278 : (Cond.code ⟨"TileScreen", "blit", "(IIII)Z"⟩ prog_1_method_3_code 12 (some .boolean)) ∈ TB := tb_in (List.mem_of_getElem? (i := 278) (by decide +kernel)) (by decide +kernel)
theorem k_279 : (Cond.methodLink "TileScreen" 54 ⟨"TileScreen$Tiles", "takeAll", "(LTileScreen$Tiles;)V"⟩) ∈ TB := tb_in (List.mem_of_getElem? (i := 279) (by decide +kernel)) (by decide +kernel)
theorem k_280 : (Cond.instanceMethod ⟨"TileScreen$Tiles", "takeAll", "(LTileScreen$Tiles;)V"⟩) ∈ TB := tb_in (List.mem_of_getElem? (i := 280) (by decide +kernel)) (by decide +kernel)
theorem k_281 : (Cond.selects "TileScreen$Tiles" ⟨"TileScreen$Tiles", "takeAll", "(LTileScreen$Tiles;)V"⟩ ⟨"TileScreen$Tiles", "takeAll", "(LTileScreen$Tiles;)V"⟩) ∈ TB := tb_in (List.mem_of_getElem? (i := 281) (by decide +kernel)) (by decide +kernel)
theorem k_282 : (Cond.code ⟨"TileScreen$Tiles", "takeAll", "(LTileScreen$Tiles;)V"⟩ prog_8_method_5_code 2 none) ∈ TB := tb_in (List.mem_of_getElem? (i := 282) (by decide +kernel)) (by decide +kernel)
theorem k_283 : (Cond.methodLink "TileScreen$Tiles" 19 ⟨"java/lang/System", "arraycopy", "(Ljava/lang/Object;ILjava/lang/Object;II)V"⟩) ∈ TB := tb_in (List.mem_of_getElem? (i := 283) (by decide +kernel)) (by decide +kernel)
theorem k_284 : (Cond.static ⟨"java/lang/System", "arraycopy", "(Ljava/lang/Object;ILjava/lang/Object;II)V"⟩) ∈ TB := tb_in (List.mem_of_getElem? (i := 284) (by decide +kernel)) (by decide +kernel)
theorem k_285 : (Cond.native ⟨"java/lang/System", "arraycopy", "(Ljava/lang/Object;ILjava/lang/Object;II)V"⟩) ∈ TB := tb_in (List.mem_of_getElem? (i := 285) (by decide +kernel)) (by decide +kernel)
theorem k_286 : (Cond.methodLink "TileScreen" 58 ⟨"TileScreen", "pixelAt", "(LTileScreen$Tiles;II)I"⟩) ∈ TB := tb_in (List.mem_of_getElem? (i := 286) (by decide +kernel)) (by decide +kernel)
theorem k_287 : (Cond.static ⟨"TileScreen", "pixelAt", "(LTileScreen$Tiles;II)I"⟩) ∈ TB := tb_in (List.mem_of_getElem? (i := 287) (by decide +kernel)) (by decide +kernel)
theorem k_288 : (Cond.code ⟨"TileScreen", "pixelAt", "(LTileScreen$Tiles;II)I"⟩ prog_1_method_21_code 3 (some .int)) ∈ TB := tb_in (List.mem_of_getElem? (i := 288) (by decide +kernel)) (by decide +kernel)
theorem k_289 : (Cond.methodLink "TileScreen" 177 ⟨"TileScreen$Tiles", "get", "(II)I"⟩) ∈ TB := tb_in (List.mem_of_getElem? (i := 289) (by decide +kernel)) (by decide +kernel)
theorem k_290 : (Cond.instanceMethod ⟨"TileScreen$Tiles", "get", "(II)I"⟩) ∈ TB := tb_in (List.mem_of_getElem? (i := 290) (by decide +kernel)) (by decide +kernel)
theorem k_291 : (Cond.selects "TileScreen$Tiles" ⟨"TileScreen$Tiles", "get", "(II)I"⟩ ⟨"TileScreen$Tiles", "get", "(II)I"⟩) ∈ TB := tb_in (List.mem_of_getElem? (i := 291) (by decide +kernel)) (by decide +kernel)
theorem k_292 : (Cond.code ⟨"TileScreen$Tiles", "get", "(II)I"⟩ prog_8_method_2_code 3 (some .int)) ∈ TB := tb_in (List.mem_of_getElem? (i := 292) (by decide +kernel)) (by decide +kernel)
theorem k_293 : (Cond.methodLink "TileScreenLaw" 31 ⟨"TileScreen", "shade", "(IIII)Z"⟩) ∈ TB := tb_in (List.mem_of_getElem? (i := 293) (by decide +kernel)) (by decide +kernel)
theorem k_294 : (Cond.instanceMethod ⟨"TileScreen", "shade", "(IIII)Z"⟩) ∈ TB := tb_in (List.mem_of_getElem? (i := 294) (by decide +kernel)) (by decide +kernel)
theorem k_295 : (Cond.selects "TileScreen" ⟨"TileScreen", "shade", "(IIII)Z"⟩ ⟨"TileScreen", "shade", "(IIII)Z"⟩) ∈ TB := tb_in (List.mem_of_getElem? (i := 295) (by decide +kernel)) (by decide +kernel)
theorem k_296 : (Cond.code ⟨"TileScreen", "shade", "(IIII)Z"⟩ prog_1_method_4_code 6 (some .boolean)) ∈ TB := tb_in (List.mem_of_getElem? (i := 296) (by decide +kernel)) (by decide +kernel)
theorem k_297 : (Cond.constant "TileScreen" 62 65535) ∈ TB := tb_in (List.mem_of_getElem? (i := 297) (by decide +kernel)) (by decide +kernel)
theorem k_298 : (Cond.methodLink "TileScreenLaw" 35 ⟨"TileScreen", "frame", "()I"⟩) ∈ TB := tb_in (List.mem_of_getElem? (i := 298) (by decide +kernel)) (by decide +kernel)
theorem k_299 : (Cond.instanceMethod ⟨"TileScreen", "frame", "()I"⟩) ∈ TB := tb_in (List.mem_of_getElem? (i := 299) (by decide +kernel)) (by decide +kernel)
theorem k_300 : (Cond.selects "TileScreen" ⟨"TileScreen", "frame", "()I"⟩ ⟨"TileScreen", "frame", "()I"⟩) ∈ TB := tb_in (List.mem_of_getElem? (i := 300) (by decide +kernel)) (by decide +kernel)
theorem k_301 : (Cond.code ⟨"TileScreen", "frame", "()I"⟩ prog_1_method_5_code 1 (some .int)) ∈ TB := tb_in (List.mem_of_getElem? (i := 301) (by decide +kernel)) (by decide +kernel)
theorem k_302 : (Cond.methodLink "TileScreenLaw" 40 ⟨"TileScreen", "join", "(I)Z"⟩) ∈ TB := tb_in (List.mem_of_getElem? (i := 302) (by decide +kernel)) (by decide +kernel)
theorem k_303 : (Cond.instanceMethod ⟨"TileScreen", "join", "(I)Z"⟩) ∈ TB := tb_in (List.mem_of_getElem? (i := 303) (by decide +kernel)) (by decide +kernel)
theorem k_304 : (Cond.selects "TileScreen" ⟨"TileScreen", "join", "(I)Z"⟩ ⟨"TileScreen", "join", "(I)Z"⟩) ∈ TB := tb_in (List.mem_of_getElem? (i := 304) (by decide +kernel)) (by decide +kernel)
theorem k_305 : (Cond.code ⟨"TileScreen", "join", "(I)Z"⟩ prog_1_method_6_code 2 (some .boolean)) ∈ TB := tb_in (List.mem_of_getElem? (i := 305) (by decide +kernel)) (by decide +kernel)
theorem k_306 : (Cond.methodLink "TileScreen" 63 ⟨"TileScreen", "isViewer", "(I)Z"⟩) ∈ TB := tb_in (List.mem_of_getElem? (i := 306) (by decide +kernel)) (by decide +kernel)
theorem k_307 : (Cond.static ⟨"TileScreen", "isViewer", "(I)Z"⟩) ∈ TB := tb_in (List.mem_of_getElem? (i := 307) (by decide +kernel)) (by decide +kernel)
theorem k_308 : (Cond.code ⟨"TileScreen", "isViewer", "(I)Z"⟩ prog_1_method_16_code 1 (some .boolean)) ∈ TB := tb_in (List.mem_of_getElem? (i := 308) (by decide +kernel)) (by decide +kernel)
theorem k_309 : (Cond.methodLink "TileScreen" 70 ⟨"TileScreen$Viewer", "connect", "()V"⟩) ∈ TB := tb_in (List.mem_of_getElem? (i := 309) (by decide +kernel)) (by decide +kernel)
theorem k_310 : (Cond.instanceMethod ⟨"TileScreen$Viewer", "connect", "()V"⟩) ∈ TB := tb_in (List.mem_of_getElem? (i := 310) (by decide +kernel)) (by decide +kernel)
theorem k_311 : (Cond.selects "TileScreen$Viewer" ⟨"TileScreen$Viewer", "connect", "()V"⟩ ⟨"TileScreen$Viewer", "connect", "()V"⟩) ∈ TB := tb_in (List.mem_of_getElem? (i := 311) (by decide +kernel)) (by decide +kernel)
theorem k_312 : (Cond.code ⟨"TileScreen$Viewer", "connect", "()V"⟩ prog_9_method_2_code 1 none) ∈ TB := tb_in (List.mem_of_getElem? (i := 312) (by decide +kernel)) (by decide +kernel)
theorem k_313 : (Cond.methodLink "TileScreen$Viewer" 45 ⟨"TileScreen$Tiles", "takeAll", "(LTileScreen$Tiles;)V"⟩) ∈ TB := tb_in (List.mem_of_getElem? (i := 313) (by decide +kernel)) (by decide +kernel)
theorem k_314 : (Cond.methodLink "TileScreen$Viewer" 61 ⟨"TileScreen$Cache", "clear", "()V"⟩) ∈ TB := tb_in (List.mem_of_getElem? (i := 314) (by decide +kernel)) (by decide +kernel)
theorem k_315 : (Cond.instanceMethod ⟨"TileScreen$Cache", "clear", "()V"⟩) ∈ TB := tb_in (List.mem_of_getElem? (i := 315) (by decide +kernel)) (by decide +kernel)
theorem k_316 : (Cond.selects "TileScreen$Cache" ⟨"TileScreen$Cache", "clear", "()V"⟩ ⟨"TileScreen$Cache", "clear", "()V"⟩) ∈ TB := tb_in (List.mem_of_getElem? (i := 316) (by decide +kernel)) (by decide +kernel)
theorem k_317 : (Cond.code ⟨"TileScreen$Cache", "clear", "()V"⟩ prog_2_method_2_code 1 none) ∈ TB := tb_in (List.mem_of_getElem? (i := 317) (by decide +kernel)) (by decide +kernel)
theorem k_318 : (Cond.methodLink "TileScreenLaw" 45 ⟨"TileScreen", "cut", "(I)Z"⟩) ∈ TB := tb_in (List.mem_of_getElem? (i := 318) (by decide +kernel)) (by decide +kernel)
theorem k_319 : (Cond.instanceMethod ⟨"TileScreen", "cut", "(I)Z"⟩) ∈ TB := tb_in (List.mem_of_getElem? (i := 319) (by decide +kernel)) (by decide +kernel)
theorem k_320 : (Cond.selects "TileScreen" ⟨"TileScreen", "cut", "(I)Z"⟩ ⟨"TileScreen", "cut", "(I)Z"⟩) ∈ TB := tb_in (List.mem_of_getElem? (i := 320) (by decide +kernel)) (by decide +kernel)
theorem k_321 : (Cond.code ⟨"TileScreen", "cut", "(I)Z"⟩ prog_1_method_7_code 2 (some .boolean)) ∈ TB := tb_in (List.mem_of_getElem? (i := 321) (by decide +kernel)) (by decide +kernel)
theorem k_322 : (Cond.methodLink "TileScreen" 73 ⟨"TileScreen$Viewer", "disconnect", "()V"⟩) ∈ TB := tb_in (List.mem_of_getElem? (i := 322) (by decide +kernel)) (by decide +kernel)
theorem k_323 : (Cond.instanceMethod ⟨"TileScreen$Viewer", "disconnect", "()V"⟩) ∈ TB := tb_in (List.mem_of_getElem? (i := 323) (by decide +kernel)) (by decide +kernel)
theorem k_324 : (Cond.selects "TileScreen$Viewer" ⟨"TileScreen$Viewer", "disconnect", "()V"⟩ ⟨"TileScreen$Viewer", "disconnect", "()V"⟩) ∈ TB := tb_in (List.mem_of_getElem? (i := 324) (by decide +kernel)) (by decide +kernel)
theorem k_325 : (Cond.code ⟨"TileScreen$Viewer", "disconnect", "()V"⟩ prog_9_method_3_code 1 none) ∈ TB := tb_in (List.mem_of_getElem? (i := 325) (by decide +kernel)) (by decide +kernel)
theorem k_326 : (Cond.methodLink "TileScreen$Viewer" 74 ⟨"TileScreen$Line", "clear", "()V"⟩) ∈ TB := tb_in (List.mem_of_getElem? (i := 326) (by decide +kernel)) (by decide +kernel)
theorem k_327 : (Cond.instanceMethod ⟨"TileScreen$Line", "clear", "()V"⟩) ∈ TB := tb_in (List.mem_of_getElem? (i := 327) (by decide +kernel)) (by decide +kernel)
theorem k_328 : (Cond.selects "TileScreen$Line" ⟨"TileScreen$Line", "clear", "()V"⟩ ⟨"TileScreen$Line", "clear", "()V"⟩) ∈ TB := tb_in (List.mem_of_getElem? (i := 328) (by decide +kernel)) (by decide +kernel)
theorem k_329 : (Cond.code ⟨"TileScreen$Line", "clear", "()V"⟩ prog_5_method_2_code 1 none) ∈ TB := tb_in (List.mem_of_getElem? (i := 329) (by decide +kernel)) (by decide +kernel)
theorem k_330 : (Cond.methodLink "TileScreen$Viewer" 77 ⟨"TileScreen$Display", "forget", "()V"⟩) ∈ TB := tb_in (List.mem_of_getElem? (i := 330) (by decide +kernel)) (by decide +kernel)
theorem k_331 : (Cond.instanceMethod ⟨"TileScreen$Display", "forget", "()V"⟩) ∈ TB := tb_in (List.mem_of_getElem? (i := 331) (by decide +kernel)) (by decide +kernel)
theorem k_332 : (Cond.selects "TileScreen$Display" ⟨"TileScreen$Display", "forget", "()V"⟩ ⟨"TileScreen$Display", "forget", "()V"⟩) ∈ TB := tb_in (List.mem_of_getElem? (i := 332) (by decide +kernel)) (by decide +kernel)
theorem k_333 : (Cond.code ⟨"TileScreen$Display", "forget", "()V"⟩ prog_3_method_2_code 1 none) ∈ TB := tb_in (List.mem_of_getElem? (i := 333) (by decide +kernel)) (by decide +kernel)
theorem k_334 : (Cond.methodLink "TileScreen$Display" 41 ⟨"TileScreen$Cache", "clear", "()V"⟩) ∈ TB := tb_in (List.mem_of_getElem? (i := 334) (by decide +kernel)) (by decide +kernel)
theorem k_335 : (Cond.methodLink "TileScreenLaw" 58 ⟨"TileScreen", "pump", "(I)I"⟩) ∈ TB := tb_in (List.mem_of_getElem? (i := 335) (by decide +kernel)) (by decide +kernel)
theorem k_336 : (Cond.instanceMethod ⟨"TileScreen", "pump", "(I)I"⟩) ∈ TB := tb_in (List.mem_of_getElem? (i := 336) (by decide +kernel)) (by decide +kernel)
theorem k_337 : (Cond.selects "TileScreen" ⟨"TileScreen", "pump", "(I)I"⟩ ⟨"TileScreen", "pump", "(I)I"⟩) ∈ TB := tb_in (List.mem_of_getElem? (i := 337) (by decide +kernel)) (by decide +kernel)
theorem k_338 : (Cond.code ⟨"TileScreen", "pump", "(I)I"⟩ prog_1_method_9_code 6 (some .int)) ∈ TB := tb_in (List.mem_of_getElem? (i := 338) (by decide +kernel)) (by decide +kernel)
theorem k_339 : (Cond.methodLink "TileScreen" 110 ⟨"TileScreen$Feed", "compose", "(LTileScreen$Tiles;I)V"⟩) ∈ TB := tb_in (List.mem_of_getElem? (i := 339) (by decide +kernel)) (by decide +kernel)
theorem k_340 : (Cond.instanceMethod ⟨"TileScreen$Feed", "compose", "(LTileScreen$Tiles;I)V"⟩) ∈ TB := tb_in (List.mem_of_getElem? (i := 340) (by decide +kernel)) (by decide +kernel)
theorem k_341 : (Cond.selects "TileScreen$Feed" ⟨"TileScreen$Feed", "compose", "(LTileScreen$Tiles;I)V"⟩ ⟨"TileScreen$Feed", "compose", "(LTileScreen$Tiles;I)V"⟩) ∈ TB := tb_in (List.mem_of_getElem? (i := 341) (by decide +kernel)) (by decide +kernel)
theorem k_342 : (Cond.code ⟨"TileScreen$Feed", "compose", "(LTileScreen$Tiles;I)V"⟩ prog_4_method_2_code 4 none) ∈ TB := tb_in (List.mem_of_getElem? (i := 342) (by decide +kernel)) (by decide +kernel)
theorem k_343 : (Cond.methodLink "TileScreen$Feed" 45 ⟨"TileScreen$Line", "clear", "()V"⟩) ∈ TB := tb_in (List.mem_of_getElem? (i := 343) (by decide +kernel)) (by decide +kernel)
theorem k_344 : (Cond.methodLink "TileScreen$Feed" 48 ⟨"TileScreen$Line", "add", "(I)V"⟩) ∈ TB := tb_in (List.mem_of_getElem? (i := 344) (by decide +kernel)) (by decide +kernel)
theorem k_345 : (Cond.instanceMethod ⟨"TileScreen$Line", "add", "(I)V"⟩) ∈ TB := tb_in (List.mem_of_getElem? (i := 345) (by decide +kernel)) (by decide +kernel)
theorem k_346 : (Cond.selects "TileScreen$Line" ⟨"TileScreen$Line", "add", "(I)V"⟩ ⟨"TileScreen$Line", "add", "(I)V"⟩) ∈ TB := tb_in (List.mem_of_getElem? (i := 346) (by decide +kernel)) (by decide +kernel)
theorem k_347 : (Cond.code ⟨"TileScreen$Line", "add", "(I)V"⟩ prog_5_method_3_code 2 none) ∈ TB := tb_in (List.mem_of_getElem? (i := 347) (by decide +kernel)) (by decide +kernel)
theorem k_348 : (Cond.methodLink "TileScreen$Feed" 51 ⟨"TileScreen$Line", "addPair", "(I)V"⟩) ∈ TB := tb_in (List.mem_of_getElem? (i := 348) (by decide +kernel)) (by decide +kernel)
theorem k_349 : (Cond.instanceMethod ⟨"TileScreen$Line", "addPair", "(I)V"⟩) ∈ TB := tb_in (List.mem_of_getElem? (i := 349) (by decide +kernel)) (by decide +kernel)
theorem k_350 : (Cond.selects "TileScreen$Line" ⟨"TileScreen$Line", "addPair", "(I)V"⟩ ⟨"TileScreen$Line", "addPair", "(I)V"⟩) ∈ TB := tb_in (List.mem_of_getElem? (i := 350) (by decide +kernel)) (by decide +kernel)
theorem k_351 : (Cond.code ⟨"TileScreen$Line", "addPair", "(I)V"⟩ prog_5_method_4_code 2 none) ∈ TB := tb_in (List.mem_of_getElem? (i := 351) (by decide +kernel)) (by decide +kernel)
theorem k_352 : (Cond.methodLink "TileScreen$Line" 22 ⟨"TileScreen$Line", "add", "(I)V"⟩) ∈ TB := tb_in (List.mem_of_getElem? (i := 352) (by decide +kernel)) (by decide +kernel)
theorem k_353 : (Cond.methodLink "TileScreen$Feed" 54 ⟨"TileScreen$Tiles", "isSame", "(ILTileScreen$Tiles;I)Z"⟩) ∈ TB := tb_in (List.mem_of_getElem? (i := 353) (by decide +kernel)) (by decide +kernel)
theorem k_354 : (Cond.instanceMethod ⟨"TileScreen$Tiles", "isSame", "(ILTileScreen$Tiles;I)Z"⟩) ∈ TB := tb_in (List.mem_of_getElem? (i := 354) (by decide +kernel)) (by decide +kernel)
theorem k_355 : (Cond.selects "TileScreen$Tiles" ⟨"TileScreen$Tiles", "isSame", "(ILTileScreen$Tiles;I)Z"⟩ ⟨"TileScreen$Tiles", "isSame", "(ILTileScreen$Tiles;I)Z"⟩) ∈ TB := tb_in (List.mem_of_getElem? (i := 355) (by decide +kernel)) (by decide +kernel)
theorem k_356 : (Cond.code ⟨"TileScreen$Tiles", "isSame", "(ILTileScreen$Tiles;I)Z"⟩ prog_8_method_6_code 7 (some .boolean)) ∈ TB := tb_in (List.mem_of_getElem? (i := 356) (by decide +kernel)) (by decide +kernel)
theorem k_357 : (Cond.methodLink "TileScreen$Feed" 58 ⟨"TileScreen$Feed", "addRecord", "(LTileScreen$Tiles;I)V"⟩) ∈ TB := tb_in (List.mem_of_getElem? (i := 357) (by decide +kernel)) (by decide +kernel)
theorem k_359 : (Cond.instanceMethod ⟨"TileScreen$Feed", "addRecord", "(LTileScreen$Tiles;I)V"⟩) ∈ TB := tb_in (List.mem_of_getElem? (i := 359) (by decide +kernel)) (by decide +kernel)
theorem k_360 : (Cond.code ⟨"TileScreen$Feed", "addRecord", "(LTileScreen$Tiles;I)V"⟩ prog_4_method_3_code 5 none) ∈ TB := tb_in (List.mem_of_getElem? (i := 360) (by decide +kernel)) (by decide +kernel)
theorem k_361 : (Cond.methodLink "TileScreen$Feed" 84 ⟨"TileScreen$Look", "study", "(LTileScreen$Tiles;I)V"⟩) ∈ TB := tb_in (List.mem_of_getElem? (i := 361) (by decide +kernel)) (by decide +kernel)
theorem k_362 : (Cond.instanceMethod ⟨"TileScreen$Look", "study", "(LTileScreen$Tiles;I)V"⟩) ∈ TB := tb_in (List.mem_of_getElem? (i := 362) (by decide +kernel)) (by decide +kernel)
theorem k_363 : (Cond.selects "TileScreen$Look" ⟨"TileScreen$Look", "study", "(LTileScreen$Tiles;I)V"⟩ ⟨"TileScreen$Look", "study", "(LTileScreen$Tiles;I)V"⟩) ∈ TB := tb_in (List.mem_of_getElem? (i := 363) (by decide +kernel)) (by decide +kernel)
theorem k_364 : (Cond.code ⟨"TileScreen$Look", "study", "(LTileScreen$Tiles;I)V"⟩ prog_6_method_2_code 6 none) ∈ TB := tb_in (List.mem_of_getElem? (i := 364) (by decide +kernel)) (by decide +kernel)
theorem k_365 : (Cond.methodLink "TileScreen$Look" 22 ⟨"TileScreen$Tiles", "get", "(II)I"⟩) ∈ TB := tb_in (List.mem_of_getElem? (i := 365) (by decide +kernel)) (by decide +kernel)
theorem k_366 : (Cond.methodLink "TileScreen$Look" 28 ⟨"TileScreen$Look", "meet", "(I)V"⟩) ∈ TB := tb_in (List.mem_of_getElem? (i := 366) (by decide +kernel)) (by decide +kernel)
theorem k_368 : (Cond.instanceMethod ⟨"TileScreen$Look", "meet", "(I)V"⟩) ∈ TB := tb_in (List.mem_of_getElem? (i := 368) (by decide +kernel)) (by decide +kernel)
theorem k_369 : (Cond.code ⟨"TileScreen$Look", "meet", "(I)V"⟩ prog_6_method_3_code 2 none) ∈ TB := tb_in (List.mem_of_getElem? (i := 369) (by decide +kernel)) (by decide +kernel)
theorem k_370 : (Cond.methodLink "TileScreen$Look" 32 ⟨"TileScreen$Look", "indexOf", "(I)I"⟩) ∈ TB := tb_in (List.mem_of_getElem? (i := 370) (by decide +kernel)) (by decide +kernel)
theorem k_371 : (Cond.instanceMethod ⟨"TileScreen$Look", "indexOf", "(I)I"⟩) ∈ TB := tb_in (List.mem_of_getElem? (i := 371) (by decide +kernel)) (by decide +kernel)
theorem k_372 : (Cond.selects "TileScreen$Look" ⟨"TileScreen$Look", "indexOf", "(I)I"⟩ ⟨"TileScreen$Look", "indexOf", "(I)I"⟩) ∈ TB := tb_in (List.mem_of_getElem? (i := 372) (by decide +kernel)) (by decide +kernel)
theorem k_373 : (Cond.code ⟨"TileScreen$Look", "indexOf", "(I)I"⟩ prog_6_method_4_code 3 (some .int)) ∈ TB := tb_in (List.mem_of_getElem? (i := 373) (by decide +kernel)) (by decide +kernel)
theorem k_374 : (Cond.methodLink "TileScreen$Feed" 87 ⟨"TileScreen$Tiles", "find", "(ILTileScreen$Tiles;I)I"⟩) ∈ TB := tb_in (List.mem_of_getElem? (i := 374) (by decide +kernel)) (by decide +kernel)
theorem k_375 : (Cond.instanceMethod ⟨"TileScreen$Tiles", "find", "(ILTileScreen$Tiles;I)I"⟩) ∈ TB := tb_in (List.mem_of_getElem? (i := 375) (by decide +kernel)) (by decide +kernel)
theorem k_376 : (Cond.selects "TileScreen$Tiles" ⟨"TileScreen$Tiles", "find", "(ILTileScreen$Tiles;I)I"⟩ ⟨"TileScreen$Tiles", "find", "(ILTileScreen$Tiles;I)I"⟩) ∈ TB := tb_in (List.mem_of_getElem? (i := 376) (by decide +kernel)) (by decide +kernel)
theorem k_377 : (Cond.code ⟨"TileScreen$Tiles", "find", "(ILTileScreen$Tiles;I)I"⟩ prog_8_method_7_code 5 (some .int)) ∈ TB := tb_in (List.mem_of_getElem? (i := 377) (by decide +kernel)) (by decide +kernel)
theorem k_378 : (Cond.methodLink "TileScreen$Tiles" 25 ⟨"TileScreen$Tiles", "isSame", "(ILTileScreen$Tiles;I)Z"⟩) ∈ TB := tb_in (List.mem_of_getElem? (i := 378) (by decide +kernel)) (by decide +kernel)
theorem k_379 : (Cond.methodLink "TileScreen$Feed" 103 ⟨"TileScreen$Feed", "chooseKind", "()I"⟩) ∈ TB := tb_in (List.mem_of_getElem? (i := 379) (by decide +kernel)) (by decide +kernel)
theorem k_381 : (Cond.instanceMethod ⟨"TileScreen$Feed", "chooseKind", "()I"⟩) ∈ TB := tb_in (List.mem_of_getElem? (i := 381) (by decide +kernel)) (by decide +kernel)
theorem k_382 : (Cond.code ⟨"TileScreen$Feed", "chooseKind", "()I"⟩ prog_4_method_4_code 3 (some .int)) ∈ TB := tb_in (List.mem_of_getElem? (i := 382) (by decide +kernel)) (by decide +kernel)
theorem k_383 : (Cond.methodLink "TileScreen$Feed" 114 ⟨"TileScreen$Feed", "isFit", "(I)Z"⟩) ∈ TB := tb_in (List.mem_of_getElem? (i := 383) (by decide +kernel)) (by decide +kernel)
theorem k_385 : (Cond.instanceMethod ⟨"TileScreen$Feed", "isFit", "(I)Z"⟩) ∈ TB := tb_in (List.mem_of_getElem? (i := 385) (by decide +kernel)) (by decide +kernel)
theorem k_386 : (Cond.code ⟨"TileScreen$Feed", "isFit", "(I)Z"⟩ prog_4_method_5_code 2 (some .boolean)) ∈ TB := tb_in (List.mem_of_getElem? (i := 386) (by decide +kernel)) (by decide +kernel)
theorem k_387 : (Cond.methodLink "TileScreen$Feed" 118 ⟨"TileScreen$Feed", "lengthOf", "(I)I"⟩) ∈ TB := tb_in (List.mem_of_getElem? (i := 387) (by decide +kernel)) (by decide +kernel)
theorem k_389 : (Cond.instanceMethod ⟨"TileScreen$Feed", "lengthOf", "(I)I"⟩) ∈ TB := tb_in (List.mem_of_getElem? (i := 389) (by decide +kernel)) (by decide +kernel)
theorem k_390 : (Cond.code ⟨"TileScreen$Feed", "lengthOf", "(I)I"⟩ prog_4_method_6_code 2 (some .int)) ∈ TB := tb_in (List.mem_of_getElem? (i := 390) (by decide +kernel)) (by decide +kernel)
theorem k_391 : (Cond.methodLink "TileScreen$Feed" 107 ⟨"TileScreen$Feed", "addContent", "(ILTileScreen$Tiles;I)V"⟩) ∈ TB := tb_in (List.mem_of_getElem? (i := 391) (by decide +kernel)) (by decide +kernel)
theorem k_393 : (Cond.instanceMethod ⟨"TileScreen$Feed", "addContent", "(ILTileScreen$Tiles;I)V"⟩) ∈ TB := tb_in (List.mem_of_getElem? (i := 393) (by decide +kernel)) (by decide +kernel)
theorem k_394 : (Cond.code ⟨"TileScreen$Feed", "addContent", "(ILTileScreen$Tiles;I)V"⟩ prog_4_method_7_code 4 none) ∈ TB := tb_in (List.mem_of_getElem? (i := 394) (by decide +kernel)) (by decide +kernel)
theorem k_395 : (Cond.methodLink "TileScreen$Feed" 131 ⟨"TileScreen$Feed", "addPalette", "()V"⟩) ∈ TB := tb_in (List.mem_of_getElem? (i := 395) (by decide +kernel)) (by decide +kernel)
theorem k_397 : (Cond.instanceMethod ⟨"TileScreen$Feed", "addPalette", "()V"⟩) ∈ TB := tb_in (List.mem_of_getElem? (i := 397) (by decide +kernel)) (by decide +kernel)
theorem k_398 : (Cond.code ⟨"TileScreen$Feed", "addPalette", "()V"⟩ prog_4_method_8_code 2 none) ∈ TB := tb_in (List.mem_of_getElem? (i := 398) (by decide +kernel)) (by decide +kernel)
theorem k_399 : (Cond.methodLink "TileScreen$Feed" 134 ⟨"TileScreen$Feed", "addBits", "(LTileScreen$Tiles;II)V"⟩) ∈ TB := tb_in (List.mem_of_getElem? (i := 399) (by decide +kernel)) (by decide +kernel)
theorem k_401 : (Cond.instanceMethod ⟨"TileScreen$Feed", "addBits", "(LTileScreen$Tiles;II)V"⟩) ∈ TB := tb_in (List.mem_of_getElem? (i := 401) (by decide +kernel)) (by decide +kernel)
theorem k_402 : (Cond.code ⟨"TileScreen$Feed", "addBits", "(LTileScreen$Tiles;II)V"⟩ prog_4_method_9_code 7 none) ∈ TB := tb_in (List.mem_of_getElem? (i := 402) (by decide +kernel)) (by decide +kernel)
theorem k_403 : (Cond.methodLink "TileScreen$Feed" 144 ⟨"TileScreen$Tiles", "get", "(II)I"⟩) ∈ TB := tb_in (List.mem_of_getElem? (i := 403) (by decide +kernel)) (by decide +kernel)
theorem k_404 : (Cond.methodLink "TileScreen$Feed" 148 ⟨"TileScreen$Look", "indexOf", "(I)I"⟩) ∈ TB := tb_in (List.mem_of_getElem? (i := 404) (by decide +kernel)) (by decide +kernel)
theorem k_405 : (Cond.methodLink "TileScreen$Feed" 138 ⟨"TileScreen$Feed", "addRuns", "(LTileScreen$Tiles;I)V"⟩) ∈ TB := tb_in (List.mem_of_getElem? (i := 405) (by decide +kernel)) (by decide +kernel)
theorem k_407 : (Cond.instanceMethod ⟨"TileScreen$Feed", "addRuns", "(LTileScreen$Tiles;I)V"⟩) ∈ TB := tb_in (List.mem_of_getElem? (i := 407) (by decide +kernel)) (by decide +kernel)
theorem k_408 : (Cond.code ⟨"TileScreen$Feed", "addRuns", "(LTileScreen$Tiles;I)V"⟩ prog_4_method_10_code 6 none) ∈ TB := tb_in (List.mem_of_getElem? (i := 408) (by decide +kernel)) (by decide +kernel)
theorem k_409 : (Cond.methodLink "TileScreen$Feed" 141 ⟨"TileScreen$Feed", "addRaw", "(LTileScreen$Tiles;I)V"⟩) ∈ TB := tb_in (List.mem_of_getElem? (i := 409) (by decide +kernel)) (by decide +kernel)
theorem k_411 : (Cond.instanceMethod ⟨"TileScreen$Feed", "addRaw", "(LTileScreen$Tiles;I)V"⟩) ∈ TB := tb_in (List.mem_of_getElem? (i := 411) (by decide +kernel)) (by decide +kernel)
theorem k_412 : (Cond.code ⟨"TileScreen$Feed", "addRaw", "(LTileScreen$Tiles;I)V"⟩ prog_4_method_11_code 4 none) ∈ TB := tb_in (List.mem_of_getElem? (i := 412) (by decide +kernel)) (by decide +kernel)
theorem k_413 : (Cond.methodLink "TileScreen$Feed" 111 ⟨"TileScreen$Cache", "put", "(LTileScreen$Tiles;I)V"⟩) ∈ TB := tb_in (List.mem_of_getElem? (i := 413) (by decide +kernel)) (by decide +kernel)
theorem k_414 : (Cond.instanceMethod ⟨"TileScreen$Cache", "put", "(LTileScreen$Tiles;I)V"⟩) ∈ TB := tb_in (List.mem_of_getElem? (i := 414) (by decide +kernel)) (by decide +kernel)
theorem k_415 : (Cond.selects "TileScreen$Cache" ⟨"TileScreen$Cache", "put", "(LTileScreen$Tiles;I)V"⟩ ⟨"TileScreen$Cache", "put", "(LTileScreen$Tiles;I)V"⟩) ∈ TB := tb_in (List.mem_of_getElem? (i := 415) (by decide +kernel)) (by decide +kernel)
theorem k_416 : (Cond.code ⟨"TileScreen$Cache", "put", "(LTileScreen$Tiles;I)V"⟩ prog_2_method_3_code 3 none) ∈ TB := tb_in (List.mem_of_getElem? (i := 416) (by decide +kernel)) (by decide +kernel)
theorem k_417 : (Cond.methodLink "TileScreen$Cache" 27 ⟨"TileScreen$Tiles", "take", "(ILTileScreen$Tiles;I)V"⟩) ∈ TB := tb_in (List.mem_of_getElem? (i := 417) (by decide +kernel)) (by decide +kernel)
theorem k_418 : (Cond.instanceMethod ⟨"TileScreen$Tiles", "take", "(ILTileScreen$Tiles;I)V"⟩) ∈ TB := tb_in (List.mem_of_getElem? (i := 418) (by decide +kernel)) (by decide +kernel)
theorem k_419 : (Cond.selects "TileScreen$Tiles" ⟨"TileScreen$Tiles", "take", "(ILTileScreen$Tiles;I)V"⟩ ⟨"TileScreen$Tiles", "take", "(ILTileScreen$Tiles;I)V"⟩) ∈ TB := tb_in (List.mem_of_getElem? (i := 419) (by decide +kernel)) (by decide +kernel)
theorem k_420 : (Cond.code ⟨"TileScreen$Tiles", "take", "(ILTileScreen$Tiles;I)V"⟩ prog_8_method_4_code 4 none) ∈ TB := tb_in (List.mem_of_getElem? (i := 420) (by decide +kernel)) (by decide +kernel)
theorem k_421 : (Cond.methodLink "TileScreen$Cache" 31 ⟨"java/lang/Math", "max", "(II)I"⟩) ∈ TB := tb_in (List.mem_of_getElem? (i := 421) (by decide +kernel)) (by decide +kernel)
theorem k_422 : (Cond.static ⟨"java/lang/Math", "max", "(II)I"⟩) ∈ TB := tb_in (List.mem_of_getElem? (i := 422) (by decide +kernel)) (by decide +kernel)
theorem k_423 : (Cond.code ⟨"java/lang/Math", "max", "(II)I"⟩ prog_15_method_65_code 2 (some .int)) ∈ TB := tb_in (List.mem_of_getElem? (i := 423) (by decide +kernel)) (by decide +kernel)
theorem k_424 : (Cond.methodLinkNest "TileScreen$Feed" 69 ⟨"TileScreen", "sumOf", "([III)I"⟩ "TileScreen") ∈ NW := nw_in (List.mem_of_getElem? (i := 424) (by decide +kernel)) rfl
theorem k_425 : (Cond.static ⟨"TileScreen", "sumOf", "([III)I"⟩) ∈ TB := tb_in (List.mem_of_getElem? (i := 425) (by decide +kernel)) (by decide +kernel)
theorem k_426 : (Cond.code ⟨"TileScreen", "sumOf", "([III)I"⟩ prog_1_method_22_code 5 (some .int)) ∈ TB := tb_in (List.mem_of_getElem? (i := 426) (by decide +kernel)) (by decide +kernel)
theorem k_427 : (Cond.methodLink "TileScreen$Feed" 73 ⟨"TileScreen$Line", "set", "(II)V"⟩) ∈ TB := tb_in (List.mem_of_getElem? (i := 427) (by decide +kernel)) (by decide +kernel)
theorem k_428 : (Cond.instanceMethod ⟨"TileScreen$Line", "set", "(II)V"⟩) ∈ TB := tb_in (List.mem_of_getElem? (i := 428) (by decide +kernel)) (by decide +kernel)
theorem k_429 : (Cond.selects "TileScreen$Line" ⟨"TileScreen$Line", "set", "(II)V"⟩ ⟨"TileScreen$Line", "set", "(II)V"⟩) ∈ TB := tb_in (List.mem_of_getElem? (i := 429) (by decide +kernel)) (by decide +kernel)
theorem k_430 : (Cond.code ⟨"TileScreen$Line", "set", "(II)V"⟩ prog_5_method_5_code 3 none) ∈ TB := tb_in (List.mem_of_getElem? (i := 430) (by decide +kernel)) (by decide +kernel)
theorem k_431 : (Cond.methodLink "TileScreen$Feed" 77 ⟨"TileScreen$Tiles", "takeAll", "(LTileScreen$Tiles;)V"⟩) ∈ TB := tb_in (List.mem_of_getElem? (i := 431) (by decide +kernel)) (by decide +kernel)
theorem k_432 : (Cond.methodLink "TileScreen" 122 ⟨"TileScreen$Line", "removeFirst", "()I"⟩) ∈ TB := tb_in (List.mem_of_getElem? (i := 432) (by decide +kernel)) (by decide +kernel)
theorem k_433 : (Cond.instanceMethod ⟨"TileScreen$Line", "removeFirst", "()I"⟩) ∈ TB := tb_in (List.mem_of_getElem? (i := 433) (by decide +kernel)) (by decide +kernel)
theorem k_434 : (Cond.selects "TileScreen$Line" ⟨"TileScreen$Line", "removeFirst", "()I"⟩ ⟨"TileScreen$Line", "removeFirst", "()I"⟩) ∈ TB := tb_in (List.mem_of_getElem? (i := 434) (by decide +kernel)) (by decide +kernel)
theorem k_435 : (Cond.code ⟨"TileScreen$Line", "removeFirst", "()I"⟩ prog_5_method_7_code 2 (some .int)) ∈ TB := tb_in (List.mem_of_getElem? (i := 435) (by decide +kernel)) (by decide +kernel)
theorem k_436 : (Cond.methodLink "TileScreen" 126 ⟨"TileScreen$Poisons", "spoil", "(I)I"⟩) ∈ TB := tb_in (List.mem_of_getElem? (i := 436) (by decide +kernel)) (by decide +kernel)
theorem k_437 : (Cond.instanceMethod ⟨"TileScreen$Poisons", "spoil", "(I)I"⟩) ∈ TB := tb_in (List.mem_of_getElem? (i := 437) (by decide +kernel)) (by decide +kernel)
theorem k_438 : (Cond.selects "TileScreen$Poisons" ⟨"TileScreen$Poisons", "spoil", "(I)I"⟩ ⟨"TileScreen$Poisons", "spoil", "(I)I"⟩) ∈ TB := tb_in (List.mem_of_getElem? (i := 438) (by decide +kernel)) (by decide +kernel)
theorem k_439 : (Cond.code ⟨"TileScreen$Poisons", "spoil", "(I)I"⟩ prog_7_method_3_code 5 (some .int)) ∈ TB := tb_in (List.mem_of_getElem? (i := 439) (by decide +kernel)) (by decide +kernel)
theorem k_440 : (Cond.methodLink "TileScreen" 132 ⟨"TileScreen$Display", "receive", "(I)Z"⟩) ∈ TB := tb_in (List.mem_of_getElem? (i := 440) (by decide +kernel)) (by decide +kernel)
theorem k_441 : (Cond.instanceMethod ⟨"TileScreen$Display", "receive", "(I)Z"⟩) ∈ TB := tb_in (List.mem_of_getElem? (i := 441) (by decide +kernel)) (by decide +kernel)
theorem k_442 : (Cond.selects "TileScreen$Display" ⟨"TileScreen$Display", "receive", "(I)Z"⟩ ⟨"TileScreen$Display", "receive", "(I)Z"⟩) ∈ TB := tb_in (List.mem_of_getElem? (i := 442) (by decide +kernel)) (by decide +kernel)
theorem k_443 : (Cond.code ⟨"TileScreen$Display", "receive", "(I)Z"⟩ prog_3_method_3_code 3 (some .boolean)) ∈ TB := tb_in (List.mem_of_getElem? (i := 443) (by decide +kernel)) (by decide +kernel)
theorem k_444 : (Cond.methodLink "TileScreen$Display" 44 ⟨"TileScreen$Display", "readUpdate", "()Z"⟩) ∈ TB := tb_in (List.mem_of_getElem? (i := 444) (by decide +kernel)) (by decide +kernel)
theorem k_446 : (Cond.instanceMethod ⟨"TileScreen$Display", "readUpdate", "()Z"⟩) ∈ TB := tb_in (List.mem_of_getElem? (i := 446) (by decide +kernel)) (by decide +kernel)
theorem k_447 : (Cond.code ⟨"TileScreen$Display", "readUpdate", "()Z"⟩ prog_3_method_4_code 2 (some .boolean)) ∈ TB := tb_in (List.mem_of_getElem? (i := 447) (by decide +kernel)) (by decide +kernel)
theorem k_448 : (Cond.methodLinkNest "TileScreen$Display" 54 ⟨"TileScreen", "sumOf", "([III)I"⟩ "TileScreen") ∈ NW := nw_in (List.mem_of_getElem? (i := 448) (by decide +kernel)) rfl
theorem k_449 : (Cond.methodLink "TileScreen$Display" 58 ⟨"TileScreen$Display", "pairAt", "(I)I"⟩) ∈ TB := tb_in (List.mem_of_getElem? (i := 449) (by decide +kernel)) (by decide +kernel)
theorem k_451 : (Cond.instanceMethod ⟨"TileScreen$Display", "pairAt", "(I)I"⟩) ∈ TB := tb_in (List.mem_of_getElem? (i := 451) (by decide +kernel)) (by decide +kernel)
theorem k_452 : (Cond.code ⟨"TileScreen$Display", "pairAt", "(I)I"⟩ prog_3_method_6_code 2 (some .int)) ∈ TB := tb_in (List.mem_of_getElem? (i := 452) (by decide +kernel)) (by decide +kernel)
theorem k_453 : (Cond.methodLink "TileScreen$Display" 66 ⟨"TileScreen$Tiles", "takeAll", "(LTileScreen$Tiles;)V"⟩) ∈ TB := tb_in (List.mem_of_getElem? (i := 453) (by decide +kernel)) (by decide +kernel)
theorem k_454 : (Cond.methodLink "TileScreen$Display" 70 ⟨"TileScreen$Display", "readRecord", "()V"⟩) ∈ TB := tb_in (List.mem_of_getElem? (i := 454) (by decide +kernel)) (by decide +kernel)
theorem k_456 : (Cond.instanceMethod ⟨"TileScreen$Display", "readRecord", "()V"⟩) ∈ TB := tb_in (List.mem_of_getElem? (i := 456) (by decide +kernel)) (by decide +kernel)
theorem k_457 : (Cond.code ⟨"TileScreen$Display", "readRecord", "()V"⟩ prog_3_method_7_code 3 none) ∈ TB := tb_in (List.mem_of_getElem? (i := 457) (by decide +kernel)) (by decide +kernel)
theorem k_458 : (Cond.methodLink "TileScreen$Display" 86 ⟨"TileScreen$Display", "readByte", "()I"⟩) ∈ TB := tb_in (List.mem_of_getElem? (i := 458) (by decide +kernel)) (by decide +kernel)
theorem k_460 : (Cond.instanceMethod ⟨"TileScreen$Display", "readByte", "()I"⟩) ∈ TB := tb_in (List.mem_of_getElem? (i := 460) (by decide +kernel)) (by decide +kernel)
theorem k_461 : (Cond.code ⟨"TileScreen$Display", "readByte", "()I"⟩ prog_3_method_15_code 2 (some .int)) ∈ TB := tb_in (List.mem_of_getElem? (i := 461) (by decide +kernel)) (by decide +kernel)
theorem k_462 : (Cond.methodLink "TileScreen$Display" 90 ⟨"TileScreen$Display", "readColour", "()I"⟩) ∈ TB := tb_in (List.mem_of_getElem? (i := 462) (by decide +kernel)) (by decide +kernel)
theorem k_464 : (Cond.instanceMethod ⟨"TileScreen$Display", "readColour", "()I"⟩) ∈ TB := tb_in (List.mem_of_getElem? (i := 464) (by decide +kernel)) (by decide +kernel)
theorem k_465 : (Cond.code ⟨"TileScreen$Display", "readColour", "()I"⟩ prog_3_method_14_code 2 (some .int)) ∈ TB := tb_in (List.mem_of_getElem? (i := 465) (by decide +kernel)) (by decide +kernel)
theorem k_466 : (Cond.methodLink "TileScreen$Display" 93 ⟨"TileScreen$Display", "paint", "(IIII)V"⟩) ∈ TB := tb_in (List.mem_of_getElem? (i := 466) (by decide +kernel)) (by decide +kernel)
theorem k_468 : (Cond.instanceMethod ⟨"TileScreen$Display", "paint", "(IIII)V"⟩) ∈ TB := tb_in (List.mem_of_getElem? (i := 468) (by decide +kernel)) (by decide +kernel)
theorem k_469 : (Cond.code ⟨"TileScreen$Display", "paint", "(IIII)V"⟩ prog_3_method_13_code 6 none) ∈ TB := tb_in (List.mem_of_getElem? (i := 469) (by decide +kernel)) (by decide +kernel)
theorem k_470 : (Cond.methodLink "TileScreen$Display" 127 ⟨"TileScreen$Tiles", "set", "(III)V"⟩) ∈ TB := tb_in (List.mem_of_getElem? (i := 470) (by decide +kernel)) (by decide +kernel)
theorem k_471 : (Cond.methodLink "TileScreen$Display" 97 ⟨"TileScreen$Display", "readSource", "(ILTileScreen$Tiles;I)V"⟩) ∈ TB := tb_in (List.mem_of_getElem? (i := 471) (by decide +kernel)) (by decide +kernel)
theorem k_473 : (Cond.instanceMethod ⟨"TileScreen$Display", "readSource", "(ILTileScreen$Tiles;I)V"⟩) ∈ TB := tb_in (List.mem_of_getElem? (i := 473) (by decide +kernel)) (by decide +kernel)
theorem k_474 : (Cond.code ⟨"TileScreen$Display", "readSource", "(ILTileScreen$Tiles;I)V"⟩ prog_3_method_8_code 5 none) ∈ TB := tb_in (List.mem_of_getElem? (i := 474) (by decide +kernel)) (by decide +kernel)
theorem k_475 : (Cond.methodLink "TileScreen$Display" 124 ⟨"TileScreen$Tiles", "take", "(ILTileScreen$Tiles;I)V"⟩) ∈ TB := tb_in (List.mem_of_getElem? (i := 475) (by decide +kernel)) (by decide +kernel)
theorem k_476 : (Cond.methodLink "TileScreen$Display" 107 ⟨"TileScreen$Display", "readPixels", "(III)V"⟩) ∈ TB := tb_in (List.mem_of_getElem? (i := 476) (by decide +kernel)) (by decide +kernel)
theorem k_478 : (Cond.instanceMethod ⟨"TileScreen$Display", "readPixels", "(III)V"⟩) ∈ TB := tb_in (List.mem_of_getElem? (i := 478) (by decide +kernel)) (by decide +kernel)
theorem k_479 : (Cond.code ⟨"TileScreen$Display", "readPixels", "(III)V"⟩ prog_3_method_10_code 8 none) ∈ TB := tb_in (List.mem_of_getElem? (i := 479) (by decide +kernel)) (by decide +kernel)
theorem k_480 : (Cond.methodLink "TileScreen$Display" 111 ⟨"TileScreen$Display", "readColourCount", "()I"⟩) ∈ TB := tb_in (List.mem_of_getElem? (i := 480) (by decide +kernel)) (by decide +kernel)
theorem k_482 : (Cond.instanceMethod ⟨"TileScreen$Display", "readColourCount", "()I"⟩) ∈ TB := tb_in (List.mem_of_getElem? (i := 482) (by decide +kernel)) (by decide +kernel)
theorem k_483 : (Cond.code ⟨"TileScreen$Display", "readColourCount", "()I"⟩ prog_3_method_9_code 2 (some .int)) ∈ TB := tb_in (List.mem_of_getElem? (i := 483) (by decide +kernel)) (by decide +kernel)
theorem k_484 : (Cond.methodLink "TileScreen$Display" 114 ⟨"TileScreen$Display", "readRuns", "(I)V"⟩) ∈ TB := tb_in (List.mem_of_getElem? (i := 484) (by decide +kernel)) (by decide +kernel)
theorem k_486 : (Cond.instanceMethod ⟨"TileScreen$Display", "readRuns", "(I)V"⟩) ∈ TB := tb_in (List.mem_of_getElem? (i := 486) (by decide +kernel)) (by decide +kernel)
theorem k_487 : (Cond.code ⟨"TileScreen$Display", "readRuns", "(I)V"⟩ prog_3_method_11_code 7 none) ∈ TB := tb_in (List.mem_of_getElem? (i := 487) (by decide +kernel)) (by decide +kernel)
theorem k_488 : (Cond.methodLink "TileScreen$Display" 117 ⟨"TileScreen$Display", "readRaw", "(I)V"⟩) ∈ TB := tb_in (List.mem_of_getElem? (i := 488) (by decide +kernel)) (by decide +kernel)
theorem k_490 : (Cond.instanceMethod ⟨"TileScreen$Display", "readRaw", "(I)V"⟩) ∈ TB := tb_in (List.mem_of_getElem? (i := 490) (by decide +kernel)) (by decide +kernel)
theorem k_491 : (Cond.code ⟨"TileScreen$Display", "readRaw", "(I)V"⟩ prog_3_method_12_code 3 none) ∈ TB := tb_in (List.mem_of_getElem? (i := 491) (by decide +kernel)) (by decide +kernel)
theorem k_492 : (Cond.methodLink "TileScreen$Display" 120 ⟨"TileScreen$Cache", "put", "(LTileScreen$Tiles;I)V"⟩) ∈ TB := tb_in (List.mem_of_getElem? (i := 492) (by decide +kernel)) (by decide +kernel)
theorem k_493 : (Cond.methodLink "TileScreen$Display" 76 ⟨"TileScreen$Display", "numberAbove", "(II)I"⟩) ∈ TB := tb_in (List.mem_of_getElem? (i := 493) (by decide +kernel)) (by decide +kernel)
theorem k_494 : (Cond.static ⟨"TileScreen$Display", "numberAbove", "(II)I"⟩) ∈ TB := tb_in (List.mem_of_getElem? (i := 494) (by decide +kernel)) (by decide +kernel)
theorem k_495 : (Cond.code ⟨"TileScreen$Display", "numberAbove", "(II)I"⟩ prog_3_method_5_code 2 (some .int)) ∈ TB := tb_in (List.mem_of_getElem? (i := 495) (by decide +kernel)) (by decide +kernel)
theorem k_496 : (Cond.constant "TileScreen$Display" 80 65536) ∈ TB := tb_in (List.mem_of_getElem? (i := 496) (by decide +kernel)) (by decide +kernel)
theorem k_497 : (Cond.methodLink "TileScreen$Display" 81 ⟨"java/lang/Math", "floorMod", "(II)I"⟩) ∈ TB := tb_in (List.mem_of_getElem? (i := 497) (by decide +kernel)) (by decide +kernel)
theorem k_498 : (Cond.static ⟨"java/lang/Math", "floorMod", "(II)I"⟩) ∈ TB := tb_in (List.mem_of_getElem? (i := 498) (by decide +kernel)) (by decide +kernel)
theorem k_499 : (Cond.code ⟨"java/lang/Math", "floorMod", "(II)I"⟩ prog_15_method_50_code 3 (some .int)) ∈ TB := tb_in (List.mem_of_getElem? (i := 499) (by decide +kernel)) (by decide +kernel)
theorem k_500 : (Cond.methodLink "TileScreenLaw" 63 ⟨"TileScreen", "poison", "(III)Z"⟩) ∈ TB := tb_in (List.mem_of_getElem? (i := 500) (by decide +kernel)) (by decide +kernel)
theorem k_501 : (Cond.instanceMethod ⟨"TileScreen", "poison", "(III)Z"⟩) ∈ TB := tb_in (List.mem_of_getElem? (i := 501) (by decide +kernel)) (by decide +kernel)
theorem k_502 : (Cond.selects "TileScreen" ⟨"TileScreen", "poison", "(III)Z"⟩ ⟨"TileScreen", "poison", "(III)Z"⟩) ∈ TB := tb_in (List.mem_of_getElem? (i := 502) (by decide +kernel)) (by decide +kernel)
theorem k_503 : (Cond.code ⟨"TileScreen", "poison", "(III)Z"⟩ prog_1_method_10_code 4 (some .boolean)) ∈ TB := tb_in (List.mem_of_getElem? (i := 503) (by decide +kernel)) (by decide +kernel)
theorem k_504 : (Cond.methodLink "TileScreen" 137 ⟨"TileScreen$Poisons", "add", "(II)V"⟩) ∈ TB := tb_in (List.mem_of_getElem? (i := 504) (by decide +kernel)) (by decide +kernel)
theorem k_505 : (Cond.instanceMethod ⟨"TileScreen$Poisons", "add", "(II)V"⟩) ∈ TB := tb_in (List.mem_of_getElem? (i := 505) (by decide +kernel)) (by decide +kernel)
theorem k_506 : (Cond.selects "TileScreen$Poisons" ⟨"TileScreen$Poisons", "add", "(II)V"⟩ ⟨"TileScreen$Poisons", "add", "(II)V"⟩) ∈ TB := tb_in (List.mem_of_getElem? (i := 506) (by decide +kernel)) (by decide +kernel)
theorem k_507 : (Cond.code ⟨"TileScreen$Poisons", "add", "(II)V"⟩ prog_7_method_2_code 3 none) ∈ TB := tb_in (List.mem_of_getElem? (i := 507) (by decide +kernel)) (by decide +kernel)
theorem k_508 : (Cond.methodLink "TileScreenLaw" 68 ⟨"TileScreen", "shown", "(I)I"⟩) ∈ TB := tb_in (List.mem_of_getElem? (i := 508) (by decide +kernel)) (by decide +kernel)
theorem k_509 : (Cond.instanceMethod ⟨"TileScreen", "shown", "(I)I"⟩) ∈ TB := tb_in (List.mem_of_getElem? (i := 509) (by decide +kernel)) (by decide +kernel)
theorem k_510 : (Cond.selects "TileScreen" ⟨"TileScreen", "shown", "(I)I"⟩ ⟨"TileScreen", "shown", "(I)I"⟩) ∈ TB := tb_in (List.mem_of_getElem? (i := 510) (by decide +kernel)) (by decide +kernel)
theorem k_511 : (Cond.code ⟨"TileScreen", "shown", "(I)I"⟩ prog_1_method_11_code 2 (some .int)) ∈ TB := tb_in (List.mem_of_getElem? (i := 511) (by decide +kernel)) (by decide +kernel)
theorem k_512 : (Cond.methodLink "TileScreenLaw" 72 ⟨"TileScreen", "at", "(III)I"⟩) ∈ TB := tb_in (List.mem_of_getElem? (i := 512) (by decide +kernel)) (by decide +kernel)
theorem k_513 : (Cond.instanceMethod ⟨"TileScreen", "at", "(III)I"⟩) ∈ TB := tb_in (List.mem_of_getElem? (i := 513) (by decide +kernel)) (by decide +kernel)
theorem k_514 : (Cond.selects "TileScreen" ⟨"TileScreen", "at", "(III)I"⟩ ⟨"TileScreen", "at", "(III)I"⟩) ∈ TB := tb_in (List.mem_of_getElem? (i := 514) (by decide +kernel)) (by decide +kernel)
theorem k_515 : (Cond.code ⟨"TileScreen", "at", "(III)I"⟩ prog_1_method_12_code 4 (some .int)) ∈ TB := tb_in (List.mem_of_getElem? (i := 515) (by decide +kernel)) (by decide +kernel)
theorem k_516 : (Cond.methodLink "TileScreenLaw" 77 ⟨"TileScreen", "about", "(II)I"⟩) ∈ TB := tb_in (List.mem_of_getElem? (i := 516) (by decide +kernel)) (by decide +kernel)
theorem k_517 : (Cond.instanceMethod ⟨"TileScreen", "about", "(II)I"⟩) ∈ TB := tb_in (List.mem_of_getElem? (i := 517) (by decide +kernel)) (by decide +kernel)
theorem k_518 : (Cond.selects "TileScreen" ⟨"TileScreen", "about", "(II)I"⟩ ⟨"TileScreen", "about", "(II)I"⟩) ∈ TB := tb_in (List.mem_of_getElem? (i := 518) (by decide +kernel)) (by decide +kernel)
theorem k_519 : (Cond.code ⟨"TileScreen", "about", "(II)I"⟩ prog_1_method_13_code 4 (some .int)) ∈ TB := tb_in (List.mem_of_getElem? (i := 519) (by decide +kernel)) (by decide +kernel)
theorem k_520 : (Cond.methodLink "TileScreen" 156 ⟨"TileScreen$Tiles", "countOther", "(LTileScreen$Tiles;)I"⟩) ∈ TB := tb_in (List.mem_of_getElem? (i := 520) (by decide +kernel)) (by decide +kernel)
theorem k_521 : (Cond.instanceMethod ⟨"TileScreen$Tiles", "countOther", "(LTileScreen$Tiles;)I"⟩) ∈ TB := tb_in (List.mem_of_getElem? (i := 521) (by decide +kernel)) (by decide +kernel)
theorem k_522 : (Cond.selects "TileScreen$Tiles" ⟨"TileScreen$Tiles", "countOther", "(LTileScreen$Tiles;)I"⟩ ⟨"TileScreen$Tiles", "countOther", "(LTileScreen$Tiles;)I"⟩) ∈ TB := tb_in (List.mem_of_getElem? (i := 522) (by decide +kernel)) (by decide +kernel)
theorem k_523 : (Cond.code ⟨"TileScreen$Tiles", "countOther", "(LTileScreen$Tiles;)I"⟩ prog_8_method_8_code 4 (some .int)) ∈ TB := tb_in (List.mem_of_getElem? (i := 523) (by decide +kernel)) (by decide +kernel)
theorem k_524 : (Cond.methodLink "TileScreenLaw" 81 ⟨"TileScreen", "bytesBy", "(II)I"⟩) ∈ TB := tb_in (List.mem_of_getElem? (i := 524) (by decide +kernel)) (by decide +kernel)
theorem k_525 : (Cond.instanceMethod ⟨"TileScreen", "bytesBy", "(II)I"⟩) ∈ TB := tb_in (List.mem_of_getElem? (i := 525) (by decide +kernel)) (by decide +kernel)
theorem k_526 : (Cond.selects "TileScreen" ⟨"TileScreen", "bytesBy", "(II)I"⟩ ⟨"TileScreen", "bytesBy", "(II)I"⟩) ∈ TB := tb_in (List.mem_of_getElem? (i := 526) (by decide +kernel)) (by decide +kernel)
theorem k_527 : (Cond.code ⟨"TileScreen", "bytesBy", "(II)I"⟩ prog_1_method_14_code 3 (some .int)) ∈ TB := tb_in (List.mem_of_getElem? (i := 527) (by decide +kernel)) (by decide +kernel)
theorem k_528 : (Cond.methodLink "TileScreenLaw" 85 ⟨"TileScreen", "onLine", "(II)I"⟩) ∈ TB := tb_in (List.mem_of_getElem? (i := 528) (by decide +kernel)) (by decide +kernel)
theorem k_529 : (Cond.instanceMethod ⟨"TileScreen", "onLine", "(II)I"⟩) ∈ TB := tb_in (List.mem_of_getElem? (i := 529) (by decide +kernel)) (by decide +kernel)
theorem k_530 : (Cond.selects "TileScreen" ⟨"TileScreen", "onLine", "(II)I"⟩ ⟨"TileScreen", "onLine", "(II)I"⟩) ∈ TB := tb_in (List.mem_of_getElem? (i := 530) (by decide +kernel)) (by decide +kernel)
theorem k_531 : (Cond.code ⟨"TileScreen", "onLine", "(II)I"⟩ prog_1_method_15_code 3 (some .int)) ∈ TB := tb_in (List.mem_of_getElem? (i := 531) (by decide +kernel)) (by decide +kernel)
theorem k_532 : (Cond.methodLink "TileScreen" 173 ⟨"TileScreen$Line", "get", "(I)I"⟩) ∈ TB := tb_in (List.mem_of_getElem? (i := 532) (by decide +kernel)) (by decide +kernel)
theorem k_533 : (Cond.instanceMethod ⟨"TileScreen$Line", "get", "(I)I"⟩) ∈ TB := tb_in (List.mem_of_getElem? (i := 533) (by decide +kernel)) (by decide +kernel)
theorem k_534 : (Cond.selects "TileScreen$Line" ⟨"TileScreen$Line", "get", "(I)I"⟩ ⟨"TileScreen$Line", "get", "(I)I"⟩) ∈ TB := tb_in (List.mem_of_getElem? (i := 534) (by decide +kernel)) (by decide +kernel)
theorem k_535 : (Cond.code ⟨"TileScreen$Line", "get", "(I)I"⟩ prog_5_method_6_code 2 (some .int)) ∈ TB := tb_in (List.mem_of_getElem? (i := 535) (by decide +kernel)) (by decide +kernel)
theorem k_536 : (Cond.methodLink "TileScreenLaw" 49 ⟨"TileScreenLaw", "credit", "(LTileScreen;II[J)I"⟩) ∈ TB := tb_in (List.mem_of_getElem? (i := 536) (by decide +kernel)) (by decide +kernel)
theorem k_537 : (Cond.static ⟨"TileScreenLaw", "credit", "(LTileScreen;II[J)I"⟩) ∈ TB := tb_in (List.mem_of_getElem? (i := 537) (by decide +kernel)) (by decide +kernel)
theorem k_539 : (Cond.classLink "TileScreenLaw" 13 "java/lang/IllegalArgumentException") ∈ TB := tb_in (List.mem_of_getElem? (i := 539) (by decide +kernel)) (by decide +kernel)
theorem k_540 : (Cond.classLink "TileScreenLaw" 15 "java/lang/IllegalStateException") ∈ TB := tb_in (List.mem_of_getElem? (i := 540) (by decide +kernel)) (by decide +kernel)
theorem k_541 : (Cond.methodLink "TileScreenLaw" 7 ⟨"TileScreen", "credit", "(II)I"⟩) ∈ TB := tb_in (List.mem_of_getElem? (i := 541) (by decide +kernel)) (by decide +kernel)
theorem k_542 : (Cond.instanceMethod ⟨"TileScreen", "credit", "(II)I"⟩) ∈ TB := tb_in (List.mem_of_getElem? (i := 542) (by decide +kernel)) (by decide +kernel)
theorem k_543 : (Cond.selects "TileScreen" ⟨"TileScreen", "credit", "(II)I"⟩ ⟨"TileScreen", "credit", "(II)I"⟩) ∈ TB := tb_in (List.mem_of_getElem? (i := 543) (by decide +kernel)) (by decide +kernel)
theorem k_544 : (Cond.code ⟨"TileScreen", "credit", "(II)I"⟩ prog_1_method_8_code 4 (some .int)) ∈ TB := tb_in (List.mem_of_getElem? (i := 544) (by decide +kernel)) (by decide +kernel)
theorem k_545 : (Cond.constant "TileScreen" 76 1000000) ∈ TB := tb_in (List.mem_of_getElem? (i := 545) (by decide +kernel)) (by decide +kernel)
theorem k_546 : (Cond.classLink "TileScreen" 77 "java/lang/IllegalArgumentException") ∈ TB := tb_in (List.mem_of_getElem? (i := 546) (by decide +kernel)) (by decide +kernel)
theorem k_547 : (Cond.instantiable "java/lang/IllegalArgumentException" 6) ∈ TB := tb_in (List.mem_of_getElem? (i := 547) (by decide +kernel)) (by decide +kernel)
theorem k_555 : (Cond.selects "java/lang/IllegalArgumentException" ⟨"java/lang/Throwable", "fillInStackTrace", "(I)Ljava/lang/Throwable;"⟩ ⟨"java/lang/Throwable", "fillInStackTrace", "(I)Ljava/lang/Throwable;"⟩) ∈ TB := tb_in (List.mem_of_getElem? (i := 555) (by decide +kernel)) (by decide +kernel)
theorem k_556 : (Cond.selects "java/lang/IllegalArgumentException" ⟨"java/lang/Throwable", "fillInStackTrace", "()Ljava/lang/Throwable;"⟩ ⟨"java/lang/Throwable", "fillInStackTrace", "()Ljava/lang/Throwable;"⟩) ∈ TB := tb_in (List.mem_of_getElem? (i := 556) (by decide +kernel)) (by decide +kernel)
theorem k_567 : (Cond.fieldLink "java/lang/Throwable" 198 "java/lang/Throwable" "backtrace" "Ljava/lang/Object;") ∈ TB := tb_in (List.mem_of_getElem? (i := 567) (by decide +kernel)) (by decide +kernel)
theorem k_569 : (Cond.instanceMethod ⟨"java/lang/Throwable", "<init>", "()V"⟩) ∈ TB := tb_in (List.mem_of_getElem? (i := 569) (by decide +kernel)) (by decide +kernel)
theorem k_570 : (Cond.code ⟨"java/lang/Throwable", "<init>", "()V"⟩ prog_19_method_1_code 1 none) ∈ TB := tb_in (List.mem_of_getElem? (i := 570) (by decide +kernel)) (by decide +kernel)
theorem k_571 : (Cond.methodLink "java/lang/Throwable" 1 ⟨"java/lang/Object", "<init>", "()V"⟩) ∈ TB := tb_in (List.mem_of_getElem? (i := 571) (by decide +kernel)) (by decide +kernel)
theorem k_572 : (Cond.fieldLink "java/lang/Throwable" 13 "java/lang/Throwable" "UNASSIGNED_STACK" "[Ljava/lang/StackTraceElement;") ∈ TB := tb_in (List.mem_of_getElem? (i := 572) (by decide +kernel)) (by decide +kernel)
theorem k_574 : (Cond.fieldLink "java/lang/Throwable" 20 "java/lang/Throwable" "SUPPRESSED_SENTINEL" "Ljava/util/List;") ∈ TB := tb_in (List.mem_of_getElem? (i := 574) (by decide +kernel)) (by decide +kernel)
theorem k_576 : (Cond.methodLink "java/lang/Throwable" 27 ⟨"java/lang/Throwable", "fillInStackTrace", "()Ljava/lang/Throwable;"⟩) ∈ TB := tb_in (List.mem_of_getElem? (i := 576) (by decide +kernel)) (by decide +kernel)
theorem k_577 : (Cond.instanceMethod ⟨"java/lang/Throwable", "fillInStackTrace", "()Ljava/lang/Throwable;"⟩) ∈ TB := tb_in (List.mem_of_getElem? (i := 577) (by decide +kernel)) (by decide +kernel)
theorem k_579 : (Cond.selects "java/lang/IllegalStateException" ⟨"java/lang/Throwable", "fillInStackTrace", "()Ljava/lang/Throwable;"⟩ ⟨"java/lang/Throwable", "fillInStackTrace", "()Ljava/lang/Throwable;"⟩) ∈ TB := tb_in (List.mem_of_getElem? (i := 579) (by decide +kernel)) (by decide +kernel)
theorem k_581 : (Cond.methodLink "java/lang/Throwable" 202 ⟨"java/lang/Throwable", "fillInStackTrace", "(I)Ljava/lang/Throwable;"⟩) ∈ TB := tb_in (List.mem_of_getElem? (i := 581) (by decide +kernel)) (by decide +kernel)
theorem k_583 : (Cond.instanceMethod ⟨"java/lang/Throwable", "fillInStackTrace", "(I)Ljava/lang/Throwable;"⟩) ∈ TB := tb_in (List.mem_of_getElem? (i := 583) (by decide +kernel)) (by decide +kernel)
theorem k_584 : (Cond.instantiable "java/lang/Throwable" 6) ∈ TB := tb_in (List.mem_of_getElem? (i := 584) (by decide +kernel)) (by decide +kernel)
theorem k_585 : (Cond.native ⟨"java/lang/Throwable", "fillInStackTrace", "(I)Ljava/lang/Throwable;"⟩) ∈ TB := tb_in (List.mem_of_getElem? (i := 585) (by decide +kernel)) (by decide +kernel)
theorem k_587 : (Cond.methodLink "TileScreen" 81 ⟨"java/lang/IllegalArgumentException", "<init>", "(Ljava/lang/String;)V"⟩) ∈ TB := tb_in (List.mem_of_getElem? (i := 587) (by decide +kernel)) (by decide +kernel)
theorem k_588 : (Cond.instanceMethod ⟨"java/lang/IllegalArgumentException", "<init>", "(Ljava/lang/String;)V"⟩) ∈ TB := tb_in (List.mem_of_getElem? (i := 588) (by decide +kernel)) (by decide +kernel)
theorem k_589 : (Cond.code ⟨"java/lang/IllegalArgumentException", "<init>", "(Ljava/lang/String;)V"⟩ prog_13_method_2_code 2 none) ∈ TB := tb_in (List.mem_of_getElem? (i := 589) (by decide +kernel)) (by decide +kernel)
theorem k_590 : (Cond.methodLink "java/lang/IllegalArgumentException" 7 ⟨"java/lang/RuntimeException", "<init>", "(Ljava/lang/String;)V"⟩) ∈ TB := tb_in (List.mem_of_getElem? (i := 590) (by decide +kernel)) (by decide +kernel)
theorem k_591 : (Cond.instanceMethod ⟨"java/lang/RuntimeException", "<init>", "(Ljava/lang/String;)V"⟩) ∈ TB := tb_in (List.mem_of_getElem? (i := 591) (by decide +kernel)) (by decide +kernel)
theorem k_592 : (Cond.code ⟨"java/lang/RuntimeException", "<init>", "(Ljava/lang/String;)V"⟩ prog_16_method_2_code 2 none) ∈ TB := tb_in (List.mem_of_getElem? (i := 592) (by decide +kernel)) (by decide +kernel)
theorem k_593 : (Cond.methodLink "java/lang/RuntimeException" 7 ⟨"java/lang/Exception", "<init>", "(Ljava/lang/String;)V"⟩) ∈ TB := tb_in (List.mem_of_getElem? (i := 593) (by decide +kernel)) (by decide +kernel)
theorem k_594 : (Cond.instanceMethod ⟨"java/lang/Exception", "<init>", "(Ljava/lang/String;)V"⟩) ∈ TB := tb_in (List.mem_of_getElem? (i := 594) (by decide +kernel)) (by decide +kernel)
theorem k_595 : (Cond.code ⟨"java/lang/Exception", "<init>", "(Ljava/lang/String;)V"⟩ prog_12_method_2_code 2 none) ∈ TB := tb_in (List.mem_of_getElem? (i := 595) (by decide +kernel)) (by decide +kernel)
theorem k_596 : (Cond.methodLink "java/lang/Exception" 7 ⟨"java/lang/Throwable", "<init>", "(Ljava/lang/String;)V"⟩) ∈ TB := tb_in (List.mem_of_getElem? (i := 596) (by decide +kernel)) (by decide +kernel)
theorem k_597 : (Cond.instanceMethod ⟨"java/lang/Throwable", "<init>", "(Ljava/lang/String;)V"⟩) ∈ TB := tb_in (List.mem_of_getElem? (i := 597) (by decide +kernel)) (by decide +kernel)
theorem k_598 : (Cond.code ⟨"java/lang/Throwable", "<init>", "(Ljava/lang/String;)V"⟩ prog_19_method_2_code 2 none) ∈ TB := tb_in (List.mem_of_getElem? (i := 598) (by decide +kernel)) (by decide +kernel)
theorem k_599 : (Cond.fieldLink "java/lang/Throwable" 198 "java/lang/Throwable" "backtrace" "Ljava/lang/Object;") ∈ TB := tb_in (List.mem_of_getElem? (i := 599) (by decide +kernel)) (by decide +kernel)
theorem k_600 : (Cond.fieldLink "java/lang/Throwable" 31 "java/lang/Throwable" "detailMessage" "Ljava/lang/String;") ∈ TB := tb_in (List.mem_of_getElem? (i := 600) (by decide +kernel)) (by decide +kernel)
theorem k_601 : (Cond.fieldLink "java/lang/Throwable" 7 "java/lang/Throwable" "cause" "Ljava/lang/Throwable;") ∈ TB := tb_in (List.mem_of_getElem? (i := 601) (by decide +kernel)) (by decide +kernel)
theorem k_602 : (Cond.fieldLink "java/lang/Throwable" 17 "java/lang/Throwable" "stackTrace" "[Ljava/lang/StackTraceElement;") ∈ TB := tb_in (List.mem_of_getElem? (i := 602) (by decide +kernel)) (by decide +kernel)
theorem k_603 : (Cond.fieldLink "java/lang/Throwable" 24 "java/lang/Throwable" "suppressedExceptions" "Ljava/util/List;") ∈ TB := tb_in (List.mem_of_getElem? (i := 603) (by decide +kernel)) (by decide +kernel)
theorem k_612 : (Cond.arrayClass .byte) ∈ TB := tb_in (List.mem_of_getElem? (i := 612) (by decide +kernel)) (by decide +kernel)
theorem k_613 : (Cond.classLink "TileScreen" 87 "java/lang/IllegalStateException") ∈ TB := tb_in (List.mem_of_getElem? (i := 613) (by decide +kernel)) (by decide +kernel)
theorem k_614 : (Cond.instantiable "java/lang/IllegalStateException" 6) ∈ TB := tb_in (List.mem_of_getElem? (i := 614) (by decide +kernel)) (by decide +kernel)
theorem k_616 : (Cond.selects "java/lang/IllegalStateException" ⟨"java/lang/Throwable", "fillInStackTrace", "(I)Ljava/lang/Throwable;"⟩ ⟨"java/lang/Throwable", "fillInStackTrace", "(I)Ljava/lang/Throwable;"⟩) ∈ TB := tb_in (List.mem_of_getElem? (i := 616) (by decide +kernel)) (by decide +kernel)
theorem k_623 : (Cond.methodLink "TileScreen" 91 ⟨"java/lang/IllegalStateException", "<init>", "(Ljava/lang/String;)V"⟩) ∈ TB := tb_in (List.mem_of_getElem? (i := 623) (by decide +kernel)) (by decide +kernel)
theorem k_624 : (Cond.instanceMethod ⟨"java/lang/IllegalStateException", "<init>", "(Ljava/lang/String;)V"⟩) ∈ TB := tb_in (List.mem_of_getElem? (i := 624) (by decide +kernel)) (by decide +kernel)
theorem k_625 : (Cond.code ⟨"java/lang/IllegalStateException", "<init>", "(Ljava/lang/String;)V"⟩ prog_14_method_2_code 2 none) ∈ TB := tb_in (List.mem_of_getElem? (i := 625) (by decide +kernel)) (by decide +kernel)
theorem k_626 : (Cond.methodLink "java/lang/IllegalStateException" 7 ⟨"java/lang/RuntimeException", "<init>", "(Ljava/lang/String;)V"⟩) ∈ TB := tb_in (List.mem_of_getElem? (i := 626) (by decide +kernel)) (by decide +kernel)
theorem k_629 : (Cond.classLink "TileScreenLaw" 18 "TileScreenModel") ∈ TB := tb_in (List.mem_of_getElem? (i := 629) (by decide +kernel)) (by decide +kernel)
theorem k_630 : (Cond.instantiable "TileScreenModel" 27) ∈ TB := tb_in (List.mem_of_getElem? (i := 630) (by decide +kernel)) (by decide +kernel)
theorem k_631 : (Cond.methodLink "TileScreenLaw" 20 ⟨"TileScreenModel", "<init>", "()V"⟩) ∈ TB := tb_in (List.mem_of_getElem? (i := 631) (by decide +kernel)) (by decide +kernel)
theorem k_632 : (Cond.instanceMethod ⟨"TileScreenModel", "<init>", "()V"⟩) ∈ TB := tb_in (List.mem_of_getElem? (i := 632) (by decide +kernel)) (by decide +kernel)
theorem k_633 : (Cond.code ⟨"TileScreenModel", "<init>", "()V"⟩ prog_11_method_1_code 1 none) ∈ TB := tb_in (List.mem_of_getElem? (i := 633) (by decide +kernel)) (by decide +kernel)
theorem k_634 : (Cond.methodLink "TileScreenModel" 1 ⟨"java/lang/Object", "<init>", "()V"⟩) ∈ TB := tb_in (List.mem_of_getElem? (i := 634) (by decide +kernel)) (by decide +kernel)
theorem k_635 : (Cond.fieldLink "TileScreenModel" 74 "TileScreenModel" "code" "I") ∈ TB := tb_in (List.mem_of_getElem? (i := 635) (by decide +kernel)) (by decide +kernel)
theorem k_636 : (Cond.fieldLink "TileScreenModel" 7 "TileScreenModel" "pixel" "[I") ∈ TB := tb_in (List.mem_of_getElem? (i := 636) (by decide +kernel)) (by decide +kernel)
theorem k_637 : (Cond.fieldLink "TileScreenModel" 96 "TileScreenModel" "number" "I") ∈ TB := tb_in (List.mem_of_getElem? (i := 637) (by decide +kernel)) (by decide +kernel)
theorem k_638 : (Cond.fieldLink "TileScreenModel" 13 "TileScreenModel" "cached" "[I") ∈ TB := tb_in (List.mem_of_getElem? (i := 638) (by decide +kernel)) (by decide +kernel)
theorem k_639 : (Cond.fieldLink "TileScreenModel" 16 "TileScreenModel" "place" "[I") ∈ TB := tb_in (List.mem_of_getElem? (i := 639) (by decide +kernel)) (by decide +kernel)
theorem k_640 : (Cond.fieldLink "TileScreenModel" 19 "TileScreenModel" "there" "[Z") ∈ TB := tb_in (List.mem_of_getElem? (i := 640) (by decide +kernel)) (by decide +kernel)
theorem k_641 : (Cond.fieldLink "TileScreenModel" 23 "TileScreenModel" "connected" "[Z") ∈ TB := tb_in (List.mem_of_getElem? (i := 641) (by decide +kernel)) (by decide +kernel)
theorem k_642 : (Cond.fieldLink "TileScreenModel" 26 "TileScreenModel" "shown" "[I") ∈ TB := tb_in (List.mem_of_getElem? (i := 642) (by decide +kernel)) (by decide +kernel)
theorem k_643 : (Cond.fieldLink "TileScreenModel" 29 "TileScreenModel" "sentFrame" "[I") ∈ TB := tb_in (List.mem_of_getElem? (i := 643) (by decide +kernel)) (by decide +kernel)
theorem k_644 : (Cond.fieldLink "TileScreenModel" 32 "TileScreenModel" "credit" "[I") ∈ TB := tb_in (List.mem_of_getElem? (i := 644) (by decide +kernel)) (by decide +kernel)
theorem k_645 : (Cond.fieldLink "TileScreenModel" 35 "TileScreenModel" "epoch" "[I") ∈ TB := tb_in (List.mem_of_getElem? (i := 645) (by decide +kernel)) (by decide +kernel)
theorem k_646 : (Cond.fieldLink "TileScreenModel" 38 "TileScreenModel" "by" "[I") ∈ TB := tb_in (List.mem_of_getElem? (i := 646) (by decide +kernel)) (by decide +kernel)
theorem k_647 : (Cond.fieldLink "TileScreenModel" 41 "TileScreenModel" "line" "[I") ∈ TB := tb_in (List.mem_of_getElem? (i := 647) (by decide +kernel)) (by decide +kernel)
theorem k_648 : (Cond.fieldLink "TileScreenModel" 44 "TileScreenModel" "lineSize" "[I") ∈ TB := tb_in (List.mem_of_getElem? (i := 648) (by decide +kernel)) (by decide +kernel)
theorem k_649 : (Cond.fieldLink "TileScreenModel" 47 "TileScreenModel" "lineAt" "[I") ∈ TB := tb_in (List.mem_of_getElem? (i := 649) (by decide +kernel)) (by decide +kernel)
theorem k_650 : (Cond.fieldLink "TileScreenModel" 50 "TileScreenModel" "came" "[I") ∈ TB := tb_in (List.mem_of_getElem? (i := 650) (by decide +kernel)) (by decide +kernel)
theorem k_651 : (Cond.fieldLink "TileScreenModel" 53 "TileScreenModel" "cameSize" "[I") ∈ TB := tb_in (List.mem_of_getElem? (i := 651) (by decide +kernel)) (by decide +kernel)
theorem k_652 : (Cond.fieldLink "TileScreenModel" 56 "TileScreenModel" "poisonAt" "[I") ∈ TB := tb_in (List.mem_of_getElem? (i := 652) (by decide +kernel)) (by decide +kernel)
theorem k_653 : (Cond.fieldLink "TileScreenModel" 59 "TileScreenModel" "poisonMask" "[I") ∈ TB := tb_in (List.mem_of_getElem? (i := 653) (by decide +kernel)) (by decide +kernel)
theorem k_654 : (Cond.fieldLink "TileScreenModel" 62 "TileScreenModel" "poisons" "[I") ∈ TB := tb_in (List.mem_of_getElem? (i := 654) (by decide +kernel)) (by decide +kernel)
theorem k_655 : (Cond.fieldLink "TileScreenModel" 65 "TileScreenModel" "tile" "[I") ∈ TB := tb_in (List.mem_of_getElem? (i := 655) (by decide +kernel)) (by decide +kernel)
theorem k_656 : (Cond.fieldLink "TileScreenModel" 68 "TileScreenModel" "record" "[I") ∈ TB := tb_in (List.mem_of_getElem? (i := 656) (by decide +kernel)) (by decide +kernel)
theorem k_657 : (Cond.fieldLink "TileScreenModel" 71 "TileScreenModel" "colour" "[I") ∈ TB := tb_in (List.mem_of_getElem? (i := 657) (by decide +kernel)) (by decide +kernel)
theorem k_658 : (Cond.fieldLink "TileScreenModel" 107 "TileScreenModel" "size" "I") ∈ TB := tb_in (List.mem_of_getElem? (i := 658) (by decide +kernel)) (by decide +kernel)
theorem k_659 : (Cond.fieldLink "TileScreenModel" 113 "TileScreenModel" "colours" "I") ∈ TB := tb_in (List.mem_of_getElem? (i := 659) (by decide +kernel)) (by decide +kernel)
theorem k_660 : (Cond.fieldLink "TileScreenModel" 151 "TileScreenModel" "next" "I") ∈ TB := tb_in (List.mem_of_getElem? (i := 660) (by decide +kernel)) (by decide +kernel)
theorem k_661 : (Cond.fieldLink "TileScreenModel" 154 "TileScreenModel" "last" "I") ∈ TB := tb_in (List.mem_of_getElem? (i := 661) (by decide +kernel)) (by decide +kernel)
theorem k_717 : (Cond.arrayClass .boolean) ∈ TB := tb_in (List.mem_of_getElem? (i := 717) (by decide +kernel)) (by decide +kernel)
theorem k_718 : (Cond.methodLink "TileScreenLaw" 55 ⟨"TileScreenModel", "thrown", "()I"⟩) ∈ TB := tb_in (List.mem_of_getElem? (i := 718) (by decide +kernel)) (by decide +kernel)
theorem k_719 : (Cond.instanceMethod ⟨"TileScreenModel", "thrown", "()I"⟩) ∈ TB := tb_in (List.mem_of_getElem? (i := 719) (by decide +kernel)) (by decide +kernel)
theorem k_720 : (Cond.selects "TileScreenModel" ⟨"TileScreenModel", "thrown", "()I"⟩ ⟨"TileScreenModel", "thrown", "()I"⟩) ∈ TB := tb_in (List.mem_of_getElem? (i := 720) (by decide +kernel)) (by decide +kernel)
theorem k_721 : (Cond.code ⟨"TileScreenModel", "thrown", "()I"⟩ prog_11_method_2_code 1 (some .int)) ∈ TB := tb_in (List.mem_of_getElem? (i := 721) (by decide +kernel)) (by decide +kernel)
theorem k_722 : (Cond.methodLink "TileScreenLaw" 25 ⟨"TileScreenModel", "fill", "(IIIII)Z"⟩) ∈ TB := tb_in (List.mem_of_getElem? (i := 722) (by decide +kernel)) (by decide +kernel)
theorem k_723 : (Cond.instanceMethod ⟨"TileScreenModel", "fill", "(IIIII)Z"⟩) ∈ TB := tb_in (List.mem_of_getElem? (i := 723) (by decide +kernel)) (by decide +kernel)
theorem k_724 : (Cond.selects "TileScreenModel" ⟨"TileScreenModel", "fill", "(IIIII)Z"⟩ ⟨"TileScreenModel", "fill", "(IIIII)Z"⟩) ∈ TB := tb_in (List.mem_of_getElem? (i := 724) (by decide +kernel)) (by decide +kernel)
theorem k_725 : (Cond.code ⟨"TileScreenModel", "fill", "(IIIII)Z"⟩ prog_11_method_9_code 7 (some .boolean)) ∈ TB := tb_in (List.mem_of_getElem? (i := 725) (by decide +kernel)) (by decide +kernel)
theorem k_726 : (Cond.methodLink "TileScreenModel" 83 ⟨"TileScreenModel", "isRect", "(IIII)Z"⟩) ∈ TB := tb_in (List.mem_of_getElem? (i := 726) (by decide +kernel)) (by decide +kernel)
theorem k_727 : (Cond.static ⟨"TileScreenModel", "isRect", "(IIII)Z"⟩) ∈ TB := tb_in (List.mem_of_getElem? (i := 727) (by decide +kernel)) (by decide +kernel)
theorem k_728 : (Cond.code ⟨"TileScreenModel", "isRect", "(IIII)Z"⟩ prog_11_method_6_code 4 (some .boolean)) ∈ TB := tb_in (List.mem_of_getElem? (i := 728) (by decide +kernel)) (by decide +kernel)
theorem k_729 : (Cond.methodLink "TileScreenModel" 87 ⟨"TileScreenModel", "isColour", "(I)Z"⟩) ∈ TB := tb_in (List.mem_of_getElem? (i := 729) (by decide +kernel)) (by decide +kernel)
theorem k_730 : (Cond.static ⟨"TileScreenModel", "isColour", "(I)Z"⟩) ∈ TB := tb_in (List.mem_of_getElem? (i := 730) (by decide +kernel)) (by decide +kernel)
theorem k_731 : (Cond.code ⟨"TileScreenModel", "isColour", "(I)Z"⟩ prog_11_method_7_code 1 (some .boolean)) ∈ TB := tb_in (List.mem_of_getElem? (i := 731) (by decide +kernel)) (by decide +kernel)
theorem k_732 : (Cond.constant "TileScreenModel" 82 65536) ∈ TB := tb_in (List.mem_of_getElem? (i := 732) (by decide +kernel)) (by decide +kernel)
theorem k_733 : (Cond.methodLink "TileScreenLaw" 30 ⟨"TileScreenModel", "blit", "(IIII)Z"⟩) ∈ TB := tb_in (List.mem_of_getElem? (i := 733) (by decide +kernel)) (by decide +kernel)
theorem k_734 : (Cond.instanceMethod ⟨"TileScreenModel", "blit", "(IIII)Z"⟩) ∈ TB := tb_in (List.mem_of_getElem? (i := 734) (by decide +kernel)) (by decide +kernel)
theorem k_735 : (Cond.selects "TileScreenModel" ⟨"TileScreenModel", "blit", "(IIII)Z"⟩ ⟨"TileScreenModel", "blit", "(IIII)Z"⟩) ∈ TB := tb_in (List.mem_of_getElem? (i := 735) (by decide +kernel)) (by decide +kernel)
theorem k_736 : (Cond.code ⟨"TileScreenModel", "blit", "(IIII)Z"⟩ prog_11_method_10_code 8 (some .boolean)) ∈ TB := tb_in (List.mem_of_getElem? (i := 736) (by decide +kernel)) (by decide +kernel)
theorem k_737 : (Cond.methodLink "TileScreenModel" 91 ⟨"TileScreenModel", "become", "(II)V"⟩) ∈ TB := tb_in (List.mem_of_getElem? (i := 737) (by decide +kernel)) (by decide +kernel)
theorem k_739 : (Cond.instanceMethod ⟨"TileScreenModel", "become", "(II)V"⟩) ∈ TB := tb_in (List.mem_of_getElem? (i := 739) (by decide +kernel)) (by decide +kernel)
theorem k_740 : (Cond.code ⟨"TileScreenModel", "become", "(II)V"⟩ prog_11_method_4_code 4 none) ∈ TB := tb_in (List.mem_of_getElem? (i := 740) (by decide +kernel)) (by decide +kernel)
theorem k_741 : (Cond.methodLink "TileScreenLaw" 34 ⟨"TileScreenModel", "shade", "(IIII)Z"⟩) ∈ TB := tb_in (List.mem_of_getElem? (i := 741) (by decide +kernel)) (by decide +kernel)
theorem k_742 : (Cond.instanceMethod ⟨"TileScreenModel", "shade", "(IIII)Z"⟩) ∈ TB := tb_in (List.mem_of_getElem? (i := 742) (by decide +kernel)) (by decide +kernel)
theorem k_743 : (Cond.selects "TileScreenModel" ⟨"TileScreenModel", "shade", "(IIII)Z"⟩ ⟨"TileScreenModel", "shade", "(IIII)Z"⟩) ∈ TB := tb_in (List.mem_of_getElem? (i := 743) (by decide +kernel)) (by decide +kernel)
theorem k_744 : (Cond.code ⟨"TileScreenModel", "shade", "(IIII)Z"⟩ prog_11_method_11_code 6 (some .boolean)) ∈ TB := tb_in (List.mem_of_getElem? (i := 744) (by decide +kernel)) (by decide +kernel)
theorem k_745 : (Cond.methodLink "TileScreenModel" 78 ⟨"TileScreenModel", "spot", "(III)I"⟩) ∈ TB := tb_in (List.mem_of_getElem? (i := 745) (by decide +kernel)) (by decide +kernel)
theorem k_746 : (Cond.static ⟨"TileScreenModel", "spot", "(III)I"⟩) ∈ TB := tb_in (List.mem_of_getElem? (i := 746) (by decide +kernel)) (by decide +kernel)
theorem k_747 : (Cond.code ⟨"TileScreenModel", "spot", "(III)I"⟩ prog_11_method_3_code 3 (some .int)) ∈ TB := tb_in (List.mem_of_getElem? (i := 747) (by decide +kernel)) (by decide +kernel)
theorem k_748 : (Cond.constant "TileScreenModel" 95 65535) ∈ TB := tb_in (List.mem_of_getElem? (i := 748) (by decide +kernel)) (by decide +kernel)
theorem k_749 : (Cond.methodLink "TileScreenLaw" 39 ⟨"TileScreenModel", "frame", "()I"⟩) ∈ TB := tb_in (List.mem_of_getElem? (i := 749) (by decide +kernel)) (by decide +kernel)
theorem k_750 : (Cond.instanceMethod ⟨"TileScreenModel", "frame", "()I"⟩) ∈ TB := tb_in (List.mem_of_getElem? (i := 750) (by decide +kernel)) (by decide +kernel)
theorem k_751 : (Cond.selects "TileScreenModel" ⟨"TileScreenModel", "frame", "()I"⟩ ⟨"TileScreenModel", "frame", "()I"⟩) ∈ TB := tb_in (List.mem_of_getElem? (i := 751) (by decide +kernel)) (by decide +kernel)
theorem k_752 : (Cond.code ⟨"TileScreenModel", "frame", "()I"⟩ prog_11_method_12_code 1 (some .int)) ∈ TB := tb_in (List.mem_of_getElem? (i := 752) (by decide +kernel)) (by decide +kernel)
theorem k_753 : (Cond.methodLink "TileScreenLaw" 44 ⟨"TileScreenModel", "join", "(I)Z"⟩) ∈ TB := tb_in (List.mem_of_getElem? (i := 753) (by decide +kernel)) (by decide +kernel)
theorem k_754 : (Cond.instanceMethod ⟨"TileScreenModel", "join", "(I)Z"⟩) ∈ TB := tb_in (List.mem_of_getElem? (i := 754) (by decide +kernel)) (by decide +kernel)
theorem k_755 : (Cond.selects "TileScreenModel" ⟨"TileScreenModel", "join", "(I)Z"⟩ ⟨"TileScreenModel", "join", "(I)Z"⟩) ∈ TB := tb_in (List.mem_of_getElem? (i := 755) (by decide +kernel)) (by decide +kernel)
theorem k_756 : (Cond.code ⟨"TileScreenModel", "join", "(I)Z"⟩ prog_11_method_13_code 3 (some .boolean)) ∈ TB := tb_in (List.mem_of_getElem? (i := 756) (by decide +kernel)) (by decide +kernel)
theorem k_757 : (Cond.methodLink "TileScreenModel" 99 ⟨"TileScreenModel", "isViewer", "(I)Z"⟩) ∈ TB := tb_in (List.mem_of_getElem? (i := 757) (by decide +kernel)) (by decide +kernel)
theorem k_758 : (Cond.static ⟨"TileScreenModel", "isViewer", "(I)Z"⟩) ∈ TB := tb_in (List.mem_of_getElem? (i := 758) (by decide +kernel)) (by decide +kernel)
theorem k_759 : (Cond.code ⟨"TileScreenModel", "isViewer", "(I)Z"⟩ prog_11_method_8_code 1 (some .boolean)) ∈ TB := tb_in (List.mem_of_getElem? (i := 759) (by decide +kernel)) (by decide +kernel)
theorem k_760 : (Cond.methodLink "TileScreenLaw" 48 ⟨"TileScreenModel", "cut", "(I)Z"⟩) ∈ TB := tb_in (List.mem_of_getElem? (i := 760) (by decide +kernel)) (by decide +kernel)
theorem k_761 : (Cond.instanceMethod ⟨"TileScreenModel", "cut", "(I)Z"⟩) ∈ TB := tb_in (List.mem_of_getElem? (i := 761) (by decide +kernel)) (by decide +kernel)
theorem k_762 : (Cond.selects "TileScreenModel" ⟨"TileScreenModel", "cut", "(I)Z"⟩ ⟨"TileScreenModel", "cut", "(I)Z"⟩) ∈ TB := tb_in (List.mem_of_getElem? (i := 762) (by decide +kernel)) (by decide +kernel)
theorem k_763 : (Cond.code ⟨"TileScreenModel", "cut", "(I)Z"⟩ prog_11_method_15_code 3 (some .boolean)) ∈ TB := tb_in (List.mem_of_getElem? (i := 763) (by decide +kernel)) (by decide +kernel)
theorem k_764 : (Cond.methodLink "TileScreenModel" 102 ⟨"TileScreenModel", "leave", "(I)V"⟩) ∈ TB := tb_in (List.mem_of_getElem? (i := 764) (by decide +kernel)) (by decide +kernel)
theorem k_766 : (Cond.instanceMethod ⟨"TileScreenModel", "leave", "(I)V"⟩) ∈ TB := tb_in (List.mem_of_getElem? (i := 766) (by decide +kernel)) (by decide +kernel)
theorem k_767 : (Cond.code ⟨"TileScreenModel", "leave", "(I)V"⟩ prog_11_method_14_code 2 none) ∈ TB := tb_in (List.mem_of_getElem? (i := 767) (by decide +kernel)) (by decide +kernel)
theorem k_768 : (Cond.methodLink "TileScreenLaw" 54 ⟨"TileScreenModel", "credit", "(II)I"⟩) ∈ TB := tb_in (List.mem_of_getElem? (i := 768) (by decide +kernel)) (by decide +kernel)
theorem k_769 : (Cond.instanceMethod ⟨"TileScreenModel", "credit", "(II)I"⟩) ∈ TB := tb_in (List.mem_of_getElem? (i := 769) (by decide +kernel)) (by decide +kernel)
theorem k_770 : (Cond.selects "TileScreenModel" ⟨"TileScreenModel", "credit", "(II)I"⟩ ⟨"TileScreenModel", "credit", "(II)I"⟩) ∈ TB := tb_in (List.mem_of_getElem? (i := 770) (by decide +kernel)) (by decide +kernel)
theorem k_771 : (Cond.code ⟨"TileScreenModel", "credit", "(II)I"⟩ prog_11_method_16_code 3 (some .int)) ∈ TB := tb_in (List.mem_of_getElem? (i := 771) (by decide +kernel)) (by decide +kernel)
theorem k_772 : (Cond.constant "TileScreenModel" 106 1000000) ∈ TB := tb_in (List.mem_of_getElem? (i := 772) (by decide +kernel)) (by decide +kernel)
theorem k_773 : (Cond.methodLink "TileScreenLaw" 62 ⟨"TileScreenModel", "pump", "(I)I"⟩) ∈ TB := tb_in (List.mem_of_getElem? (i := 773) (by decide +kernel)) (by decide +kernel)
theorem k_774 : (Cond.instanceMethod ⟨"TileScreenModel", "pump", "(I)I"⟩) ∈ TB := tb_in (List.mem_of_getElem? (i := 774) (by decide +kernel)) (by decide +kernel)
theorem k_775 : (Cond.selects "TileScreenModel" ⟨"TileScreenModel", "pump", "(I)I"⟩ ⟨"TileScreenModel", "pump", "(I)I"⟩) ∈ TB := tb_in (List.mem_of_getElem? (i := 775) (by decide +kernel)) (by decide +kernel)
theorem k_776 : (Cond.code ⟨"TileScreenModel", "pump", "(I)I"⟩ prog_11_method_36_code 4 (some .int)) ∈ TB := tb_in (List.mem_of_getElem? (i := 776) (by decide +kernel)) (by decide +kernel)
theorem k_777 : (Cond.methodLink "TileScreenModel" 176 ⟨"TileScreenModel", "compose", "(I)V"⟩) ∈ TB := tb_in (List.mem_of_getElem? (i := 777) (by decide +kernel)) (by decide +kernel)
theorem k_779 : (Cond.instanceMethod ⟨"TileScreenModel", "compose", "(I)V"⟩) ∈ TB := tb_in (List.mem_of_getElem? (i := 779) (by decide +kernel)) (by decide +kernel)
theorem k_780 : (Cond.code ⟨"TileScreenModel", "compose", "(I)V"⟩ prog_11_method_28_code 6 none) ∈ TB := tb_in (List.mem_of_getElem? (i := 780) (by decide +kernel)) (by decide +kernel)
theorem k_781 : (Cond.methodLink "TileScreenModel" 138 ⟨"TileScreenModel", "send", "(II)V"⟩) ∈ TB := tb_in (List.mem_of_getElem? (i := 781) (by decide +kernel)) (by decide +kernel)
theorem k_783 : (Cond.instanceMethod ⟨"TileScreenModel", "send", "(II)V"⟩) ∈ TB := tb_in (List.mem_of_getElem? (i := 783) (by decide +kernel)) (by decide +kernel)
theorem k_784 : (Cond.code ⟨"TileScreenModel", "send", "(II)V"⟩ prog_11_method_27_code 3 none) ∈ TB := tb_in (List.mem_of_getElem? (i := 784) (by decide +kernel)) (by decide +kernel)
theorem k_785 : (Cond.methodLink "TileScreenModel" 120 ⟨"TileScreenModel", "sameTile", "(IIII)Z"⟩) ∈ TB := tb_in (List.mem_of_getElem? (i := 785) (by decide +kernel)) (by decide +kernel)
theorem k_787 : (Cond.instanceMethod ⟨"TileScreenModel", "sameTile", "(IIII)Z"⟩) ∈ TB := tb_in (List.mem_of_getElem? (i := 787) (by decide +kernel)) (by decide +kernel)
theorem k_788 : (Cond.code ⟨"TileScreenModel", "sameTile", "(IIII)Z"⟩ prog_11_method_5_code 7 (some .boolean)) ∈ TB := tb_in (List.mem_of_getElem? (i := 788) (by decide +kernel)) (by decide +kernel)
theorem k_789 : (Cond.methodLink "TileScreenModel" 141 ⟨"TileScreenModel", "findColours", "()V"⟩) ∈ TB := tb_in (List.mem_of_getElem? (i := 789) (by decide +kernel)) (by decide +kernel)
theorem k_791 : (Cond.instanceMethod ⟨"TileScreenModel", "findColours", "()V"⟩) ∈ TB := tb_in (List.mem_of_getElem? (i := 791) (by decide +kernel)) (by decide +kernel)
theorem k_792 : (Cond.code ⟨"TileScreenModel", "findColours", "()V"⟩ prog_11_method_19_code 2 none) ∈ TB := tb_in (List.mem_of_getElem? (i := 792) (by decide +kernel)) (by decide +kernel)
theorem k_793 : (Cond.methodLink "TileScreenModel" 116 ⟨"TileScreenModel", "numberOf", "(I)I"⟩) ∈ TB := tb_in (List.mem_of_getElem? (i := 793) (by decide +kernel)) (by decide +kernel)
theorem k_795 : (Cond.instanceMethod ⟨"TileScreenModel", "numberOf", "(I)I"⟩) ∈ TB := tb_in (List.mem_of_getElem? (i := 795) (by decide +kernel)) (by decide +kernel)
theorem k_796 : (Cond.code ⟨"TileScreenModel", "numberOf", "(I)I"⟩ prog_11_method_20_code 3 (some .int)) ∈ TB := tb_in (List.mem_of_getElem? (i := 796) (by decide +kernel)) (by decide +kernel)
theorem k_797 : (Cond.methodLink "TileScreenModel" 144 ⟨"TileScreenModel", "write", "(III)Z"⟩) ∈ TB := tb_in (List.mem_of_getElem? (i := 797) (by decide +kernel)) (by decide +kernel)
theorem k_799 : (Cond.instanceMethod ⟨"TileScreenModel", "write", "(III)Z"⟩) ∈ TB := tb_in (List.mem_of_getElem? (i := 799) (by decide +kernel)) (by decide +kernel)
theorem k_800 : (Cond.code ⟨"TileScreenModel", "write", "(III)Z"⟩ prog_11_method_25_code 7 (some .boolean)) ∈ TB := tb_in (List.mem_of_getElem? (i := 800) (by decide +kernel)) (by decide +kernel)
theorem k_801 : (Cond.methodLink "TileScreenModel" 110 ⟨"TileScreenModel", "put", "(I)V"⟩) ∈ TB := tb_in (List.mem_of_getElem? (i := 801) (by decide +kernel)) (by decide +kernel)
theorem k_803 : (Cond.instanceMethod ⟨"TileScreenModel", "put", "(I)V"⟩) ∈ TB := tb_in (List.mem_of_getElem? (i := 803) (by decide +kernel)) (by decide +kernel)
theorem k_804 : (Cond.code ⟨"TileScreenModel", "put", "(I)V"⟩ prog_11_method_17_code 2 none) ∈ TB := tb_in (List.mem_of_getElem? (i := 804) (by decide +kernel)) (by decide +kernel)
theorem k_805 : (Cond.methodLink "TileScreenModel" 126 ⟨"TileScreenModel", "likeTile", "(I)I"⟩) ∈ TB := tb_in (List.mem_of_getElem? (i := 805) (by decide +kernel)) (by decide +kernel)
theorem k_807 : (Cond.instanceMethod ⟨"TileScreenModel", "likeTile", "(I)I"⟩) ∈ TB := tb_in (List.mem_of_getElem? (i := 807) (by decide +kernel)) (by decide +kernel)
theorem k_808 : (Cond.code ⟨"TileScreenModel", "likeTile", "(I)I"⟩ prog_11_method_21_code 3 (some .int)) ∈ TB := tb_in (List.mem_of_getElem? (i := 808) (by decide +kernel)) (by decide +kernel)
theorem k_809 : (Cond.methodLink "TileScreenModel" 129 ⟨"TileScreenModel", "likeEntry", "(I)I"⟩) ∈ TB := tb_in (List.mem_of_getElem? (i := 809) (by decide +kernel)) (by decide +kernel)
theorem k_811 : (Cond.instanceMethod ⟨"TileScreenModel", "likeEntry", "(I)I"⟩) ∈ TB := tb_in (List.mem_of_getElem? (i := 811) (by decide +kernel)) (by decide +kernel)
theorem k_812 : (Cond.code ⟨"TileScreenModel", "likeEntry", "(I)I"⟩ prog_11_method_22_code 5 (some .int)) ∈ TB := tb_in (List.mem_of_getElem? (i := 812) (by decide +kernel)) (by decide +kernel)
theorem k_813 : (Cond.methodLink "TileScreenModel" 123 ⟨"TileScreenModel", "putTwo", "(I)V"⟩) ∈ TB := tb_in (List.mem_of_getElem? (i := 813) (by decide +kernel)) (by decide +kernel)
theorem k_815 : (Cond.instanceMethod ⟨"TileScreenModel", "putTwo", "(I)V"⟩) ∈ TB := tb_in (List.mem_of_getElem? (i := 815) (by decide +kernel)) (by decide +kernel)
theorem k_816 : (Cond.code ⟨"TileScreenModel", "putTwo", "(I)V"⟩ prog_11_method_18_code 2 none) ∈ TB := tb_in (List.mem_of_getElem? (i := 816) (by decide +kernel)) (by decide +kernel)
theorem k_817 : (Cond.methodLink "TileScreenModel" 132 ⟨"TileScreenModel", "putBits", "(I)V"⟩) ∈ TB := tb_in (List.mem_of_getElem? (i := 817) (by decide +kernel)) (by decide +kernel)
theorem k_819 : (Cond.instanceMethod ⟨"TileScreenModel", "putBits", "(I)V"⟩) ∈ TB := tb_in (List.mem_of_getElem? (i := 819) (by decide +kernel)) (by decide +kernel)
theorem k_820 : (Cond.code ⟨"TileScreenModel", "putBits", "(I)V"⟩ prog_11_method_23_code 4 none) ∈ TB := tb_in (List.mem_of_getElem? (i := 820) (by decide +kernel)) (by decide +kernel)
theorem k_821 : (Cond.methodLink "TileScreenModel" 135 ⟨"TileScreenModel", "putRuns", "()V"⟩) ∈ TB := tb_in (List.mem_of_getElem? (i := 821) (by decide +kernel)) (by decide +kernel)
theorem k_823 : (Cond.instanceMethod ⟨"TileScreenModel", "putRuns", "()V"⟩) ∈ TB := tb_in (List.mem_of_getElem? (i := 823) (by decide +kernel)) (by decide +kernel)
theorem k_824 : (Cond.code ⟨"TileScreenModel", "putRuns", "()V"⟩ prog_11_method_24_code 5 none) ∈ TB := tb_in (List.mem_of_getElem? (i := 824) (by decide +kernel)) (by decide +kernel)
theorem k_825 : (Cond.methodLink "TileScreenModel" 148 ⟨"TileScreenModel", "keep", "(I)V"⟩) ∈ TB := tb_in (List.mem_of_getElem? (i := 825) (by decide +kernel)) (by decide +kernel)
theorem k_827 : (Cond.instanceMethod ⟨"TileScreenModel", "keep", "(I)V"⟩) ∈ TB := tb_in (List.mem_of_getElem? (i := 827) (by decide +kernel)) (by decide +kernel)
theorem k_828 : (Cond.code ⟨"TileScreenModel", "keep", "(I)V"⟩ prog_11_method_26_code 3 none) ∈ TB := tb_in (List.mem_of_getElem? (i := 828) (by decide +kernel)) (by decide +kernel)
theorem k_829 : (Cond.methodLink "TileScreenModel" 179 ⟨"TileScreenModel", "take", "(II)Z"⟩) ∈ TB := tb_in (List.mem_of_getElem? (i := 829) (by decide +kernel)) (by decide +kernel)
theorem k_831 : (Cond.instanceMethod ⟨"TileScreenModel", "take", "(II)Z"⟩) ∈ TB := tb_in (List.mem_of_getElem? (i := 831) (by decide +kernel)) (by decide +kernel)
theorem k_832 : (Cond.code ⟨"TileScreenModel", "take", "(II)Z"⟩ prog_11_method_35_code 7 (some .boolean)) ∈ TB := tb_in (List.mem_of_getElem? (i := 832) (by decide +kernel)) (by decide +kernel)
theorem k_833 : (Cond.methodLink "TileScreenModel" 173 ⟨"TileScreenModel", "whole", "(I)Z"⟩) ∈ TB := tb_in (List.mem_of_getElem? (i := 833) (by decide +kernel)) (by decide +kernel)
theorem k_835 : (Cond.instanceMethod ⟨"TileScreenModel", "whole", "(I)Z"⟩) ∈ TB := tb_in (List.mem_of_getElem? (i := 835) (by decide +kernel)) (by decide +kernel)
theorem k_836 : (Cond.code ⟨"TileScreenModel", "whole", "(I)Z"⟩ prog_11_method_34_code 7 (some .boolean)) ∈ TB := tb_in (List.mem_of_getElem? (i := 836) (by decide +kernel)) (by decide +kernel)
theorem k_837 : (Cond.methodLink "TileScreenModel" 160 ⟨"TileScreenModel", "getTwo", "(I)I"⟩) ∈ TB := tb_in (List.mem_of_getElem? (i := 837) (by decide +kernel)) (by decide +kernel)
theorem k_839 : (Cond.instanceMethod ⟨"TileScreenModel", "getTwo", "(I)I"⟩) ∈ TB := tb_in (List.mem_of_getElem? (i := 839) (by decide +kernel)) (by decide +kernel)
theorem k_840 : (Cond.code ⟨"TileScreenModel", "getTwo", "(I)I"⟩ prog_11_method_30_code 3 (some .int)) ∈ TB := tb_in (List.mem_of_getElem? (i := 840) (by decide +kernel)) (by decide +kernel)
theorem k_841 : (Cond.methodLink "TileScreenModel" 157 ⟨"TileScreenModel", "get", "(I)I"⟩) ∈ TB := tb_in (List.mem_of_getElem? (i := 841) (by decide +kernel)) (by decide +kernel)
theorem k_843 : (Cond.instanceMethod ⟨"TileScreenModel", "get", "(I)I"⟩) ∈ TB := tb_in (List.mem_of_getElem? (i := 843) (by decide +kernel)) (by decide +kernel)
theorem k_844 : (Cond.code ⟨"TileScreenModel", "get", "(I)I"⟩ prog_11_method_29_code 3 (some .int)) ∈ TB := tb_in (List.mem_of_getElem? (i := 844) (by decide +kernel)) (by decide +kernel)
theorem k_845 : (Cond.methodLink "TileScreenModel" 169 ⟨"TileScreenModel", "read", "(II)Z"⟩) ∈ TB := tb_in (List.mem_of_getElem? (i := 845) (by decide +kernel)) (by decide +kernel)
theorem k_847 : (Cond.instanceMethod ⟨"TileScreenModel", "read", "(II)Z"⟩) ∈ TB := tb_in (List.mem_of_getElem? (i := 847) (by decide +kernel)) (by decide +kernel)
theorem k_848 : (Cond.code ⟨"TileScreenModel", "read", "(II)Z"⟩ prog_11_method_31_code 8 (some .boolean)) ∈ TB := tb_in (List.mem_of_getElem? (i := 848) (by decide +kernel)) (by decide +kernel)
theorem k_849 : (Cond.methodLink "TileScreenModel" 163 ⟨"TileScreenModel", "readLike", "(III)Z"⟩) ∈ TB := tb_in (List.mem_of_getElem? (i := 849) (by decide +kernel)) (by decide +kernel)
theorem k_851 : (Cond.instanceMethod ⟨"TileScreenModel", "readLike", "(III)Z"⟩) ∈ TB := tb_in (List.mem_of_getElem? (i := 851) (by decide +kernel)) (by decide +kernel)
theorem k_852 : (Cond.code ⟨"TileScreenModel", "readLike", "(III)Z"⟩ prog_11_method_32_code 5 (some .boolean)) ∈ TB := tb_in (List.mem_of_getElem? (i := 852) (by decide +kernel)) (by decide +kernel)
theorem k_853 : (Cond.methodLink "TileScreenModel" 166 ⟨"TileScreenModel", "readRuns", "(I)Z"⟩) ∈ TB := tb_in (List.mem_of_getElem? (i := 853) (by decide +kernel)) (by decide +kernel)
theorem k_855 : (Cond.instanceMethod ⟨"TileScreenModel", "readRuns", "(I)Z"⟩) ∈ TB := tb_in (List.mem_of_getElem? (i := 855) (by decide +kernel)) (by decide +kernel)
theorem k_856 : (Cond.code ⟨"TileScreenModel", "readRuns", "(I)Z"⟩ prog_11_method_33_code 8 (some .boolean)) ∈ TB := tb_in (List.mem_of_getElem? (i := 856) (by decide +kernel)) (by decide +kernel)
theorem k_857 : (Cond.methodLink "TileScreenLaw" 67 ⟨"TileScreenModel", "poison", "(III)Z"⟩) ∈ TB := tb_in (List.mem_of_getElem? (i := 857) (by decide +kernel)) (by decide +kernel)
theorem k_858 : (Cond.instanceMethod ⟨"TileScreenModel", "poison", "(III)Z"⟩) ∈ TB := tb_in (List.mem_of_getElem? (i := 858) (by decide +kernel)) (by decide +kernel)
theorem k_859 : (Cond.selects "TileScreenModel" ⟨"TileScreenModel", "poison", "(III)Z"⟩ ⟨"TileScreenModel", "poison", "(III)Z"⟩) ∈ TB := tb_in (List.mem_of_getElem? (i := 859) (by decide +kernel)) (by decide +kernel)
theorem k_860 : (Cond.code ⟨"TileScreenModel", "poison", "(III)Z"⟩ prog_11_method_37_code 4 (some .boolean)) ∈ TB := tb_in (List.mem_of_getElem? (i := 860) (by decide +kernel)) (by decide +kernel)
theorem k_861 : (Cond.methodLink "TileScreenLaw" 71 ⟨"TileScreenModel", "shown", "(I)I"⟩) ∈ TB := tb_in (List.mem_of_getElem? (i := 861) (by decide +kernel)) (by decide +kernel)
theorem k_862 : (Cond.instanceMethod ⟨"TileScreenModel", "shown", "(I)I"⟩) ∈ TB := tb_in (List.mem_of_getElem? (i := 862) (by decide +kernel)) (by decide +kernel)
theorem k_863 : (Cond.selects "TileScreenModel" ⟨"TileScreenModel", "shown", "(I)I"⟩ ⟨"TileScreenModel", "shown", "(I)I"⟩) ∈ TB := tb_in (List.mem_of_getElem? (i := 863) (by decide +kernel)) (by decide +kernel)
theorem k_864 : (Cond.code ⟨"TileScreenModel", "shown", "(I)I"⟩ prog_11_method_38_code 2 (some .int)) ∈ TB := tb_in (List.mem_of_getElem? (i := 864) (by decide +kernel)) (by decide +kernel)
theorem k_865 : (Cond.methodLink "TileScreenLaw" 76 ⟨"TileScreenModel", "at", "(III)I"⟩) ∈ TB := tb_in (List.mem_of_getElem? (i := 865) (by decide +kernel)) (by decide +kernel)
theorem k_866 : (Cond.instanceMethod ⟨"TileScreenModel", "at", "(III)I"⟩) ∈ TB := tb_in (List.mem_of_getElem? (i := 866) (by decide +kernel)) (by decide +kernel)
theorem k_867 : (Cond.selects "TileScreenModel" ⟨"TileScreenModel", "at", "(III)I"⟩ ⟨"TileScreenModel", "at", "(III)I"⟩) ∈ TB := tb_in (List.mem_of_getElem? (i := 867) (by decide +kernel)) (by decide +kernel)
theorem k_868 : (Cond.code ⟨"TileScreenModel", "at", "(III)I"⟩ prog_11_method_39_code 4 (some .int)) ∈ TB := tb_in (List.mem_of_getElem? (i := 868) (by decide +kernel)) (by decide +kernel)
theorem k_869 : (Cond.methodLink "TileScreenLaw" 80 ⟨"TileScreenModel", "about", "(II)I"⟩) ∈ TB := tb_in (List.mem_of_getElem? (i := 869) (by decide +kernel)) (by decide +kernel)
theorem k_870 : (Cond.instanceMethod ⟨"TileScreenModel", "about", "(II)I"⟩) ∈ TB := tb_in (List.mem_of_getElem? (i := 870) (by decide +kernel)) (by decide +kernel)
theorem k_871 : (Cond.selects "TileScreenModel" ⟨"TileScreenModel", "about", "(II)I"⟩ ⟨"TileScreenModel", "about", "(II)I"⟩) ∈ TB := tb_in (List.mem_of_getElem? (i := 871) (by decide +kernel)) (by decide +kernel)
theorem k_872 : (Cond.code ⟨"TileScreenModel", "about", "(II)I"⟩ prog_11_method_40_code 5 (some .int)) ∈ TB := tb_in (List.mem_of_getElem? (i := 872) (by decide +kernel)) (by decide +kernel)
theorem k_873 : (Cond.methodLink "TileScreenLaw" 84 ⟨"TileScreenModel", "bytesBy", "(II)I"⟩) ∈ TB := tb_in (List.mem_of_getElem? (i := 873) (by decide +kernel)) (by decide +kernel)
theorem k_874 : (Cond.instanceMethod ⟨"TileScreenModel", "bytesBy", "(II)I"⟩) ∈ TB := tb_in (List.mem_of_getElem? (i := 874) (by decide +kernel)) (by decide +kernel)
theorem k_875 : (Cond.selects "TileScreenModel" ⟨"TileScreenModel", "bytesBy", "(II)I"⟩ ⟨"TileScreenModel", "bytesBy", "(II)I"⟩) ∈ TB := tb_in (List.mem_of_getElem? (i := 875) (by decide +kernel)) (by decide +kernel)
theorem k_876 : (Cond.code ⟨"TileScreenModel", "bytesBy", "(II)I"⟩ prog_11_method_41_code 3 (some .int)) ∈ TB := tb_in (List.mem_of_getElem? (i := 876) (by decide +kernel)) (by decide +kernel)
theorem k_877 : (Cond.methodLink "TileScreenLaw" 88 ⟨"TileScreenModel", "onLine", "(II)I"⟩) ∈ TB := tb_in (List.mem_of_getElem? (i := 877) (by decide +kernel)) (by decide +kernel)
theorem k_878 : (Cond.instanceMethod ⟨"TileScreenModel", "onLine", "(II)I"⟩) ∈ TB := tb_in (List.mem_of_getElem? (i := 878) (by decide +kernel)) (by decide +kernel)
theorem k_879 : (Cond.selects "TileScreenModel" ⟨"TileScreenModel", "onLine", "(II)I"⟩ ⟨"TileScreenModel", "onLine", "(II)I"⟩) ∈ TB := tb_in (List.mem_of_getElem? (i := 879) (by decide +kernel)) (by decide +kernel)
theorem k_880 : (Cond.code ⟨"TileScreenModel", "onLine", "(II)I"⟩ prog_11_method_42_code 3 (some .int)) ∈ TB := tb_in (List.mem_of_getElem? (i := 880) (by decide +kernel)) (by decide +kernel)
theorem k_881 : (Cond.arrayClass .long) ∈ TB := tb_in (List.mem_of_getElem? (i := 881) (by decide +kernel)) (by decide +kernel)
theorem s_0 : (Cond.selects "TileScreen$Feed" ⟨"TileScreen$Feed", "addRecord", "(LTileScreen$Tiles;I)V"⟩ ⟨"TileScreen$Feed", "addRecord", "(LTileScreen$Tiles;I)V"⟩) ∈ TB := tb_sel (by decide +kernel) (by decide +kernel)
theorem s_1 : (Cond.selects "TileScreen$Look" ⟨"TileScreen$Look", "meet", "(I)V"⟩ ⟨"TileScreen$Look", "meet", "(I)V"⟩) ∈ TB := tb_sel (by decide +kernel) (by decide +kernel)
theorem s_2 : (Cond.selects "TileScreen$Feed" ⟨"TileScreen$Feed", "chooseKind", "()I"⟩ ⟨"TileScreen$Feed", "chooseKind", "()I"⟩) ∈ TB := tb_sel (by decide +kernel) (by decide +kernel)
theorem s_3 : (Cond.selects "TileScreen$Feed" ⟨"TileScreen$Feed", "isFit", "(I)Z"⟩ ⟨"TileScreen$Feed", "isFit", "(I)Z"⟩) ∈ TB := tb_sel (by decide +kernel) (by decide +kernel)
theorem s_4 : (Cond.selects "TileScreen$Feed" ⟨"TileScreen$Feed", "lengthOf", "(I)I"⟩ ⟨"TileScreen$Feed", "lengthOf", "(I)I"⟩) ∈ TB := tb_sel (by decide +kernel) (by decide +kernel)
theorem s_5 : (Cond.selects "TileScreen$Feed" ⟨"TileScreen$Feed", "addContent", "(ILTileScreen$Tiles;I)V"⟩ ⟨"TileScreen$Feed", "addContent", "(ILTileScreen$Tiles;I)V"⟩) ∈ TB := tb_sel (by decide +kernel) (by decide +kernel)
theorem s_6 : (Cond.selects "TileScreen$Feed" ⟨"TileScreen$Feed", "addPalette", "()V"⟩ ⟨"TileScreen$Feed", "addPalette", "()V"⟩) ∈ TB := tb_sel (by decide +kernel) (by decide +kernel)
theorem s_7 : (Cond.selects "TileScreen$Feed" ⟨"TileScreen$Feed", "addBits", "(LTileScreen$Tiles;II)V"⟩ ⟨"TileScreen$Feed", "addBits", "(LTileScreen$Tiles;II)V"⟩) ∈ TB := tb_sel (by decide +kernel) (by decide +kernel)
theorem s_8 : (Cond.selects "TileScreen$Feed" ⟨"TileScreen$Feed", "addRuns", "(LTileScreen$Tiles;I)V"⟩ ⟨"TileScreen$Feed", "addRuns", "(LTileScreen$Tiles;I)V"⟩) ∈ TB := tb_sel (by decide +kernel) (by decide +kernel)
theorem s_9 : (Cond.selects "TileScreen$Feed" ⟨"TileScreen$Feed", "addRaw", "(LTileScreen$Tiles;I)V"⟩ ⟨"TileScreen$Feed", "addRaw", "(LTileScreen$Tiles;I)V"⟩) ∈ TB := tb_sel (by decide +kernel) (by decide +kernel)
theorem s_10 : (Cond.selects "TileScreen$Display" ⟨"TileScreen$Display", "readUpdate", "()Z"⟩ ⟨"TileScreen$Display", "readUpdate", "()Z"⟩) ∈ TB := tb_sel (by decide +kernel) (by decide +kernel)
theorem s_11 : (Cond.selects "TileScreen$Display" ⟨"TileScreen$Display", "pairAt", "(I)I"⟩ ⟨"TileScreen$Display", "pairAt", "(I)I"⟩) ∈ TB := tb_sel (by decide +kernel) (by decide +kernel)
theorem s_12 : (Cond.selects "TileScreen$Display" ⟨"TileScreen$Display", "readRecord", "()V"⟩ ⟨"TileScreen$Display", "readRecord", "()V"⟩) ∈ TB := tb_sel (by decide +kernel) (by decide +kernel)
theorem s_13 : (Cond.selects "TileScreen$Display" ⟨"TileScreen$Display", "readByte", "()I"⟩ ⟨"TileScreen$Display", "readByte", "()I"⟩) ∈ TB := tb_sel (by decide +kernel) (by decide +kernel)
theorem s_14 : (Cond.selects "TileScreen$Display" ⟨"TileScreen$Display", "readColour", "()I"⟩ ⟨"TileScreen$Display", "readColour", "()I"⟩) ∈ TB := tb_sel (by decide +kernel) (by decide +kernel)
theorem s_15 : (Cond.selects "TileScreen$Display" ⟨"TileScreen$Display", "paint", "(IIII)V"⟩ ⟨"TileScreen$Display", "paint", "(IIII)V"⟩) ∈ TB := tb_sel (by decide +kernel) (by decide +kernel)
theorem s_16 : (Cond.selects "TileScreen$Display" ⟨"TileScreen$Display", "readSource", "(ILTileScreen$Tiles;I)V"⟩ ⟨"TileScreen$Display", "readSource", "(ILTileScreen$Tiles;I)V"⟩) ∈ TB := tb_sel (by decide +kernel) (by decide +kernel)
theorem s_17 : (Cond.selects "TileScreen$Display" ⟨"TileScreen$Display", "readPixels", "(III)V"⟩ ⟨"TileScreen$Display", "readPixels", "(III)V"⟩) ∈ TB := tb_sel (by decide +kernel) (by decide +kernel)
theorem s_18 : (Cond.selects "TileScreen$Display" ⟨"TileScreen$Display", "readColourCount", "()I"⟩ ⟨"TileScreen$Display", "readColourCount", "()I"⟩) ∈ TB := tb_sel (by decide +kernel) (by decide +kernel)
theorem s_19 : (Cond.selects "TileScreen$Display" ⟨"TileScreen$Display", "readRuns", "(I)V"⟩ ⟨"TileScreen$Display", "readRuns", "(I)V"⟩) ∈ TB := tb_sel (by decide +kernel) (by decide +kernel)
theorem s_20 : (Cond.selects "TileScreen$Display" ⟨"TileScreen$Display", "readRaw", "(I)V"⟩ ⟨"TileScreen$Display", "readRaw", "(I)V"⟩) ∈ TB := tb_sel (by decide +kernel) (by decide +kernel)
theorem s_21 : (Cond.selects "java/lang/Throwable" ⟨"java/lang/Throwable", "fillInStackTrace", "(I)Ljava/lang/Throwable;"⟩ ⟨"java/lang/Throwable", "fillInStackTrace", "(I)Ljava/lang/Throwable;"⟩) ∈ TB := tb_sel (by decide +kernel) (by decide +kernel)
theorem s_22 : (Cond.selects "TileScreenModel" ⟨"TileScreenModel", "become", "(II)V"⟩ ⟨"TileScreenModel", "become", "(II)V"⟩) ∈ TB := tb_sel (by decide +kernel) (by decide +kernel)
theorem s_23 : (Cond.selects "TileScreenModel" ⟨"TileScreenModel", "leave", "(I)V"⟩ ⟨"TileScreenModel", "leave", "(I)V"⟩) ∈ TB := tb_sel (by decide +kernel) (by decide +kernel)
theorem s_24 : (Cond.selects "TileScreenModel" ⟨"TileScreenModel", "compose", "(I)V"⟩ ⟨"TileScreenModel", "compose", "(I)V"⟩) ∈ TB := tb_sel (by decide +kernel) (by decide +kernel)
theorem s_25 : (Cond.selects "TileScreenModel" ⟨"TileScreenModel", "send", "(II)V"⟩ ⟨"TileScreenModel", "send", "(II)V"⟩) ∈ TB := tb_sel (by decide +kernel) (by decide +kernel)
theorem s_26 : (Cond.selects "TileScreenModel" ⟨"TileScreenModel", "sameTile", "(IIII)Z"⟩ ⟨"TileScreenModel", "sameTile", "(IIII)Z"⟩) ∈ TB := tb_sel (by decide +kernel) (by decide +kernel)
theorem s_27 : (Cond.selects "TileScreenModel" ⟨"TileScreenModel", "findColours", "()V"⟩ ⟨"TileScreenModel", "findColours", "()V"⟩) ∈ TB := tb_sel (by decide +kernel) (by decide +kernel)
theorem s_28 : (Cond.selects "TileScreenModel" ⟨"TileScreenModel", "numberOf", "(I)I"⟩ ⟨"TileScreenModel", "numberOf", "(I)I"⟩) ∈ TB := tb_sel (by decide +kernel) (by decide +kernel)
theorem s_29 : (Cond.selects "TileScreenModel" ⟨"TileScreenModel", "write", "(III)Z"⟩ ⟨"TileScreenModel", "write", "(III)Z"⟩) ∈ TB := tb_sel (by decide +kernel) (by decide +kernel)
theorem s_30 : (Cond.selects "TileScreenModel" ⟨"TileScreenModel", "put", "(I)V"⟩ ⟨"TileScreenModel", "put", "(I)V"⟩) ∈ TB := tb_sel (by decide +kernel) (by decide +kernel)
theorem s_31 : (Cond.selects "TileScreenModel" ⟨"TileScreenModel", "likeTile", "(I)I"⟩ ⟨"TileScreenModel", "likeTile", "(I)I"⟩) ∈ TB := tb_sel (by decide +kernel) (by decide +kernel)
theorem s_32 : (Cond.selects "TileScreenModel" ⟨"TileScreenModel", "likeEntry", "(I)I"⟩ ⟨"TileScreenModel", "likeEntry", "(I)I"⟩) ∈ TB := tb_sel (by decide +kernel) (by decide +kernel)
theorem s_33 : (Cond.selects "TileScreenModel" ⟨"TileScreenModel", "putTwo", "(I)V"⟩ ⟨"TileScreenModel", "putTwo", "(I)V"⟩) ∈ TB := tb_sel (by decide +kernel) (by decide +kernel)
theorem s_34 : (Cond.selects "TileScreenModel" ⟨"TileScreenModel", "putBits", "(I)V"⟩ ⟨"TileScreenModel", "putBits", "(I)V"⟩) ∈ TB := tb_sel (by decide +kernel) (by decide +kernel)
theorem s_35 : (Cond.selects "TileScreenModel" ⟨"TileScreenModel", "putRuns", "()V"⟩ ⟨"TileScreenModel", "putRuns", "()V"⟩) ∈ TB := tb_sel (by decide +kernel) (by decide +kernel)
theorem s_36 : (Cond.selects "TileScreenModel" ⟨"TileScreenModel", "keep", "(I)V"⟩ ⟨"TileScreenModel", "keep", "(I)V"⟩) ∈ TB := tb_sel (by decide +kernel) (by decide +kernel)
theorem s_37 : (Cond.selects "TileScreenModel" ⟨"TileScreenModel", "take", "(II)Z"⟩ ⟨"TileScreenModel", "take", "(II)Z"⟩) ∈ TB := tb_sel (by decide +kernel) (by decide +kernel)
theorem s_38 : (Cond.selects "TileScreenModel" ⟨"TileScreenModel", "whole", "(I)Z"⟩ ⟨"TileScreenModel", "whole", "(I)Z"⟩) ∈ TB := tb_sel (by decide +kernel) (by decide +kernel)
theorem s_39 : (Cond.selects "TileScreenModel" ⟨"TileScreenModel", "getTwo", "(I)I"⟩ ⟨"TileScreenModel", "getTwo", "(I)I"⟩) ∈ TB := tb_sel (by decide +kernel) (by decide +kernel)
theorem s_40 : (Cond.selects "TileScreenModel" ⟨"TileScreenModel", "get", "(I)I"⟩ ⟨"TileScreenModel", "get", "(I)I"⟩) ∈ TB := tb_sel (by decide +kernel) (by decide +kernel)
theorem s_41 : (Cond.selects "TileScreenModel" ⟨"TileScreenModel", "read", "(II)Z"⟩ ⟨"TileScreenModel", "read", "(II)Z"⟩) ∈ TB := tb_sel (by decide +kernel) (by decide +kernel)
theorem s_42 : (Cond.selects "TileScreenModel" ⟨"TileScreenModel", "readLike", "(III)Z"⟩ ⟨"TileScreenModel", "readLike", "(III)Z"⟩) ∈ TB := tb_sel (by decide +kernel) (by decide +kernel)
theorem s_43 : (Cond.selects "TileScreenModel" ⟨"TileScreenModel", "readRuns", "(I)Z"⟩ ⟨"TileScreenModel", "readRuns", "(I)Z"⟩) ∈ TB := tb_sel (by decide +kernel) (by decide +kernel)
end
section
theorem d_Tiles_init_0 : decode b_Tiles_init 0 = .ok (.aload_n 0, 1) := by decide +kernel
theorem d_Tiles_init_1 : decode b_Tiles_init 1 = .ok (.invokespecial 3, 3) := by decide +kernel
theorem d_Tiles_init_4 : decode b_Tiles_init 4 = .ok (.aload_n 0, 1) := by decide +kernel
theorem d_Tiles_init_5 : decode b_Tiles_init 5 = .ok (.iload_n 1, 1) := by decide +kernel
theorem d_Tiles_init_6 : decode b_Tiles_init 6 = .ok (.putfield 9, 3) := by decide +kernel
theorem d_Tiles_init_9 : decode b_Tiles_init 9 = .ok (.aload_n 0, 1) := by decide +kernel
theorem d_Tiles_init_10 : decode b_Tiles_init 10 = .ok (.iload_n 1, 1) := by decide +kernel
theorem d_Tiles_init_11 : decode b_Tiles_init 11 = .ok (.bipush 64, 2) := by decide +kernel
theorem d_Tiles_init_13 : decode b_Tiles_init 13 = .ok (.imul, 1) := by decide +kernel
theorem d_Tiles_init_14 : decode b_Tiles_init 14 = .ok (.newarray .int, 2) := by decide +kernel
theorem d_Tiles_init_16 : decode b_Tiles_init 16 = .ok (.putfield 15, 3) := by decide +kernel
theorem d_Tiles_init_19 : decode b_Tiles_init 19 = .ok (.return_, 1) := by decide +kernel
theorem d_Tiles_get_0 : decode b_Tiles_get 0 = .ok (.aload_n 0, 1) := by decide +kernel
theorem d_Tiles_get_1 : decode b_Tiles_get 1 = .ok (.getfield 15, 3) := by decide +kernel
theorem d_Tiles_get_4 : decode b_Tiles_get 4 = .ok (.iload_n 1, 1) := by decide +kernel
theorem d_Tiles_get_5 : decode b_Tiles_get 5 = .ok (.bipush 64, 2) := by decide +kernel
theorem d_Tiles_get_7 : decode b_Tiles_get 7 = .ok (.imul, 1) := by decide +kernel
theorem d_Tiles_get_8 : decode b_Tiles_get 8 = .ok (.iload_n 2, 1) := by decide +kernel
theorem d_Tiles_get_9 : decode b_Tiles_get 9 = .ok (.iadd, 1) := by decide +kernel
theorem d_Tiles_get_10 : decode b_Tiles_get 10 = .ok (.iaload, 1) := by decide +kernel
theorem d_Tiles_get_11 : decode b_Tiles_get 11 = .ok (.ireturn, 1) := by decide +kernel
theorem d_Tiles_set_0 : decode b_Tiles_set 0 = .ok (.aload_n 0, 1) := by decide +kernel
theorem d_Tiles_set_1 : decode b_Tiles_set 1 = .ok (.getfield 15, 3) := by decide +kernel
theorem d_Tiles_set_4 : decode b_Tiles_set 4 = .ok (.iload_n 1, 1) := by decide +kernel
theorem d_Tiles_set_5 : decode b_Tiles_set 5 = .ok (.bipush 64, 2) := by decide +kernel
theorem d_Tiles_set_7 : decode b_Tiles_set 7 = .ok (.imul, 1) := by decide +kernel
theorem d_Tiles_set_8 : decode b_Tiles_set 8 = .ok (.iload_n 2, 1) := by decide +kernel
theorem d_Tiles_set_9 : decode b_Tiles_set 9 = .ok (.iadd, 1) := by decide +kernel
theorem d_Tiles_set_10 : decode b_Tiles_set 10 = .ok (.iload_n 3, 1) := by decide +kernel
theorem d_Tiles_set_11 : decode b_Tiles_set 11 = .ok (.iastore, 1) := by decide +kernel
theorem d_Tiles_set_12 : decode b_Tiles_set 12 = .ok (.return_, 1) := by decide +kernel
theorem d_Tiles_take_0 : decode b_Tiles_take 0 = .ok (.aload_n 2, 1) := by decide +kernel
theorem d_Tiles_take_1 : decode b_Tiles_take 1 = .ok (.getfield 15, 3) := by decide +kernel
theorem d_Tiles_take_4 : decode b_Tiles_take 4 = .ok (.iload_n 3, 1) := by decide +kernel
theorem d_Tiles_take_5 : decode b_Tiles_take 5 = .ok (.bipush 64, 2) := by decide +kernel
theorem d_Tiles_take_7 : decode b_Tiles_take 7 = .ok (.imul, 1) := by decide +kernel
theorem d_Tiles_take_8 : decode b_Tiles_take 8 = .ok (.aload_n 0, 1) := by decide +kernel
theorem d_Tiles_take_9 : decode b_Tiles_take 9 = .ok (.getfield 15, 3) := by decide +kernel
theorem d_Tiles_take_12 : decode b_Tiles_take 12 = .ok (.iload_n 1, 1) := by decide +kernel
theorem d_Tiles_take_13 : decode b_Tiles_take 13 = .ok (.bipush 64, 2) := by decide +kernel
theorem d_Tiles_take_15 : decode b_Tiles_take 15 = .ok (.imul, 1) := by decide +kernel
theorem d_Tiles_take_16 : decode b_Tiles_take 16 = .ok (.bipush 64, 2) := by decide +kernel
theorem d_Tiles_take_18 : decode b_Tiles_take 18 = .ok (.invokestatic 19, 3) := by decide +kernel
theorem d_Tiles_take_21 : decode b_Tiles_take 21 = .ok (.return_, 1) := by decide +kernel
theorem d_Tiles_takeAll_0 : decode b_Tiles_takeAll 0 = .ok (.aload_n 1, 1) := by decide +kernel
theorem d_Tiles_takeAll_1 : decode b_Tiles_takeAll 1 = .ok (.getfield 15, 3) := by decide +kernel
theorem d_Tiles_takeAll_4 : decode b_Tiles_takeAll 4 = .ok (.iconst 0, 1) := by decide +kernel
theorem d_Tiles_takeAll_5 : decode b_Tiles_takeAll 5 = .ok (.aload_n 0, 1) := by decide +kernel
theorem d_Tiles_takeAll_6 : decode b_Tiles_takeAll 6 = .ok (.getfield 15, 3) := by decide +kernel
theorem d_Tiles_takeAll_9 : decode b_Tiles_takeAll 9 = .ok (.iconst 0, 1) := by decide +kernel
theorem d_Tiles_takeAll_10 : decode b_Tiles_takeAll 10 = .ok (.aload_n 0, 1) := by decide +kernel
theorem d_Tiles_takeAll_11 : decode b_Tiles_takeAll 11 = .ok (.getfield 15, 3) := by decide +kernel
theorem d_Tiles_takeAll_14 : decode b_Tiles_takeAll 14 = .ok (.arraylength, 1) := by decide +kernel
theorem d_Tiles_takeAll_15 : decode b_Tiles_takeAll 15 = .ok (.invokestatic 19, 3) := by decide +kernel
theorem d_Tiles_takeAll_18 : decode b_Tiles_takeAll 18 = .ok (.return_, 1) := by decide +kernel
theorem d_Tiles_isSame_0 : decode b_Tiles_isSame 0 = .ok (.iload_n 1, 1) := by decide +kernel
theorem d_Tiles_isSame_1 : decode b_Tiles_isSame 1 = .ok (.bipush 64, 2) := by decide +kernel
theorem d_Tiles_isSame_3 : decode b_Tiles_isSame 3 = .ok (.imul, 1) := by decide +kernel
theorem d_Tiles_isSame_4 : decode b_Tiles_isSame 4 = .ok (.istore 4, 2) := by decide +kernel
theorem d_Tiles_isSame_6 : decode b_Tiles_isSame 6 = .ok (.iload_n 3, 1) := by decide +kernel
theorem d_Tiles_isSame_7 : decode b_Tiles_isSame 7 = .ok (.bipush 64, 2) := by decide +kernel
theorem d_Tiles_isSame_9 : decode b_Tiles_isSame 9 = .ok (.imul, 1) := by decide +kernel
theorem d_Tiles_isSame_10 : decode b_Tiles_isSame 10 = .ok (.istore 5, 2) := by decide +kernel
theorem d_Tiles_isSame_12 : decode b_Tiles_isSame 12 = .ok (.iconst 0, 1) := by decide +kernel
theorem d_Tiles_isSame_13 : decode b_Tiles_isSame 13 = .ok (.istore 6, 2) := by decide +kernel
theorem d_Tiles_isSame_15 : decode b_Tiles_isSame 15 = .ok (.iload 6, 2) := by decide +kernel
theorem d_Tiles_isSame_17 : decode b_Tiles_isSame 17 = .ok (.bipush 64, 2) := by decide +kernel
theorem d_Tiles_isSame_19 : decode b_Tiles_isSame 19 = .ok (.if_icmp .ge 34, 3) := by decide +kernel
theorem d_Tiles_isSame_22 : decode b_Tiles_isSame 22 = .ok (.aload_n 0, 1) := by decide +kernel
theorem d_Tiles_isSame_23 : decode b_Tiles_isSame 23 = .ok (.getfield 15, 3) := by decide +kernel
theorem d_Tiles_isSame_26 : decode b_Tiles_isSame 26 = .ok (.iload 4, 2) := by decide +kernel
theorem d_Tiles_isSame_28 : decode b_Tiles_isSame 28 = .ok (.iload 6, 2) := by decide +kernel
theorem d_Tiles_isSame_30 : decode b_Tiles_isSame 30 = .ok (.iadd, 1) := by decide +kernel
theorem d_Tiles_isSame_31 : decode b_Tiles_isSame 31 = .ok (.iaload, 1) := by decide +kernel
theorem d_Tiles_isSame_32 : decode b_Tiles_isSame 32 = .ok (.aload_n 2, 1) := by decide +kernel
theorem d_Tiles_isSame_33 : decode b_Tiles_isSame 33 = .ok (.getfield 15, 3) := by decide +kernel
theorem d_Tiles_isSame_36 : decode b_Tiles_isSame 36 = .ok (.iload 5, 2) := by decide +kernel
theorem d_Tiles_isSame_38 : decode b_Tiles_isSame 38 = .ok (.iload 6, 2) := by decide +kernel
theorem d_Tiles_isSame_40 : decode b_Tiles_isSame 40 = .ok (.iadd, 1) := by decide +kernel
theorem d_Tiles_isSame_41 : decode b_Tiles_isSame 41 = .ok (.iaload, 1) := by decide +kernel
theorem d_Tiles_isSame_42 : decode b_Tiles_isSame 42 = .ok (.if_icmp .eq 5, 3) := by decide +kernel
theorem d_Tiles_isSame_45 : decode b_Tiles_isSame 45 = .ok (.iconst 0, 1) := by decide +kernel
theorem d_Tiles_isSame_46 : decode b_Tiles_isSame 46 = .ok (.ireturn, 1) := by decide +kernel
theorem d_Tiles_isSame_47 : decode b_Tiles_isSame 47 = .ok (.iinc 6 1, 3) := by decide +kernel
theorem d_Tiles_isSame_50 : decode b_Tiles_isSame 50 = .ok (.goto (-35), 3) := by decide +kernel
theorem d_Tiles_isSame_53 : decode b_Tiles_isSame 53 = .ok (.iconst 1, 1) := by decide +kernel
theorem d_Tiles_isSame_54 : decode b_Tiles_isSame 54 = .ok (.ireturn, 1) := by decide +kernel
theorem d_Tiles_find_0 : decode b_Tiles_find 0 = .ok (.iconst 0, 1) := by decide +kernel
theorem d_Tiles_find_1 : decode b_Tiles_find 1 = .ok (.istore 4, 2) := by decide +kernel
theorem d_Tiles_find_3 : decode b_Tiles_find 3 = .ok (.iload 4, 2) := by decide +kernel
theorem d_Tiles_find_5 : decode b_Tiles_find 5 = .ok (.iload_n 1, 1) := by decide +kernel
theorem d_Tiles_find_6 : decode b_Tiles_find 6 = .ok (.if_icmp .ge 23, 3) := by decide +kernel
theorem d_Tiles_find_9 : decode b_Tiles_find 9 = .ok (.aload_n 0, 1) := by decide +kernel
theorem d_Tiles_find_10 : decode b_Tiles_find 10 = .ok (.iload 4, 2) := by decide +kernel
theorem d_Tiles_find_12 : decode b_Tiles_find 12 = .ok (.aload_n 2, 1) := by decide +kernel
theorem d_Tiles_find_13 : decode b_Tiles_find 13 = .ok (.iload_n 3, 1) := by decide +kernel
theorem d_Tiles_find_14 : decode b_Tiles_find 14 = .ok (.invokevirtual 25, 3) := by decide +kernel
theorem d_Tiles_find_17 : decode b_Tiles_find 17 = .ok (.ifCond .eq 6, 3) := by decide +kernel
theorem d_Tiles_find_20 : decode b_Tiles_find 20 = .ok (.iload 4, 2) := by decide +kernel
theorem d_Tiles_find_22 : decode b_Tiles_find 22 = .ok (.ireturn, 1) := by decide +kernel
theorem d_Tiles_find_23 : decode b_Tiles_find 23 = .ok (.iinc 4 1, 3) := by decide +kernel
theorem d_Tiles_find_26 : decode b_Tiles_find 26 = .ok (.goto (-23), 3) := by decide +kernel
theorem d_Tiles_find_29 : decode b_Tiles_find 29 = .ok (.iconst (-1), 1) := by decide +kernel
theorem d_Tiles_find_30 : decode b_Tiles_find 30 = .ok (.ireturn, 1) := by decide +kernel
theorem d_Tiles_countOther_0 : decode b_Tiles_countOther 0 = .ok (.iconst 0, 1) := by decide +kernel
theorem d_Tiles_countOther_1 : decode b_Tiles_countOther 1 = .ok (.istore_n 2, 1) := by decide +kernel
theorem d_Tiles_countOther_2 : decode b_Tiles_countOther 2 = .ok (.iconst 0, 1) := by decide +kernel
theorem d_Tiles_countOther_3 : decode b_Tiles_countOther 3 = .ok (.istore_n 3, 1) := by decide +kernel
theorem d_Tiles_countOther_4 : decode b_Tiles_countOther 4 = .ok (.iload_n 3, 1) := by decide +kernel
theorem d_Tiles_countOther_5 : decode b_Tiles_countOther 5 = .ok (.aload_n 0, 1) := by decide +kernel
theorem d_Tiles_countOther_6 : decode b_Tiles_countOther 6 = .ok (.getfield 9, 3) := by decide +kernel
theorem d_Tiles_countOther_9 : decode b_Tiles_countOther 9 = .ok (.if_icmp .ge 22, 3) := by decide +kernel
theorem d_Tiles_countOther_12 : decode b_Tiles_countOther 12 = .ok (.aload_n 0, 1) := by decide +kernel
theorem d_Tiles_countOther_13 : decode b_Tiles_countOther 13 = .ok (.iload_n 3, 1) := by decide +kernel
theorem d_Tiles_countOther_14 : decode b_Tiles_countOther 14 = .ok (.aload_n 1, 1) := by decide +kernel
theorem d_Tiles_countOther_15 : decode b_Tiles_countOther 15 = .ok (.iload_n 3, 1) := by decide +kernel
theorem d_Tiles_countOther_16 : decode b_Tiles_countOther 16 = .ok (.invokevirtual 25, 3) := by decide +kernel
theorem d_Tiles_countOther_19 : decode b_Tiles_countOther 19 = .ok (.ifCond .ne 6, 3) := by decide +kernel
theorem d_Tiles_countOther_22 : decode b_Tiles_countOther 22 = .ok (.iinc 2 1, 3) := by decide +kernel
theorem d_Tiles_countOther_25 : decode b_Tiles_countOther 25 = .ok (.iinc 3 1, 3) := by decide +kernel
theorem d_Tiles_countOther_28 : decode b_Tiles_countOther 28 = .ok (.goto (-24), 3) := by decide +kernel
theorem d_Tiles_countOther_31 : decode b_Tiles_countOther 31 = .ok (.iload_n 2, 1) := by decide +kernel
theorem d_Tiles_countOther_32 : decode b_Tiles_countOther 32 = .ok (.ireturn, 1) := by decide +kernel
theorem d_Cache_init_0 : decode b_Cache_init 0 = .ok (.aload_n 0, 1) := by decide +kernel
theorem d_Cache_init_1 : decode b_Cache_init 1 = .ok (.invokespecial 3, 3) := by decide +kernel
theorem d_Cache_init_4 : decode b_Cache_init 4 = .ok (.aload_n 0, 1) := by decide +kernel
theorem d_Cache_init_5 : decode b_Cache_init 5 = .ok (.new 9, 3) := by decide +kernel
theorem d_Cache_init_8 : decode b_Cache_init 8 = .ok (.dup, 1) := by decide +kernel
theorem d_Cache_init_9 : decode b_Cache_init 9 = .ok (.bipush 16, 2) := by decide +kernel
theorem d_Cache_init_11 : decode b_Cache_init 11 = .ok (.invokespecial 11, 3) := by decide +kernel
theorem d_Cache_init_14 : decode b_Cache_init 14 = .ok (.putfield 14, 3) := by decide +kernel
theorem d_Cache_init_17 : decode b_Cache_init 17 = .ok (.return_, 1) := by decide +kernel
theorem d_Cache_clear_0 : decode b_Cache_clear 0 = .ok (.aload_n 0, 1) := by decide +kernel
theorem d_Cache_clear_1 : decode b_Cache_clear 1 = .ok (.iconst 0, 1) := by decide +kernel
theorem d_Cache_clear_2 : decode b_Cache_clear 2 = .ok (.putfield 20, 3) := by decide +kernel
theorem d_Cache_clear_5 : decode b_Cache_clear 5 = .ok (.aload_n 0, 1) := by decide +kernel
theorem d_Cache_clear_6 : decode b_Cache_clear 6 = .ok (.iconst 0, 1) := by decide +kernel
theorem d_Cache_clear_7 : decode b_Cache_clear 7 = .ok (.putfield 24, 3) := by decide +kernel
theorem d_Cache_clear_10 : decode b_Cache_clear 10 = .ok (.return_, 1) := by decide +kernel
theorem d_Cache_put_0 : decode b_Cache_put 0 = .ok (.aload_n 0, 1) := by decide +kernel
theorem d_Cache_put_1 : decode b_Cache_put 1 = .ok (.getfield 14, 3) := by decide +kernel
theorem d_Cache_put_4 : decode b_Cache_put 4 = .ok (.aload_n 0, 1) := by decide +kernel
theorem d_Cache_put_5 : decode b_Cache_put 5 = .ok (.getfield 20, 3) := by decide +kernel
theorem d_Cache_put_8 : decode b_Cache_put 8 = .ok (.aload_n 1, 1) := by decide +kernel
theorem d_Cache_put_9 : decode b_Cache_put 9 = .ok (.iload_n 2, 1) := by decide +kernel
theorem d_Cache_put_10 : decode b_Cache_put 10 = .ok (.invokevirtual 27, 3) := by decide +kernel
theorem d_Cache_put_13 : decode b_Cache_put 13 = .ok (.aload_n 0, 1) := by decide +kernel
theorem d_Cache_put_14 : decode b_Cache_put 14 = .ok (.aload_n 0, 1) := by decide +kernel
theorem d_Cache_put_15 : decode b_Cache_put 15 = .ok (.getfield 24, 3) := by decide +kernel
theorem d_Cache_put_18 : decode b_Cache_put 18 = .ok (.aload_n 0, 1) := by decide +kernel
theorem d_Cache_put_19 : decode b_Cache_put 19 = .ok (.getfield 20, 3) := by decide +kernel
theorem d_Cache_put_22 : decode b_Cache_put 22 = .ok (.iconst 1, 1) := by decide +kernel
theorem d_Cache_put_23 : decode b_Cache_put 23 = .ok (.iadd, 1) := by decide +kernel
theorem d_Cache_put_24 : decode b_Cache_put 24 = .ok (.invokestatic 31, 3) := by decide +kernel
theorem d_Cache_put_27 : decode b_Cache_put 27 = .ok (.putfield 24, 3) := by decide +kernel
theorem d_Cache_put_30 : decode b_Cache_put 30 = .ok (.aload_n 0, 1) := by decide +kernel
theorem d_Cache_put_31 : decode b_Cache_put 31 = .ok (.aload_n 0, 1) := by decide +kernel
theorem d_Cache_put_32 : decode b_Cache_put 32 = .ok (.getfield 20, 3) := by decide +kernel
theorem d_Cache_put_35 : decode b_Cache_put 35 = .ok (.iconst 1, 1) := by decide +kernel
theorem d_Cache_put_36 : decode b_Cache_put 36 = .ok (.iadd, 1) := by decide +kernel
theorem d_Cache_put_37 : decode b_Cache_put 37 = .ok (.bipush 16, 2) := by decide +kernel
theorem d_Cache_put_39 : decode b_Cache_put 39 = .ok (.irem, 1) := by decide +kernel
theorem d_Cache_put_40 : decode b_Cache_put 40 = .ok (.putfield 20, 3) := by decide +kernel
theorem d_Cache_put_43 : decode b_Cache_put 43 = .ok (.return_, 1) := by decide +kernel
theorem d_Line_init_0 : decode b_Line_init 0 = .ok (.aload_n 0, 1) := by decide +kernel
theorem d_Line_init_1 : decode b_Line_init 1 = .ok (.invokespecial 3, 3) := by decide +kernel
theorem d_Line_init_4 : decode b_Line_init 4 = .ok (.aload_n 0, 1) := by decide +kernel
theorem d_Line_init_5 : decode b_Line_init 5 = .ok (.sipush 6247, 3) := by decide +kernel
theorem d_Line_init_8 : decode b_Line_init 8 = .ok (.newarray .int, 2) := by decide +kernel
theorem d_Line_init_10 : decode b_Line_init 10 = .ok (.putfield 9, 3) := by decide +kernel
theorem d_Line_init_13 : decode b_Line_init 13 = .ok (.return_, 1) := by decide +kernel
theorem d_Line_clear_0 : decode b_Line_clear 0 = .ok (.aload_n 0, 1) := by decide +kernel
theorem d_Line_clear_1 : decode b_Line_clear 1 = .ok (.iconst 0, 1) := by decide +kernel
theorem d_Line_clear_2 : decode b_Line_clear 2 = .ok (.putfield 15, 3) := by decide +kernel
theorem d_Line_clear_5 : decode b_Line_clear 5 = .ok (.aload_n 0, 1) := by decide +kernel
theorem d_Line_clear_6 : decode b_Line_clear 6 = .ok (.iconst 0, 1) := by decide +kernel
theorem d_Line_clear_7 : decode b_Line_clear 7 = .ok (.putfield 19, 3) := by decide +kernel
theorem d_Line_clear_10 : decode b_Line_clear 10 = .ok (.return_, 1) := by decide +kernel
theorem d_Line_add_0 : decode b_Line_add 0 = .ok (.aload_n 0, 1) := by decide +kernel
theorem d_Line_add_1 : decode b_Line_add 1 = .ok (.getfield 15, 3) := by decide +kernel
theorem d_Line_add_4 : decode b_Line_add 4 = .ok (.aload_n 0, 1) := by decide +kernel
theorem d_Line_add_5 : decode b_Line_add 5 = .ok (.getfield 19, 3) := by decide +kernel
theorem d_Line_add_8 : decode b_Line_add 8 = .ok (.iadd, 1) := by decide +kernel
theorem d_Line_add_9 : decode b_Line_add 9 = .ok (.aload_n 0, 1) := by decide +kernel
theorem d_Line_add_10 : decode b_Line_add 10 = .ok (.getfield 9, 3) := by decide +kernel
theorem d_Line_add_13 : decode b_Line_add 13 = .ok (.arraylength, 1) := by decide +kernel
theorem d_Line_add_14 : decode b_Line_add 14 = .ok (.if_icmp .ge 28, 3) := by decide +kernel
theorem d_Line_add_17 : decode b_Line_add 17 = .ok (.aload_n 0, 1) := by decide +kernel
theorem d_Line_add_18 : decode b_Line_add 18 = .ok (.getfield 9, 3) := by decide +kernel
theorem d_Line_add_21 : decode b_Line_add 21 = .ok (.aload_n 0, 1) := by decide +kernel
theorem d_Line_add_22 : decode b_Line_add 22 = .ok (.getfield 15, 3) := by decide +kernel
theorem d_Line_add_25 : decode b_Line_add 25 = .ok (.aload_n 0, 1) := by decide +kernel
theorem d_Line_add_26 : decode b_Line_add 26 = .ok (.getfield 19, 3) := by decide +kernel
theorem d_Line_add_29 : decode b_Line_add 29 = .ok (.iadd, 1) := by decide +kernel
theorem d_Line_add_30 : decode b_Line_add 30 = .ok (.iload_n 1, 1) := by decide +kernel
theorem d_Line_add_31 : decode b_Line_add 31 = .ok (.iastore, 1) := by decide +kernel
theorem d_Line_add_32 : decode b_Line_add 32 = .ok (.aload_n 0, 1) := by decide +kernel
theorem d_Line_add_33 : decode b_Line_add 33 = .ok (.dup, 1) := by decide +kernel
theorem d_Line_add_34 : decode b_Line_add 34 = .ok (.getfield 19, 3) := by decide +kernel
theorem d_Line_add_37 : decode b_Line_add 37 = .ok (.iconst 1, 1) := by decide +kernel
theorem d_Line_add_38 : decode b_Line_add 38 = .ok (.iadd, 1) := by decide +kernel
theorem d_Line_add_39 : decode b_Line_add 39 = .ok (.putfield 19, 3) := by decide +kernel
theorem d_Line_add_42 : decode b_Line_add 42 = .ok (.return_, 1) := by decide +kernel
theorem d_Line_addPair_0 : decode b_Line_addPair 0 = .ok (.aload_n 0, 1) := by decide +kernel
theorem d_Line_addPair_1 : decode b_Line_addPair 1 = .ok (.iload_n 1, 1) := by decide +kernel
theorem d_Line_addPair_2 : decode b_Line_addPair 2 = .ok (.bipush 8, 2) := by decide +kernel
theorem d_Line_addPair_4 : decode b_Line_addPair 4 = .ok (.ishr, 1) := by decide +kernel
theorem d_Line_addPair_5 : decode b_Line_addPair 5 = .ok (.sipush 255, 3) := by decide +kernel
theorem d_Line_addPair_8 : decode b_Line_addPair 8 = .ok (.iand, 1) := by decide +kernel
theorem d_Line_addPair_9 : decode b_Line_addPair 9 = .ok (.invokevirtual 22, 3) := by decide +kernel
theorem d_Line_addPair_12 : decode b_Line_addPair 12 = .ok (.aload_n 0, 1) := by decide +kernel
theorem d_Line_addPair_13 : decode b_Line_addPair 13 = .ok (.iload_n 1, 1) := by decide +kernel
theorem d_Line_addPair_14 : decode b_Line_addPair 14 = .ok (.sipush 255, 3) := by decide +kernel
theorem d_Line_addPair_17 : decode b_Line_addPair 17 = .ok (.iand, 1) := by decide +kernel
theorem d_Line_addPair_18 : decode b_Line_addPair 18 = .ok (.invokevirtual 22, 3) := by decide +kernel
theorem d_Line_addPair_21 : decode b_Line_addPair 21 = .ok (.return_, 1) := by decide +kernel
theorem d_Line_set_0 : decode b_Line_set 0 = .ok (.iload_n 1, 1) := by decide +kernel
theorem d_Line_set_1 : decode b_Line_set 1 = .ok (.ifCond .lt 23, 3) := by decide +kernel
theorem d_Line_set_4 : decode b_Line_set 4 = .ok (.iload_n 1, 1) := by decide +kernel
theorem d_Line_set_5 : decode b_Line_set 5 = .ok (.aload_n 0, 1) := by decide +kernel
theorem d_Line_set_6 : decode b_Line_set 6 = .ok (.getfield 19, 3) := by decide +kernel
theorem d_Line_set_9 : decode b_Line_set 9 = .ok (.if_icmp .ge 15, 3) := by decide +kernel
theorem d_Line_set_12 : decode b_Line_set 12 = .ok (.aload_n 0, 1) := by decide +kernel
theorem d_Line_set_13 : decode b_Line_set 13 = .ok (.getfield 9, 3) := by decide +kernel
theorem d_Line_set_16 : decode b_Line_set 16 = .ok (.aload_n 0, 1) := by decide +kernel
theorem d_Line_set_17 : decode b_Line_set 17 = .ok (.getfield 15, 3) := by decide +kernel
theorem d_Line_set_20 : decode b_Line_set 20 = .ok (.iload_n 1, 1) := by decide +kernel
theorem d_Line_set_21 : decode b_Line_set 21 = .ok (.iadd, 1) := by decide +kernel
theorem d_Line_set_22 : decode b_Line_set 22 = .ok (.iload_n 2, 1) := by decide +kernel
theorem d_Line_set_23 : decode b_Line_set 23 = .ok (.iastore, 1) := by decide +kernel
theorem d_Line_set_24 : decode b_Line_set 24 = .ok (.return_, 1) := by decide +kernel
theorem d_Line_get_0 : decode b_Line_get 0 = .ok (.iload_n 1, 1) := by decide +kernel
theorem d_Line_get_1 : decode b_Line_get 1 = .ok (.ifCond .lt 25, 3) := by decide +kernel
theorem d_Line_get_4 : decode b_Line_get 4 = .ok (.iload_n 1, 1) := by decide +kernel
theorem d_Line_get_5 : decode b_Line_get 5 = .ok (.aload_n 0, 1) := by decide +kernel
theorem d_Line_get_6 : decode b_Line_get 6 = .ok (.getfield 19, 3) := by decide +kernel
theorem d_Line_get_9 : decode b_Line_get 9 = .ok (.if_icmp .ge 17, 3) := by decide +kernel
theorem d_Line_get_12 : decode b_Line_get 12 = .ok (.aload_n 0, 1) := by decide +kernel
theorem d_Line_get_13 : decode b_Line_get 13 = .ok (.getfield 9, 3) := by decide +kernel
theorem d_Line_get_16 : decode b_Line_get 16 = .ok (.aload_n 0, 1) := by decide +kernel
theorem d_Line_get_17 : decode b_Line_get 17 = .ok (.getfield 15, 3) := by decide +kernel
theorem d_Line_get_20 : decode b_Line_get 20 = .ok (.iload_n 1, 1) := by decide +kernel
theorem d_Line_get_21 : decode b_Line_get 21 = .ok (.iadd, 1) := by decide +kernel
theorem d_Line_get_22 : decode b_Line_get 22 = .ok (.iaload, 1) := by decide +kernel
theorem d_Line_get_23 : decode b_Line_get 23 = .ok (.goto 4, 3) := by decide +kernel
theorem d_Line_get_26 : decode b_Line_get 26 = .ok (.iconst (-1), 1) := by decide +kernel
theorem d_Line_get_27 : decode b_Line_get 27 = .ok (.ireturn, 1) := by decide +kernel
theorem d_Line_removeFirst_0 : decode b_Line_removeFirst 0 = .ok (.aload_n 0, 1) := by decide +kernel
theorem d_Line_removeFirst_1 : decode b_Line_removeFirst 1 = .ok (.getfield 19, 3) := by decide +kernel
theorem d_Line_removeFirst_4 : decode b_Line_removeFirst 4 = .ok (.ifCond .ne 5, 3) := by decide +kernel
theorem d_Line_removeFirst_7 : decode b_Line_removeFirst 7 = .ok (.iconst (-1), 1) := by decide +kernel
theorem d_Line_removeFirst_8 : decode b_Line_removeFirst 8 = .ok (.ireturn, 1) := by decide +kernel
theorem d_Line_removeFirst_9 : decode b_Line_removeFirst 9 = .ok (.aload_n 0, 1) := by decide +kernel
theorem d_Line_removeFirst_10 : decode b_Line_removeFirst 10 = .ok (.getfield 9, 3) := by decide +kernel
theorem d_Line_removeFirst_13 : decode b_Line_removeFirst 13 = .ok (.aload_n 0, 1) := by decide +kernel
theorem d_Line_removeFirst_14 : decode b_Line_removeFirst 14 = .ok (.getfield 15, 3) := by decide +kernel
theorem d_Line_removeFirst_17 : decode b_Line_removeFirst 17 = .ok (.iaload, 1) := by decide +kernel
theorem d_Line_removeFirst_18 : decode b_Line_removeFirst 18 = .ok (.istore_n 1, 1) := by decide +kernel
theorem d_Line_removeFirst_19 : decode b_Line_removeFirst 19 = .ok (.aload_n 0, 1) := by decide +kernel
theorem d_Line_removeFirst_20 : decode b_Line_removeFirst 20 = .ok (.dup, 1) := by decide +kernel
theorem d_Line_removeFirst_21 : decode b_Line_removeFirst 21 = .ok (.getfield 15, 3) := by decide +kernel
theorem d_Line_removeFirst_24 : decode b_Line_removeFirst 24 = .ok (.iconst 1, 1) := by decide +kernel
theorem d_Line_removeFirst_25 : decode b_Line_removeFirst 25 = .ok (.iadd, 1) := by decide +kernel
theorem d_Line_removeFirst_26 : decode b_Line_removeFirst 26 = .ok (.putfield 15, 3) := by decide +kernel
theorem d_Line_removeFirst_29 : decode b_Line_removeFirst 29 = .ok (.aload_n 0, 1) := by decide +kernel
theorem d_Line_removeFirst_30 : decode b_Line_removeFirst 30 = .ok (.dup, 1) := by decide +kernel
theorem d_Line_removeFirst_31 : decode b_Line_removeFirst 31 = .ok (.getfield 19, 3) := by decide +kernel
theorem d_Line_removeFirst_34 : decode b_Line_removeFirst 34 = .ok (.iconst 1, 1) := by decide +kernel
theorem d_Line_removeFirst_35 : decode b_Line_removeFirst 35 = .ok (.isub, 1) := by decide +kernel
theorem d_Line_removeFirst_36 : decode b_Line_removeFirst 36 = .ok (.putfield 19, 3) := by decide +kernel
theorem d_Line_removeFirst_39 : decode b_Line_removeFirst 39 = .ok (.iload_n 1, 1) := by decide +kernel
theorem d_Line_removeFirst_40 : decode b_Line_removeFirst 40 = .ok (.ireturn, 1) := by decide +kernel
theorem d_Poisons_init_0 : decode b_Poisons_init 0 = .ok (.aload_n 0, 1) := by decide +kernel
theorem d_Poisons_init_1 : decode b_Poisons_init 1 = .ok (.invokespecial 3, 3) := by decide +kernel
theorem d_Poisons_init_4 : decode b_Poisons_init 4 = .ok (.aload_n 0, 1) := by decide +kernel
theorem d_Poisons_init_5 : decode b_Poisons_init 5 = .ok (.bipush 8, 2) := by decide +kernel
theorem d_Poisons_init_7 : decode b_Poisons_init 7 = .ok (.newarray .int, 2) := by decide +kernel
theorem d_Poisons_init_9 : decode b_Poisons_init 9 = .ok (.putfield 9, 3) := by decide +kernel
theorem d_Poisons_init_12 : decode b_Poisons_init 12 = .ok (.aload_n 0, 1) := by decide +kernel
theorem d_Poisons_init_13 : decode b_Poisons_init 13 = .ok (.bipush 8, 2) := by decide +kernel
theorem d_Poisons_init_15 : decode b_Poisons_init 15 = .ok (.newarray .int, 2) := by decide +kernel
theorem d_Poisons_init_17 : decode b_Poisons_init 17 = .ok (.putfield 15, 3) := by decide +kernel
theorem d_Poisons_init_20 : decode b_Poisons_init 20 = .ok (.return_, 1) := by decide +kernel
theorem d_Poisons_add_0 : decode b_Poisons_add 0 = .ok (.aload_n 0, 1) := by decide +kernel
theorem d_Poisons_add_1 : decode b_Poisons_add 1 = .ok (.getfield 18, 3) := by decide +kernel
theorem d_Poisons_add_4 : decode b_Poisons_add 4 = .ok (.bipush 8, 2) := by decide +kernel
theorem d_Poisons_add_6 : decode b_Poisons_add 6 = .ok (.if_icmp .ge 13, 3) := by decide +kernel
theorem d_Poisons_add_9 : decode b_Poisons_add 9 = .ok (.aload_n 0, 1) := by decide +kernel
theorem d_Poisons_add_10 : decode b_Poisons_add 10 = .ok (.dup, 1) := by decide +kernel
theorem d_Poisons_add_11 : decode b_Poisons_add 11 = .ok (.getfield 18, 3) := by decide +kernel
theorem d_Poisons_add_14 : decode b_Poisons_add 14 = .ok (.iconst 1, 1) := by decide +kernel
theorem d_Poisons_add_15 : decode b_Poisons_add 15 = .ok (.iadd, 1) := by decide +kernel
theorem d_Poisons_add_16 : decode b_Poisons_add 16 = .ok (.putfield 18, 3) := by decide +kernel
theorem d_Poisons_add_19 : decode b_Poisons_add 19 = .ok (.aload_n 0, 1) := by decide +kernel
theorem d_Poisons_add_20 : decode b_Poisons_add 20 = .ok (.getfield 9, 3) := by decide +kernel
theorem d_Poisons_add_23 : decode b_Poisons_add 23 = .ok (.aload_n 0, 1) := by decide +kernel
theorem d_Poisons_add_24 : decode b_Poisons_add 24 = .ok (.getfield 18, 3) := by decide +kernel
theorem d_Poisons_add_27 : decode b_Poisons_add 27 = .ok (.iconst 1, 1) := by decide +kernel
theorem d_Poisons_add_28 : decode b_Poisons_add 28 = .ok (.isub, 1) := by decide +kernel
theorem d_Poisons_add_29 : decode b_Poisons_add 29 = .ok (.iload_n 1, 1) := by decide +kernel
theorem d_Poisons_add_30 : decode b_Poisons_add 30 = .ok (.iastore, 1) := by decide +kernel
theorem d_Poisons_add_31 : decode b_Poisons_add 31 = .ok (.aload_n 0, 1) := by decide +kernel
theorem d_Poisons_add_32 : decode b_Poisons_add 32 = .ok (.getfield 15, 3) := by decide +kernel
theorem d_Poisons_add_35 : decode b_Poisons_add 35 = .ok (.aload_n 0, 1) := by decide +kernel
theorem d_Poisons_add_36 : decode b_Poisons_add 36 = .ok (.getfield 18, 3) := by decide +kernel
theorem d_Poisons_add_39 : decode b_Poisons_add 39 = .ok (.iconst 1, 1) := by decide +kernel
theorem d_Poisons_add_40 : decode b_Poisons_add 40 = .ok (.isub, 1) := by decide +kernel
theorem d_Poisons_add_41 : decode b_Poisons_add 41 = .ok (.iload_n 2, 1) := by decide +kernel
theorem d_Poisons_add_42 : decode b_Poisons_add 42 = .ok (.iastore, 1) := by decide +kernel
theorem d_Poisons_add_43 : decode b_Poisons_add 43 = .ok (.return_, 1) := by decide +kernel
theorem d_Poisons_spoil_0 : decode b_Poisons_spoil 0 = .ok (.iload_n 1, 1) := by decide +kernel
theorem d_Poisons_spoil_1 : decode b_Poisons_spoil 1 = .ok (.istore_n 2, 1) := by decide +kernel
theorem d_Poisons_spoil_2 : decode b_Poisons_spoil 2 = .ok (.iconst 0, 1) := by decide +kernel
theorem d_Poisons_spoil_3 : decode b_Poisons_spoil 3 = .ok (.istore_n 3, 1) := by decide +kernel
theorem d_Poisons_spoil_4 : decode b_Poisons_spoil 4 = .ok (.iconst 0, 1) := by decide +kernel
theorem d_Poisons_spoil_5 : decode b_Poisons_spoil 5 = .ok (.istore 4, 2) := by decide +kernel
theorem d_Poisons_spoil_7 : decode b_Poisons_spoil 7 = .ok (.iload 4, 2) := by decide +kernel
theorem d_Poisons_spoil_9 : decode b_Poisons_spoil 9 = .ok (.aload_n 0, 1) := by decide +kernel
theorem d_Poisons_spoil_10 : decode b_Poisons_spoil 10 = .ok (.getfield 18, 3) := by decide +kernel
theorem d_Poisons_spoil_13 : decode b_Poisons_spoil 13 = .ok (.if_icmp .ge 64, 3) := by decide +kernel
theorem d_Poisons_spoil_16 : decode b_Poisons_spoil 16 = .ok (.aload_n 0, 1) := by decide +kernel
theorem d_Poisons_spoil_17 : decode b_Poisons_spoil 17 = .ok (.getfield 9, 3) := by decide +kernel
theorem d_Poisons_spoil_20 : decode b_Poisons_spoil 20 = .ok (.iload 4, 2) := by decide +kernel
theorem d_Poisons_spoil_22 : decode b_Poisons_spoil 22 = .ok (.iaload, 1) := by decide +kernel
theorem d_Poisons_spoil_23 : decode b_Poisons_spoil 23 = .ok (.iconst 1, 1) := by decide +kernel
theorem d_Poisons_spoil_24 : decode b_Poisons_spoil 24 = .ok (.if_icmp .ne 16, 3) := by decide +kernel
theorem d_Poisons_spoil_27 : decode b_Poisons_spoil 27 = .ok (.iload_n 2, 1) := by decide +kernel
theorem d_Poisons_spoil_28 : decode b_Poisons_spoil 28 = .ok (.aload_n 0, 1) := by decide +kernel
theorem d_Poisons_spoil_29 : decode b_Poisons_spoil 29 = .ok (.getfield 15, 3) := by decide +kernel
theorem d_Poisons_spoil_32 : decode b_Poisons_spoil 32 = .ok (.iload 4, 2) := by decide +kernel
theorem d_Poisons_spoil_34 : decode b_Poisons_spoil 34 = .ok (.iaload, 1) := by decide +kernel
theorem d_Poisons_spoil_35 : decode b_Poisons_spoil 35 = .ok (.ixor, 1) := by decide +kernel
theorem d_Poisons_spoil_36 : decode b_Poisons_spoil 36 = .ok (.istore_n 2, 1) := by decide +kernel
theorem d_Poisons_spoil_37 : decode b_Poisons_spoil 37 = .ok (.goto 34, 3) := by decide +kernel
theorem d_Poisons_spoil_40 : decode b_Poisons_spoil 40 = .ok (.aload_n 0, 1) := by decide +kernel
theorem d_Poisons_spoil_41 : decode b_Poisons_spoil 41 = .ok (.getfield 9, 3) := by decide +kernel
theorem d_Poisons_spoil_44 : decode b_Poisons_spoil 44 = .ok (.iload_n 3, 1) := by decide +kernel
theorem d_Poisons_spoil_45 : decode b_Poisons_spoil 45 = .ok (.aload_n 0, 1) := by decide +kernel
theorem d_Poisons_spoil_46 : decode b_Poisons_spoil 46 = .ok (.getfield 9, 3) := by decide +kernel
theorem d_Poisons_spoil_49 : decode b_Poisons_spoil 49 = .ok (.iload 4, 2) := by decide +kernel
theorem d_Poisons_spoil_51 : decode b_Poisons_spoil 51 = .ok (.iaload, 1) := by decide +kernel
theorem d_Poisons_spoil_52 : decode b_Poisons_spoil 52 = .ok (.iconst 1, 1) := by decide +kernel
theorem d_Poisons_spoil_53 : decode b_Poisons_spoil 53 = .ok (.isub, 1) := by decide +kernel
theorem d_Poisons_spoil_54 : decode b_Poisons_spoil 54 = .ok (.iastore, 1) := by decide +kernel
theorem d_Poisons_spoil_55 : decode b_Poisons_spoil 55 = .ok (.aload_n 0, 1) := by decide +kernel
theorem d_Poisons_spoil_56 : decode b_Poisons_spoil 56 = .ok (.getfield 15, 3) := by decide +kernel
theorem d_Poisons_spoil_59 : decode b_Poisons_spoil 59 = .ok (.iload_n 3, 1) := by decide +kernel
theorem d_Poisons_spoil_60 : decode b_Poisons_spoil 60 = .ok (.aload_n 0, 1) := by decide +kernel
theorem d_Poisons_spoil_61 : decode b_Poisons_spoil 61 = .ok (.getfield 15, 3) := by decide +kernel
theorem d_Poisons_spoil_64 : decode b_Poisons_spoil 64 = .ok (.iload 4, 2) := by decide +kernel
theorem d_Poisons_spoil_66 : decode b_Poisons_spoil 66 = .ok (.iaload, 1) := by decide +kernel
theorem d_Poisons_spoil_67 : decode b_Poisons_spoil 67 = .ok (.iastore, 1) := by decide +kernel
theorem d_Poisons_spoil_68 : decode b_Poisons_spoil 68 = .ok (.iinc 3 1, 3) := by decide +kernel
theorem d_Poisons_spoil_71 : decode b_Poisons_spoil 71 = .ok (.iinc 4 1, 3) := by decide +kernel
theorem d_Poisons_spoil_74 : decode b_Poisons_spoil 74 = .ok (.goto (-67), 3) := by decide +kernel
theorem d_Poisons_spoil_77 : decode b_Poisons_spoil 77 = .ok (.aload_n 0, 1) := by decide +kernel
theorem d_Poisons_spoil_78 : decode b_Poisons_spoil 78 = .ok (.iload_n 3, 1) := by decide +kernel
theorem d_Poisons_spoil_79 : decode b_Poisons_spoil 79 = .ok (.putfield 18, 3) := by decide +kernel
theorem d_Poisons_spoil_82 : decode b_Poisons_spoil 82 = .ok (.iload_n 2, 1) := by decide +kernel
theorem d_Poisons_spoil_83 : decode b_Poisons_spoil 83 = .ok (.ireturn, 1) := by decide +kernel
theorem d_Look_init_0 : decode b_Look_init 0 = .ok (.aload_n 0, 1) := by decide +kernel
theorem d_Look_init_1 : decode b_Look_init 1 = .ok (.invokespecial 3, 3) := by decide +kernel
theorem d_Look_init_4 : decode b_Look_init 4 = .ok (.aload_n 0, 1) := by decide +kernel
theorem d_Look_init_5 : decode b_Look_init 5 = .ok (.iconst 4, 1) := by decide +kernel
theorem d_Look_init_6 : decode b_Look_init 6 = .ok (.newarray .int, 2) := by decide +kernel
theorem d_Look_init_8 : decode b_Look_init 8 = .ok (.putfield 9, 3) := by decide +kernel
theorem d_Look_init_11 : decode b_Look_init 11 = .ok (.return_, 1) := by decide +kernel
theorem d_Look_study_0 : decode b_Look_study 0 = .ok (.aload_n 0, 1) := by decide +kernel
theorem d_Look_study_1 : decode b_Look_study 1 = .ok (.iconst 0, 1) := by decide +kernel
theorem d_Look_study_2 : decode b_Look_study 2 = .ok (.putfield 15, 3) := by decide +kernel
theorem d_Look_study_5 : decode b_Look_study 5 = .ok (.aload_n 0, 1) := by decide +kernel
theorem d_Look_study_6 : decode b_Look_study 6 = .ok (.iconst 0, 1) := by decide +kernel
theorem d_Look_study_7 : decode b_Look_study 7 = .ok (.putfield 19, 3) := by decide +kernel
theorem d_Look_study_10 : decode b_Look_study 10 = .ok (.iconst (-1), 1) := by decide +kernel
theorem d_Look_study_11 : decode b_Look_study 11 = .ok (.istore_n 3, 1) := by decide +kernel
theorem d_Look_study_12 : decode b_Look_study 12 = .ok (.iconst 0, 1) := by decide +kernel
theorem d_Look_study_13 : decode b_Look_study 13 = .ok (.istore 4, 2) := by decide +kernel
theorem d_Look_study_15 : decode b_Look_study 15 = .ok (.iload 4, 2) := by decide +kernel
theorem d_Look_study_17 : decode b_Look_study 17 = .ok (.bipush 64, 2) := by decide +kernel
theorem d_Look_study_19 : decode b_Look_study 19 = .ok (.if_icmp .ge 43, 3) := by decide +kernel
theorem d_Look_study_22 : decode b_Look_study 22 = .ok (.aload_n 1, 1) := by decide +kernel
theorem d_Look_study_23 : decode b_Look_study 23 = .ok (.iload_n 2, 1) := by decide +kernel
theorem d_Look_study_24 : decode b_Look_study 24 = .ok (.iload 4, 2) := by decide +kernel
theorem d_Look_study_26 : decode b_Look_study 26 = .ok (.invokevirtual 22, 3) := by decide +kernel
theorem d_Look_study_29 : decode b_Look_study 29 = .ok (.istore 5, 2) := by decide +kernel
theorem d_Look_study_31 : decode b_Look_study 31 = .ok (.iload 5, 2) := by decide +kernel
theorem d_Look_study_33 : decode b_Look_study 33 = .ok (.iload_n 3, 1) := by decide +kernel
theorem d_Look_study_34 : decode b_Look_study 34 = .ok (.if_icmp .eq 19, 3) := by decide +kernel
theorem d_Look_study_37 : decode b_Look_study 37 = .ok (.aload_n 0, 1) := by decide +kernel
theorem d_Look_study_38 : decode b_Look_study 38 = .ok (.dup, 1) := by decide +kernel
theorem d_Look_study_39 : decode b_Look_study 39 = .ok (.getfield 19, 3) := by decide +kernel
theorem d_Look_study_42 : decode b_Look_study 42 = .ok (.iconst 1, 1) := by decide +kernel
theorem d_Look_study_43 : decode b_Look_study 43 = .ok (.iadd, 1) := by decide +kernel
theorem d_Look_study_44 : decode b_Look_study 44 = .ok (.putfield 19, 3) := by decide +kernel
theorem d_Look_study_47 : decode b_Look_study 47 = .ok (.aload_n 0, 1) := by decide +kernel
theorem d_Look_study_48 : decode b_Look_study 48 = .ok (.iload 5, 2) := by decide +kernel
theorem d_Look_study_50 : decode b_Look_study 50 = .ok (.invokevirtual 28, 3) := by decide +kernel
theorem d_Look_study_53 : decode b_Look_study 53 = .ok (.iload 5, 2) := by decide +kernel
theorem d_Look_study_55 : decode b_Look_study 55 = .ok (.istore_n 3, 1) := by decide +kernel
theorem d_Look_study_56 : decode b_Look_study 56 = .ok (.iinc 4 1, 3) := by decide +kernel
theorem d_Look_study_59 : decode b_Look_study 59 = .ok (.goto (-44), 3) := by decide +kernel
theorem d_Look_study_62 : decode b_Look_study 62 = .ok (.return_, 1) := by decide +kernel
theorem d_Look_meet_0 : decode b_Look_meet 0 = .ok (.aload_n 0, 1) := by decide +kernel
theorem d_Look_meet_1 : decode b_Look_meet 1 = .ok (.iload_n 1, 1) := by decide +kernel
theorem d_Look_meet_2 : decode b_Look_meet 2 = .ok (.invokevirtual 32, 3) := by decide +kernel
theorem d_Look_meet_5 : decode b_Look_meet 5 = .ok (.iconst (-1), 1) := by decide +kernel
theorem d_Look_meet_6 : decode b_Look_meet 6 = .ok (.if_icmp .eq 4, 3) := by decide +kernel
theorem d_Look_meet_9 : decode b_Look_meet 9 = .ok (.return_, 1) := by decide +kernel
theorem d_Look_meet_10 : decode b_Look_meet 10 = .ok (.aload_n 0, 1) := by decide +kernel
theorem d_Look_meet_11 : decode b_Look_meet 11 = .ok (.getfield 15, 3) := by decide +kernel
theorem d_Look_meet_14 : decode b_Look_meet 14 = .ok (.iconst 4, 1) := by decide +kernel
theorem d_Look_meet_15 : decode b_Look_meet 15 = .ok (.if_icmp .ge 13, 3) := by decide +kernel
theorem d_Look_meet_18 : decode b_Look_meet 18 = .ok (.aload_n 0, 1) := by decide +kernel
theorem d_Look_meet_19 : decode b_Look_meet 19 = .ok (.getfield 9, 3) := by decide +kernel
theorem d_Look_meet_22 : decode b_Look_meet 22 = .ok (.aload_n 0, 1) := by decide +kernel
theorem d_Look_meet_23 : decode b_Look_meet 23 = .ok (.getfield 15, 3) := by decide +kernel
theorem d_Look_meet_26 : decode b_Look_meet 26 = .ok (.iload_n 1, 1) := by decide +kernel
theorem d_Look_meet_27 : decode b_Look_meet 27 = .ok (.iastore, 1) := by decide +kernel
theorem d_Look_meet_28 : decode b_Look_meet 28 = .ok (.aload_n 0, 1) := by decide +kernel
theorem d_Look_meet_29 : decode b_Look_meet 29 = .ok (.dup, 1) := by decide +kernel
theorem d_Look_meet_30 : decode b_Look_meet 30 = .ok (.getfield 15, 3) := by decide +kernel
theorem d_Look_meet_33 : decode b_Look_meet 33 = .ok (.iconst 1, 1) := by decide +kernel
theorem d_Look_meet_34 : decode b_Look_meet 34 = .ok (.iadd, 1) := by decide +kernel
theorem d_Look_meet_35 : decode b_Look_meet 35 = .ok (.putfield 15, 3) := by decide +kernel
theorem d_Look_meet_38 : decode b_Look_meet 38 = .ok (.return_, 1) := by decide +kernel
theorem d_Look_indexOf_0 : decode b_Look_indexOf 0 = .ok (.iconst 0, 1) := by decide +kernel
theorem d_Look_indexOf_1 : decode b_Look_indexOf 1 = .ok (.istore_n 2, 1) := by decide +kernel
theorem d_Look_indexOf_2 : decode b_Look_indexOf 2 = .ok (.iload_n 2, 1) := by decide +kernel
theorem d_Look_indexOf_3 : decode b_Look_indexOf 3 = .ok (.aload_n 0, 1) := by decide +kernel
theorem d_Look_indexOf_4 : decode b_Look_indexOf 4 = .ok (.getfield 15, 3) := by decide +kernel
theorem d_Look_indexOf_7 : decode b_Look_indexOf 7 = .ok (.if_icmp .ge 26, 3) := by decide +kernel
theorem d_Look_indexOf_10 : decode b_Look_indexOf 10 = .ok (.iload_n 2, 1) := by decide +kernel
theorem d_Look_indexOf_11 : decode b_Look_indexOf 11 = .ok (.iconst 4, 1) := by decide +kernel
theorem d_Look_indexOf_12 : decode b_Look_indexOf 12 = .ok (.if_icmp .ge 21, 3) := by decide +kernel
theorem d_Look_indexOf_15 : decode b_Look_indexOf 15 = .ok (.aload_n 0, 1) := by decide +kernel
theorem d_Look_indexOf_16 : decode b_Look_indexOf 16 = .ok (.getfield 9, 3) := by decide +kernel
theorem d_Look_indexOf_19 : decode b_Look_indexOf 19 = .ok (.iload_n 2, 1) := by decide +kernel
theorem d_Look_indexOf_20 : decode b_Look_indexOf 20 = .ok (.iaload, 1) := by decide +kernel
theorem d_Look_indexOf_21 : decode b_Look_indexOf 21 = .ok (.iload_n 1, 1) := by decide +kernel
theorem d_Look_indexOf_22 : decode b_Look_indexOf 22 = .ok (.if_icmp .ne 5, 3) := by decide +kernel
theorem d_Look_indexOf_25 : decode b_Look_indexOf 25 = .ok (.iload_n 2, 1) := by decide +kernel
theorem d_Look_indexOf_26 : decode b_Look_indexOf 26 = .ok (.ireturn, 1) := by decide +kernel
theorem d_Look_indexOf_27 : decode b_Look_indexOf 27 = .ok (.iinc 2 1, 3) := by decide +kernel
theorem d_Look_indexOf_30 : decode b_Look_indexOf 30 = .ok (.goto (-28), 3) := by decide +kernel
theorem d_Look_indexOf_33 : decode b_Look_indexOf 33 = .ok (.iconst (-1), 1) := by decide +kernel
theorem d_Look_indexOf_34 : decode b_Look_indexOf 34 = .ok (.ireturn, 1) := by decide +kernel
theorem d_Feed_init_0 : decode b_Feed_init 0 = .ok (.aload_n 0, 1) := by decide +kernel
theorem d_Feed_init_1 : decode b_Feed_init 1 = .ok (.invokespecial 3, 3) := by decide +kernel
theorem d_Feed_init_4 : decode b_Feed_init 4 = .ok (.aload_n 0, 1) := by decide +kernel
theorem d_Feed_init_5 : decode b_Feed_init 5 = .ok (.new 9, 3) := by decide +kernel
theorem d_Feed_init_8 : decode b_Feed_init 8 = .ok (.dup, 1) := by decide +kernel
theorem d_Feed_init_9 : decode b_Feed_init 9 = .ok (.bipush 48, 2) := by decide +kernel
theorem d_Feed_init_11 : decode b_Feed_init 11 = .ok (.invokespecial 11, 3) := by decide +kernel
theorem d_Feed_init_14 : decode b_Feed_init 14 = .ok (.putfield 14, 3) := by decide +kernel
theorem d_Feed_init_17 : decode b_Feed_init 17 = .ok (.aload_n 0, 1) := by decide +kernel
theorem d_Feed_init_18 : decode b_Feed_init 18 = .ok (.new 20, 3) := by decide +kernel
theorem d_Feed_init_21 : decode b_Feed_init 21 = .ok (.dup, 1) := by decide +kernel
theorem d_Feed_init_22 : decode b_Feed_init 22 = .ok (.invokespecial 22, 3) := by decide +kernel
theorem d_Feed_init_25 : decode b_Feed_init 25 = .ok (.putfield 23, 3) := by decide +kernel
theorem d_Feed_init_28 : decode b_Feed_init 28 = .ok (.aload_n 0, 1) := by decide +kernel
theorem d_Feed_init_29 : decode b_Feed_init 29 = .ok (.new 27, 3) := by decide +kernel
theorem d_Feed_init_32 : decode b_Feed_init 32 = .ok (.dup, 1) := by decide +kernel
theorem d_Feed_init_33 : decode b_Feed_init 33 = .ok (.invokespecial 29, 3) := by decide +kernel
theorem d_Feed_init_36 : decode b_Feed_init 36 = .ok (.putfield 30, 3) := by decide +kernel
theorem d_Feed_init_39 : decode b_Feed_init 39 = .ok (.aload_n 0, 1) := by decide +kernel
theorem d_Feed_init_40 : decode b_Feed_init 40 = .ok (.bipush 7, 2) := by decide +kernel
theorem d_Feed_init_42 : decode b_Feed_init 42 = .ok (.newarray .int, 2) := by decide +kernel
theorem d_Feed_init_44 : decode b_Feed_init 44 = .ok (.putfield 34, 3) := by decide +kernel
theorem d_Feed_init_47 : decode b_Feed_init 47 = .ok (.aload_n 0, 1) := by decide +kernel
theorem d_Feed_init_48 : decode b_Feed_init 48 = .ok (.new 38, 3) := by decide +kernel
theorem d_Feed_init_51 : decode b_Feed_init 51 = .ok (.dup, 1) := by decide +kernel
theorem d_Feed_init_52 : decode b_Feed_init 52 = .ok (.invokespecial 40, 3) := by decide +kernel
theorem d_Feed_init_55 : decode b_Feed_init 55 = .ok (.putfield 41, 3) := by decide +kernel
theorem d_Feed_init_58 : decode b_Feed_init 58 = .ok (.return_, 1) := by decide +kernel
theorem d_Feed_compose_0 : decode b_Feed_compose 0 = .ok (.aload_n 0, 1) := by decide +kernel
theorem d_Feed_compose_1 : decode b_Feed_compose 1 = .ok (.getfield 30, 3) := by decide +kernel
theorem d_Feed_compose_4 : decode b_Feed_compose 4 = .ok (.invokevirtual 45, 3) := by decide +kernel
theorem d_Feed_compose_7 : decode b_Feed_compose 7 = .ok (.iconst 0, 1) := by decide +kernel
theorem d_Feed_compose_8 : decode b_Feed_compose 8 = .ok (.istore_n 3, 1) := by decide +kernel
theorem d_Feed_compose_9 : decode b_Feed_compose 9 = .ok (.iload_n 3, 1) := by decide +kernel
theorem d_Feed_compose_10 : decode b_Feed_compose 10 = .ok (.iconst 3, 1) := by decide +kernel
theorem d_Feed_compose_11 : decode b_Feed_compose 11 = .ok (.if_icmp .ge 17, 3) := by decide +kernel
theorem d_Feed_compose_14 : decode b_Feed_compose 14 = .ok (.aload_n 0, 1) := by decide +kernel
theorem d_Feed_compose_15 : decode b_Feed_compose 15 = .ok (.getfield 30, 3) := by decide +kernel
theorem d_Feed_compose_18 : decode b_Feed_compose 18 = .ok (.iconst 0, 1) := by decide +kernel
theorem d_Feed_compose_19 : decode b_Feed_compose 19 = .ok (.invokevirtual 48, 3) := by decide +kernel
theorem d_Feed_compose_22 : decode b_Feed_compose 22 = .ok (.iinc 3 1, 3) := by decide +kernel
theorem d_Feed_compose_25 : decode b_Feed_compose 25 = .ok (.goto (-16), 3) := by decide +kernel
theorem d_Feed_compose_28 : decode b_Feed_compose 28 = .ok (.aload_n 0, 1) := by decide +kernel
theorem d_Feed_compose_29 : decode b_Feed_compose 29 = .ok (.getfield 30, 3) := by decide +kernel
theorem d_Feed_compose_32 : decode b_Feed_compose 32 = .ok (.iload_n 2, 1) := by decide +kernel
theorem d_Feed_compose_33 : decode b_Feed_compose 33 = .ok (.invokevirtual 51, 3) := by decide +kernel
theorem d_Feed_compose_36 : decode b_Feed_compose 36 = .ok (.iconst 0, 1) := by decide +kernel
theorem d_Feed_compose_37 : decode b_Feed_compose 37 = .ok (.istore_n 3, 1) := by decide +kernel
theorem d_Feed_compose_38 : decode b_Feed_compose 38 = .ok (.iload_n 3, 1) := by decide +kernel
theorem d_Feed_compose_39 : decode b_Feed_compose 39 = .ok (.bipush 48, 2) := by decide +kernel
theorem d_Feed_compose_41 : decode b_Feed_compose 41 = .ok (.if_icmp .ge 28, 3) := by decide +kernel
theorem d_Feed_compose_44 : decode b_Feed_compose 44 = .ok (.aload_n 1, 1) := by decide +kernel
theorem d_Feed_compose_45 : decode b_Feed_compose 45 = .ok (.iload_n 3, 1) := by decide +kernel
theorem d_Feed_compose_46 : decode b_Feed_compose 46 = .ok (.aload_n 0, 1) := by decide +kernel
theorem d_Feed_compose_47 : decode b_Feed_compose 47 = .ok (.getfield 14, 3) := by decide +kernel
theorem d_Feed_compose_50 : decode b_Feed_compose 50 = .ok (.iload_n 3, 1) := by decide +kernel
theorem d_Feed_compose_51 : decode b_Feed_compose 51 = .ok (.invokevirtual 54, 3) := by decide +kernel
theorem d_Feed_compose_54 : decode b_Feed_compose 54 = .ok (.ifCond .ne 9, 3) := by decide +kernel
theorem d_Feed_compose_57 : decode b_Feed_compose 57 = .ok (.aload_n 0, 1) := by decide +kernel
theorem d_Feed_compose_58 : decode b_Feed_compose 58 = .ok (.aload_n 1, 1) := by decide +kernel
theorem d_Feed_compose_59 : decode b_Feed_compose 59 = .ok (.iload_n 3, 1) := by decide +kernel
theorem d_Feed_compose_60 : decode b_Feed_compose 60 = .ok (.invokevirtual 58, 3) := by decide +kernel
theorem d_Feed_compose_63 : decode b_Feed_compose 63 = .ok (.iinc 3 1, 3) := by decide +kernel
theorem d_Feed_compose_66 : decode b_Feed_compose 66 = .ok (.goto (-28), 3) := by decide +kernel
theorem d_Feed_compose_69 : decode b_Feed_compose 69 = .ok (.aload_n 0, 1) := by decide +kernel
theorem d_Feed_compose_70 : decode b_Feed_compose 70 = .ok (.getfield 30, 3) := by decide +kernel
theorem d_Feed_compose_73 : decode b_Feed_compose 73 = .ok (.aload_n 0, 1) := by decide +kernel
theorem d_Feed_compose_74 : decode b_Feed_compose 74 = .ok (.getfield 30, 3) := by decide +kernel
theorem d_Feed_compose_77 : decode b_Feed_compose 77 = .ok (.getfield 62, 3) := by decide +kernel
theorem d_Feed_compose_80 : decode b_Feed_compose 80 = .ok (.iconst 3, 1) := by decide +kernel
theorem d_Feed_compose_81 : decode b_Feed_compose 81 = .ok (.aload_n 0, 1) := by decide +kernel
theorem d_Feed_compose_82 : decode b_Feed_compose 82 = .ok (.getfield 30, 3) := by decide +kernel
theorem d_Feed_compose_85 : decode b_Feed_compose 85 = .ok (.getfield 65, 3) := by decide +kernel
theorem d_Feed_compose_88 : decode b_Feed_compose 88 = .ok (.invokestatic 69, 3) := by decide +kernel
theorem d_Feed_compose_91 : decode b_Feed_compose 91 = .ok (.invokevirtual 51, 3) := by decide +kernel
theorem d_Feed_compose_94 : decode b_Feed_compose 94 = .ok (.aload_n 0, 1) := by decide +kernel
theorem d_Feed_compose_95 : decode b_Feed_compose 95 = .ok (.getfield 30, 3) := by decide +kernel
theorem d_Feed_compose_98 : decode b_Feed_compose 98 = .ok (.getfield 65, 3) := by decide +kernel
theorem d_Feed_compose_101 : decode b_Feed_compose 101 = .ok (.iconst 3, 1) := by decide +kernel
theorem d_Feed_compose_102 : decode b_Feed_compose 102 = .ok (.isub, 1) := by decide +kernel
theorem d_Feed_compose_103 : decode b_Feed_compose 103 = .ok (.istore_n 3, 1) := by decide +kernel
theorem d_Feed_compose_104 : decode b_Feed_compose 104 = .ok (.aload_n 0, 1) := by decide +kernel
theorem d_Feed_compose_105 : decode b_Feed_compose 105 = .ok (.getfield 30, 3) := by decide +kernel
theorem d_Feed_compose_108 : decode b_Feed_compose 108 = .ok (.iconst 0, 1) := by decide +kernel
theorem d_Feed_compose_109 : decode b_Feed_compose 109 = .ok (.iload_n 3, 1) := by decide +kernel
theorem d_Feed_compose_110 : decode b_Feed_compose 110 = .ok (.bipush 16, 2) := by decide +kernel
theorem d_Feed_compose_112 : decode b_Feed_compose 112 = .ok (.ishr, 1) := by decide +kernel
theorem d_Feed_compose_113 : decode b_Feed_compose 113 = .ok (.invokevirtual 73, 3) := by decide +kernel
theorem d_Feed_compose_116 : decode b_Feed_compose 116 = .ok (.aload_n 0, 1) := by decide +kernel
theorem d_Feed_compose_117 : decode b_Feed_compose 117 = .ok (.getfield 30, 3) := by decide +kernel
theorem d_Feed_compose_120 : decode b_Feed_compose 120 = .ok (.iconst 1, 1) := by decide +kernel
theorem d_Feed_compose_121 : decode b_Feed_compose 121 = .ok (.iload_n 3, 1) := by decide +kernel
theorem d_Feed_compose_122 : decode b_Feed_compose 122 = .ok (.bipush 8, 2) := by decide +kernel
theorem d_Feed_compose_124 : decode b_Feed_compose 124 = .ok (.ishr, 1) := by decide +kernel
theorem d_Feed_compose_125 : decode b_Feed_compose 125 = .ok (.sipush 255, 3) := by decide +kernel
theorem d_Feed_compose_128 : decode b_Feed_compose 128 = .ok (.iand, 1) := by decide +kernel
theorem d_Feed_compose_129 : decode b_Feed_compose 129 = .ok (.invokevirtual 73, 3) := by decide +kernel
theorem d_Feed_compose_132 : decode b_Feed_compose 132 = .ok (.aload_n 0, 1) := by decide +kernel
theorem d_Feed_compose_133 : decode b_Feed_compose 133 = .ok (.getfield 30, 3) := by decide +kernel
theorem d_Feed_compose_136 : decode b_Feed_compose 136 = .ok (.iconst 2, 1) := by decide +kernel
theorem d_Feed_compose_137 : decode b_Feed_compose 137 = .ok (.iload_n 3, 1) := by decide +kernel
theorem d_Feed_compose_138 : decode b_Feed_compose 138 = .ok (.sipush 255, 3) := by decide +kernel
theorem d_Feed_compose_141 : decode b_Feed_compose 141 = .ok (.iand, 1) := by decide +kernel
theorem d_Feed_compose_142 : decode b_Feed_compose 142 = .ok (.invokevirtual 73, 3) := by decide +kernel
theorem d_Feed_compose_145 : decode b_Feed_compose 145 = .ok (.aload_n 0, 1) := by decide +kernel
theorem d_Feed_compose_146 : decode b_Feed_compose 146 = .ok (.getfield 14, 3) := by decide +kernel
theorem d_Feed_compose_149 : decode b_Feed_compose 149 = .ok (.aload_n 1, 1) := by decide +kernel
theorem d_Feed_compose_150 : decode b_Feed_compose 150 = .ok (.invokevirtual 77, 3) := by decide +kernel
theorem d_Feed_compose_153 : decode b_Feed_compose 153 = .ok (.aload_n 0, 1) := by decide +kernel
theorem d_Feed_compose_154 : decode b_Feed_compose 154 = .ok (.iload_n 2, 1) := by decide +kernel
theorem d_Feed_compose_155 : decode b_Feed_compose 155 = .ok (.putfield 81, 3) := by decide +kernel
theorem d_Feed_compose_158 : decode b_Feed_compose 158 = .ok (.return_, 1) := by decide +kernel
theorem d_Feed_addRecord_0 : decode b_Feed_addRecord 0 = .ok (.aload_n 0, 1) := by decide +kernel
theorem d_Feed_addRecord_1 : decode b_Feed_addRecord 1 = .ok (.getfield 41, 3) := by decide +kernel
theorem d_Feed_addRecord_4 : decode b_Feed_addRecord 4 = .ok (.aload_n 1, 1) := by decide +kernel
theorem d_Feed_addRecord_5 : decode b_Feed_addRecord 5 = .ok (.iload_n 2, 1) := by decide +kernel
theorem d_Feed_addRecord_6 : decode b_Feed_addRecord 6 = .ok (.invokevirtual 84, 3) := by decide +kernel
theorem d_Feed_addRecord_9 : decode b_Feed_addRecord 9 = .ok (.aload_n 0, 1) := by decide +kernel
theorem d_Feed_addRecord_10 : decode b_Feed_addRecord 10 = .ok (.aload_n 0, 1) := by decide +kernel
theorem d_Feed_addRecord_11 : decode b_Feed_addRecord 11 = .ok (.getfield 14, 3) := by decide +kernel
theorem d_Feed_addRecord_14 : decode b_Feed_addRecord 14 = .ok (.bipush 48, 2) := by decide +kernel
theorem d_Feed_addRecord_16 : decode b_Feed_addRecord 16 = .ok (.aload_n 1, 1) := by decide +kernel
theorem d_Feed_addRecord_17 : decode b_Feed_addRecord 17 = .ok (.iload_n 2, 1) := by decide +kernel
theorem d_Feed_addRecord_18 : decode b_Feed_addRecord 18 = .ok (.invokevirtual 87, 3) := by decide +kernel
theorem d_Feed_addRecord_21 : decode b_Feed_addRecord 21 = .ok (.putfield 91, 3) := by decide +kernel
theorem d_Feed_addRecord_24 : decode b_Feed_addRecord 24 = .ok (.aload_n 0, 1) := by decide +kernel
theorem d_Feed_addRecord_25 : decode b_Feed_addRecord 25 = .ok (.aload_n 0, 1) := by decide +kernel
theorem d_Feed_addRecord_26 : decode b_Feed_addRecord 26 = .ok (.getfield 23, 3) := by decide +kernel
theorem d_Feed_addRecord_29 : decode b_Feed_addRecord 29 = .ok (.getfield 94, 3) := by decide +kernel
theorem d_Feed_addRecord_32 : decode b_Feed_addRecord 32 = .ok (.aload_n 0, 1) := by decide +kernel
theorem d_Feed_addRecord_33 : decode b_Feed_addRecord 33 = .ok (.getfield 23, 3) := by decide +kernel
theorem d_Feed_addRecord_36 : decode b_Feed_addRecord 36 = .ok (.getfield 97, 3) := by decide +kernel
theorem d_Feed_addRecord_39 : decode b_Feed_addRecord 39 = .ok (.aload_n 1, 1) := by decide +kernel
theorem d_Feed_addRecord_40 : decode b_Feed_addRecord 40 = .ok (.iload_n 2, 1) := by decide +kernel
theorem d_Feed_addRecord_41 : decode b_Feed_addRecord 41 = .ok (.invokevirtual 87, 3) := by decide +kernel
theorem d_Feed_addRecord_44 : decode b_Feed_addRecord 44 = .ok (.putfield 100, 3) := by decide +kernel
theorem d_Feed_addRecord_47 : decode b_Feed_addRecord 47 = .ok (.aload_n 0, 1) := by decide +kernel
theorem d_Feed_addRecord_48 : decode b_Feed_addRecord 48 = .ok (.invokevirtual 103, 3) := by decide +kernel
theorem d_Feed_addRecord_51 : decode b_Feed_addRecord 51 = .ok (.istore_n 3, 1) := by decide +kernel
theorem d_Feed_addRecord_52 : decode b_Feed_addRecord 52 = .ok (.aload_n 0, 1) := by decide +kernel
theorem d_Feed_addRecord_53 : decode b_Feed_addRecord 53 = .ok (.getfield 30, 3) := by decide +kernel
theorem d_Feed_addRecord_56 : decode b_Feed_addRecord 56 = .ok (.getfield 65, 3) := by decide +kernel
theorem d_Feed_addRecord_59 : decode b_Feed_addRecord 59 = .ok (.istore 4, 2) := by decide +kernel
theorem d_Feed_addRecord_61 : decode b_Feed_addRecord 61 = .ok (.aload_n 0, 1) := by decide +kernel
theorem d_Feed_addRecord_62 : decode b_Feed_addRecord 62 = .ok (.getfield 30, 3) := by decide +kernel
theorem d_Feed_addRecord_65 : decode b_Feed_addRecord 65 = .ok (.iload_n 3, 1) := by decide +kernel
theorem d_Feed_addRecord_66 : decode b_Feed_addRecord 66 = .ok (.invokevirtual 48, 3) := by decide +kernel
theorem d_Feed_addRecord_69 : decode b_Feed_addRecord 69 = .ok (.aload_n 0, 1) := by decide +kernel
theorem d_Feed_addRecord_70 : decode b_Feed_addRecord 70 = .ok (.getfield 30, 3) := by decide +kernel
theorem d_Feed_addRecord_73 : decode b_Feed_addRecord 73 = .ok (.iload_n 2, 1) := by decide +kernel
theorem d_Feed_addRecord_74 : decode b_Feed_addRecord 74 = .ok (.invokevirtual 48, 3) := by decide +kernel
theorem d_Feed_addRecord_77 : decode b_Feed_addRecord 77 = .ok (.aload_n 0, 1) := by decide +kernel
theorem d_Feed_addRecord_78 : decode b_Feed_addRecord 78 = .ok (.iload_n 3, 1) := by decide +kernel
theorem d_Feed_addRecord_79 : decode b_Feed_addRecord 79 = .ok (.aload_n 1, 1) := by decide +kernel
theorem d_Feed_addRecord_80 : decode b_Feed_addRecord 80 = .ok (.iload_n 2, 1) := by decide +kernel
theorem d_Feed_addRecord_81 : decode b_Feed_addRecord 81 = .ok (.invokevirtual 107, 3) := by decide +kernel
theorem d_Feed_addRecord_84 : decode b_Feed_addRecord 84 = .ok (.aload_n 0, 1) := by decide +kernel
theorem d_Feed_addRecord_85 : decode b_Feed_addRecord 85 = .ok (.getfield 34, 3) := by decide +kernel
theorem d_Feed_addRecord_88 : decode b_Feed_addRecord 88 = .ok (.iload_n 3, 1) := by decide +kernel
theorem d_Feed_addRecord_89 : decode b_Feed_addRecord 89 = .ok (.dup2, 1) := by decide +kernel
theorem d_Feed_addRecord_90 : decode b_Feed_addRecord 90 = .ok (.iaload, 1) := by decide +kernel
theorem d_Feed_addRecord_91 : decode b_Feed_addRecord 91 = .ok (.aload_n 0, 1) := by decide +kernel
theorem d_Feed_addRecord_92 : decode b_Feed_addRecord 92 = .ok (.getfield 30, 3) := by decide +kernel
theorem d_Feed_addRecord_95 : decode b_Feed_addRecord 95 = .ok (.getfield 65, 3) := by decide +kernel
theorem d_Feed_addRecord_98 : decode b_Feed_addRecord 98 = .ok (.iload 4, 2) := by decide +kernel
theorem d_Feed_addRecord_100 : decode b_Feed_addRecord 100 = .ok (.isub, 1) := by decide +kernel
theorem d_Feed_addRecord_101 : decode b_Feed_addRecord 101 = .ok (.iadd, 1) := by decide +kernel
theorem d_Feed_addRecord_102 : decode b_Feed_addRecord 102 = .ok (.iastore, 1) := by decide +kernel
theorem d_Feed_addRecord_103 : decode b_Feed_addRecord 103 = .ok (.iload_n 3, 1) := by decide +kernel
theorem d_Feed_addRecord_104 : decode b_Feed_addRecord 104 = .ok (.iconst 3, 1) := by decide +kernel
theorem d_Feed_addRecord_105 : decode b_Feed_addRecord 105 = .ok (.if_icmp .lt 12, 3) := by decide +kernel
theorem d_Feed_addRecord_108 : decode b_Feed_addRecord 108 = .ok (.aload_n 0, 1) := by decide +kernel
theorem d_Feed_addRecord_109 : decode b_Feed_addRecord 109 = .ok (.getfield 23, 3) := by decide +kernel
theorem d_Feed_addRecord_112 : decode b_Feed_addRecord 112 = .ok (.aload_n 1, 1) := by decide +kernel
theorem d_Feed_addRecord_113 : decode b_Feed_addRecord 113 = .ok (.iload_n 2, 1) := by decide +kernel
theorem d_Feed_addRecord_114 : decode b_Feed_addRecord 114 = .ok (.invokevirtual 111, 3) := by decide +kernel
theorem d_Feed_addRecord_117 : decode b_Feed_addRecord 117 = .ok (.return_, 1) := by decide +kernel
theorem d_Feed_chooseKind_0 : decode b_Feed_chooseKind 0 = .ok (.bipush 6, 2) := by decide +kernel
theorem d_Feed_chooseKind_2 : decode b_Feed_chooseKind 2 = .ok (.istore_n 1, 1) := by decide +kernel
theorem d_Feed_chooseKind_3 : decode b_Feed_chooseKind 3 = .ok (.bipush 6, 2) := by decide +kernel
theorem d_Feed_chooseKind_5 : decode b_Feed_chooseKind 5 = .ok (.istore_n 2, 1) := by decide +kernel
theorem d_Feed_chooseKind_6 : decode b_Feed_chooseKind 6 = .ok (.iload_n 2, 1) := by decide +kernel
theorem d_Feed_chooseKind_7 : decode b_Feed_chooseKind 7 = .ok (.ifCond .lt 32, 3) := by decide +kernel
theorem d_Feed_chooseKind_10 : decode b_Feed_chooseKind 10 = .ok (.aload_n 0, 1) := by decide +kernel
theorem d_Feed_chooseKind_11 : decode b_Feed_chooseKind 11 = .ok (.iload_n 2, 1) := by decide +kernel
theorem d_Feed_chooseKind_12 : decode b_Feed_chooseKind 12 = .ok (.invokevirtual 114, 3) := by decide +kernel
theorem d_Feed_chooseKind_15 : decode b_Feed_chooseKind 15 = .ok (.ifCond .eq 18, 3) := by decide +kernel
theorem d_Feed_chooseKind_18 : decode b_Feed_chooseKind 18 = .ok (.aload_n 0, 1) := by decide +kernel
theorem d_Feed_chooseKind_19 : decode b_Feed_chooseKind 19 = .ok (.iload_n 2, 1) := by decide +kernel
theorem d_Feed_chooseKind_20 : decode b_Feed_chooseKind 20 = .ok (.invokevirtual 118, 3) := by decide +kernel
theorem d_Feed_chooseKind_23 : decode b_Feed_chooseKind 23 = .ok (.aload_n 0, 1) := by decide +kernel
theorem d_Feed_chooseKind_24 : decode b_Feed_chooseKind 24 = .ok (.iload_n 1, 1) := by decide +kernel
theorem d_Feed_chooseKind_25 : decode b_Feed_chooseKind 25 = .ok (.invokevirtual 118, 3) := by decide +kernel
theorem d_Feed_chooseKind_28 : decode b_Feed_chooseKind 28 = .ok (.if_icmp .gt 5, 3) := by decide +kernel
theorem d_Feed_chooseKind_31 : decode b_Feed_chooseKind 31 = .ok (.iload_n 2, 1) := by decide +kernel
theorem d_Feed_chooseKind_32 : decode b_Feed_chooseKind 32 = .ok (.istore_n 1, 1) := by decide +kernel
theorem d_Feed_chooseKind_33 : decode b_Feed_chooseKind 33 = .ok (.iinc 2 (-1), 3) := by decide +kernel
theorem d_Feed_chooseKind_36 : decode b_Feed_chooseKind 36 = .ok (.goto (-30), 3) := by decide +kernel
theorem d_Feed_chooseKind_39 : decode b_Feed_chooseKind 39 = .ok (.iload_n 1, 1) := by decide +kernel
theorem d_Feed_chooseKind_40 : decode b_Feed_chooseKind 40 = .ok (.ireturn, 1) := by decide +kernel
theorem d_Feed_isFit_0 : decode b_Feed_isFit 0 = .ok (.iload_n 1, 1) := by decide +kernel
theorem d_Feed_isFit_1 : decode b_Feed_isFit 1 = .ok (.tableswitch 125 0 4 #[35, 52, 66, 80, 97], 35) := by decide +kernel
theorem d_Feed_isFit_36 : decode b_Feed_isFit 36 = .ok (.aload_n 0, 1) := by decide +kernel
theorem d_Feed_isFit_37 : decode b_Feed_isFit 37 = .ok (.getfield 41, 3) := by decide +kernel
theorem d_Feed_isFit_40 : decode b_Feed_isFit 40 = .ok (.getfield 122, 3) := by decide +kernel
theorem d_Feed_isFit_43 : decode b_Feed_isFit 43 = .ok (.iconst 1, 1) := by decide +kernel
theorem d_Feed_isFit_44 : decode b_Feed_isFit 44 = .ok (.if_icmp .ne 7, 3) := by decide +kernel
theorem d_Feed_isFit_47 : decode b_Feed_isFit 47 = .ok (.iconst 1, 1) := by decide +kernel
theorem d_Feed_isFit_48 : decode b_Feed_isFit 48 = .ok (.goto 4, 3) := by decide +kernel
theorem d_Feed_isFit_51 : decode b_Feed_isFit 51 = .ok (.iconst 0, 1) := by decide +kernel
theorem d_Feed_isFit_52 : decode b_Feed_isFit 52 = .ok (.ireturn, 1) := by decide +kernel
theorem d_Feed_isFit_53 : decode b_Feed_isFit 53 = .ok (.aload_n 0, 1) := by decide +kernel
theorem d_Feed_isFit_54 : decode b_Feed_isFit 54 = .ok (.getfield 91, 3) := by decide +kernel
theorem d_Feed_isFit_57 : decode b_Feed_isFit 57 = .ok (.iconst (-1), 1) := by decide +kernel
theorem d_Feed_isFit_58 : decode b_Feed_isFit 58 = .ok (.if_icmp .eq 7, 3) := by decide +kernel
theorem d_Feed_isFit_61 : decode b_Feed_isFit 61 = .ok (.iconst 1, 1) := by decide +kernel
theorem d_Feed_isFit_62 : decode b_Feed_isFit 62 = .ok (.goto 4, 3) := by decide +kernel
theorem d_Feed_isFit_65 : decode b_Feed_isFit 65 = .ok (.iconst 0, 1) := by decide +kernel
theorem d_Feed_isFit_66 : decode b_Feed_isFit 66 = .ok (.ireturn, 1) := by decide +kernel
theorem d_Feed_isFit_67 : decode b_Feed_isFit 67 = .ok (.aload_n 0, 1) := by decide +kernel
theorem d_Feed_isFit_68 : decode b_Feed_isFit 68 = .ok (.getfield 100, 3) := by decide +kernel
theorem d_Feed_isFit_71 : decode b_Feed_isFit 71 = .ok (.iconst (-1), 1) := by decide +kernel
theorem d_Feed_isFit_72 : decode b_Feed_isFit 72 = .ok (.if_icmp .eq 7, 3) := by decide +kernel
theorem d_Feed_isFit_75 : decode b_Feed_isFit 75 = .ok (.iconst 1, 1) := by decide +kernel
theorem d_Feed_isFit_76 : decode b_Feed_isFit 76 = .ok (.goto 4, 3) := by decide +kernel
theorem d_Feed_isFit_79 : decode b_Feed_isFit 79 = .ok (.iconst 0, 1) := by decide +kernel
theorem d_Feed_isFit_80 : decode b_Feed_isFit 80 = .ok (.ireturn, 1) := by decide +kernel
theorem d_Feed_isFit_81 : decode b_Feed_isFit 81 = .ok (.aload_n 0, 1) := by decide +kernel
theorem d_Feed_isFit_82 : decode b_Feed_isFit 82 = .ok (.getfield 41, 3) := by decide +kernel
theorem d_Feed_isFit_85 : decode b_Feed_isFit 85 = .ok (.getfield 122, 3) := by decide +kernel
theorem d_Feed_isFit_88 : decode b_Feed_isFit 88 = .ok (.iconst 2, 1) := by decide +kernel
theorem d_Feed_isFit_89 : decode b_Feed_isFit 89 = .ok (.if_icmp .ne 7, 3) := by decide +kernel
theorem d_Feed_isFit_92 : decode b_Feed_isFit 92 = .ok (.iconst 1, 1) := by decide +kernel
theorem d_Feed_isFit_93 : decode b_Feed_isFit 93 = .ok (.goto 4, 3) := by decide +kernel
theorem d_Feed_isFit_96 : decode b_Feed_isFit 96 = .ok (.iconst 0, 1) := by decide +kernel
theorem d_Feed_isFit_97 : decode b_Feed_isFit 97 = .ok (.ireturn, 1) := by decide +kernel
theorem d_Feed_isFit_98 : decode b_Feed_isFit 98 = .ok (.aload_n 0, 1) := by decide +kernel
theorem d_Feed_isFit_99 : decode b_Feed_isFit 99 = .ok (.getfield 41, 3) := by decide +kernel
theorem d_Feed_isFit_102 : decode b_Feed_isFit 102 = .ok (.getfield 122, 3) := by decide +kernel
theorem d_Feed_isFit_105 : decode b_Feed_isFit 105 = .ok (.iconst 3, 1) := by decide +kernel
theorem d_Feed_isFit_106 : decode b_Feed_isFit 106 = .ok (.if_icmp .lt 18, 3) := by decide +kernel
theorem d_Feed_isFit_109 : decode b_Feed_isFit 109 = .ok (.aload_n 0, 1) := by decide +kernel
theorem d_Feed_isFit_110 : decode b_Feed_isFit 110 = .ok (.getfield 41, 3) := by decide +kernel
theorem d_Feed_isFit_113 : decode b_Feed_isFit 113 = .ok (.getfield 122, 3) := by decide +kernel
theorem d_Feed_isFit_116 : decode b_Feed_isFit 116 = .ok (.iconst 4, 1) := by decide +kernel
theorem d_Feed_isFit_117 : decode b_Feed_isFit 117 = .ok (.if_icmp .gt 7, 3) := by decide +kernel
theorem d_Feed_isFit_120 : decode b_Feed_isFit 120 = .ok (.iconst 1, 1) := by decide +kernel
theorem d_Feed_isFit_121 : decode b_Feed_isFit 121 = .ok (.goto 4, 3) := by decide +kernel
theorem d_Feed_isFit_124 : decode b_Feed_isFit 124 = .ok (.iconst 0, 1) := by decide +kernel
theorem d_Feed_isFit_125 : decode b_Feed_isFit 125 = .ok (.ireturn, 1) := by decide +kernel
theorem d_Feed_isFit_126 : decode b_Feed_isFit 126 = .ok (.iconst 1, 1) := by decide +kernel
theorem d_Feed_isFit_127 : decode b_Feed_isFit 127 = .ok (.ireturn, 1) := by decide +kernel
theorem d_Feed_lengthOf_0 : decode b_Feed_lengthOf 0 = .ok (.iload_n 1, 1) := by decide +kernel
theorem d_Feed_lengthOf_1 : decode b_Feed_lengthOf 1 = .ok (.tableswitch 73 0 5 #[39, 41, 41, 43, 46, 61], 39) := by decide +kernel
theorem d_Feed_lengthOf_40 : decode b_Feed_lengthOf 40 = .ok (.iconst 2, 1) := by decide +kernel
theorem d_Feed_lengthOf_41 : decode b_Feed_lengthOf 41 = .ok (.ireturn, 1) := by decide +kernel
theorem d_Feed_lengthOf_42 : decode b_Feed_lengthOf 42 = .ok (.iconst 1, 1) := by decide +kernel
theorem d_Feed_lengthOf_43 : decode b_Feed_lengthOf 43 = .ok (.ireturn, 1) := by decide +kernel
theorem d_Feed_lengthOf_44 : decode b_Feed_lengthOf 44 = .ok (.bipush 12, 2) := by decide +kernel
theorem d_Feed_lengthOf_46 : decode b_Feed_lengthOf 46 = .ok (.ireturn, 1) := by decide +kernel
theorem d_Feed_lengthOf_47 : decode b_Feed_lengthOf 47 = .ok (.iconst 1, 1) := by decide +kernel
theorem d_Feed_lengthOf_48 : decode b_Feed_lengthOf 48 = .ok (.iconst 2, 1) := by decide +kernel
theorem d_Feed_lengthOf_49 : decode b_Feed_lengthOf 49 = .ok (.aload_n 0, 1) := by decide +kernel
theorem d_Feed_lengthOf_50 : decode b_Feed_lengthOf 50 = .ok (.getfield 41, 3) := by decide +kernel
theorem d_Feed_lengthOf_53 : decode b_Feed_lengthOf 53 = .ok (.getfield 122, 3) := by decide +kernel
theorem d_Feed_lengthOf_56 : decode b_Feed_lengthOf 56 = .ok (.imul, 1) := by decide +kernel
theorem d_Feed_lengthOf_57 : decode b_Feed_lengthOf 57 = .ok (.iadd, 1) := by decide +kernel
theorem d_Feed_lengthOf_58 : decode b_Feed_lengthOf 58 = .ok (.bipush 16, 2) := by decide +kernel
theorem d_Feed_lengthOf_60 : decode b_Feed_lengthOf 60 = .ok (.iadd, 1) := by decide +kernel
theorem d_Feed_lengthOf_61 : decode b_Feed_lengthOf 61 = .ok (.ireturn, 1) := by decide +kernel
theorem d_Feed_lengthOf_62 : decode b_Feed_lengthOf 62 = .ok (.iconst 1, 1) := by decide +kernel
theorem d_Feed_lengthOf_63 : decode b_Feed_lengthOf 63 = .ok (.iconst 3, 1) := by decide +kernel
theorem d_Feed_lengthOf_64 : decode b_Feed_lengthOf 64 = .ok (.aload_n 0, 1) := by decide +kernel
theorem d_Feed_lengthOf_65 : decode b_Feed_lengthOf 65 = .ok (.getfield 41, 3) := by decide +kernel
theorem d_Feed_lengthOf_68 : decode b_Feed_lengthOf 68 = .ok (.getfield 125, 3) := by decide +kernel
theorem d_Feed_lengthOf_71 : decode b_Feed_lengthOf 71 = .ok (.imul, 1) := by decide +kernel
theorem d_Feed_lengthOf_72 : decode b_Feed_lengthOf 72 = .ok (.iadd, 1) := by decide +kernel
theorem d_Feed_lengthOf_73 : decode b_Feed_lengthOf 73 = .ok (.ireturn, 1) := by decide +kernel
theorem d_Feed_lengthOf_74 : decode b_Feed_lengthOf 74 = .ok (.sipush 128, 3) := by decide +kernel
theorem d_Feed_lengthOf_77 : decode b_Feed_lengthOf 77 = .ok (.ireturn, 1) := by decide +kernel
theorem d_Feed_addContent_0 : decode b_Feed_addContent 0 = .ok (.iload_n 1, 1) := by decide +kernel
theorem d_Feed_addContent_1 : decode b_Feed_addContent 1 = .ok (.tableswitch 137 0 5 #[39, 58, 72, 86, 100, 128], 39) := by decide +kernel
theorem d_Feed_addContent_40 : decode b_Feed_addContent 40 = .ok (.aload_n 0, 1) := by decide +kernel
theorem d_Feed_addContent_41 : decode b_Feed_addContent 41 = .ok (.getfield 30, 3) := by decide +kernel
theorem d_Feed_addContent_44 : decode b_Feed_addContent 44 = .ok (.aload_n 0, 1) := by decide +kernel
theorem d_Feed_addContent_45 : decode b_Feed_addContent 45 = .ok (.getfield 41, 3) := by decide +kernel
theorem d_Feed_addContent_48 : decode b_Feed_addContent 48 = .ok (.getfield 128, 3) := by decide +kernel
theorem d_Feed_addContent_51 : decode b_Feed_addContent 51 = .ok (.iconst 0, 1) := by decide +kernel
theorem d_Feed_addContent_52 : decode b_Feed_addContent 52 = .ok (.iaload, 1) := by decide +kernel
theorem d_Feed_addContent_53 : decode b_Feed_addContent 53 = .ok (.invokevirtual 51, 3) := by decide +kernel
theorem d_Feed_addContent_56 : decode b_Feed_addContent 56 = .ok (.goto 88, 3) := by decide +kernel
theorem d_Feed_addContent_59 : decode b_Feed_addContent 59 = .ok (.aload_n 0, 1) := by decide +kernel
theorem d_Feed_addContent_60 : decode b_Feed_addContent 60 = .ok (.getfield 30, 3) := by decide +kernel
theorem d_Feed_addContent_63 : decode b_Feed_addContent 63 = .ok (.aload_n 0, 1) := by decide +kernel
theorem d_Feed_addContent_64 : decode b_Feed_addContent 64 = .ok (.getfield 91, 3) := by decide +kernel
theorem d_Feed_addContent_67 : decode b_Feed_addContent 67 = .ok (.invokevirtual 48, 3) := by decide +kernel
theorem d_Feed_addContent_70 : decode b_Feed_addContent 70 = .ok (.goto 74, 3) := by decide +kernel
theorem d_Feed_addContent_73 : decode b_Feed_addContent 73 = .ok (.aload_n 0, 1) := by decide +kernel
theorem d_Feed_addContent_74 : decode b_Feed_addContent 74 = .ok (.getfield 30, 3) := by decide +kernel
theorem d_Feed_addContent_77 : decode b_Feed_addContent 77 = .ok (.aload_n 0, 1) := by decide +kernel
theorem d_Feed_addContent_78 : decode b_Feed_addContent 78 = .ok (.getfield 100, 3) := by decide +kernel
theorem d_Feed_addContent_81 : decode b_Feed_addContent 81 = .ok (.invokevirtual 48, 3) := by decide +kernel
theorem d_Feed_addContent_84 : decode b_Feed_addContent 84 = .ok (.goto 60, 3) := by decide +kernel
theorem d_Feed_addContent_87 : decode b_Feed_addContent 87 = .ok (.aload_n 0, 1) := by decide +kernel
theorem d_Feed_addContent_88 : decode b_Feed_addContent 88 = .ok (.invokevirtual 131, 3) := by decide +kernel
theorem d_Feed_addContent_91 : decode b_Feed_addContent 91 = .ok (.aload_n 0, 1) := by decide +kernel
theorem d_Feed_addContent_92 : decode b_Feed_addContent 92 = .ok (.aload_n 2, 1) := by decide +kernel
theorem d_Feed_addContent_93 : decode b_Feed_addContent 93 = .ok (.iload_n 3, 1) := by decide +kernel
theorem d_Feed_addContent_94 : decode b_Feed_addContent 94 = .ok (.iconst 1, 1) := by decide +kernel
theorem d_Feed_addContent_95 : decode b_Feed_addContent 95 = .ok (.invokevirtual 134, 3) := by decide +kernel
theorem d_Feed_addContent_98 : decode b_Feed_addContent 98 = .ok (.goto 46, 3) := by decide +kernel
theorem d_Feed_addContent_101 : decode b_Feed_addContent 101 = .ok (.aload_n 0, 1) := by decide +kernel
theorem d_Feed_addContent_102 : decode b_Feed_addContent 102 = .ok (.getfield 30, 3) := by decide +kernel
theorem d_Feed_addContent_105 : decode b_Feed_addContent 105 = .ok (.aload_n 0, 1) := by decide +kernel
theorem d_Feed_addContent_106 : decode b_Feed_addContent 106 = .ok (.getfield 41, 3) := by decide +kernel
theorem d_Feed_addContent_109 : decode b_Feed_addContent 109 = .ok (.getfield 122, 3) := by decide +kernel
theorem d_Feed_addContent_112 : decode b_Feed_addContent 112 = .ok (.invokevirtual 48, 3) := by decide +kernel
theorem d_Feed_addContent_115 : decode b_Feed_addContent 115 = .ok (.aload_n 0, 1) := by decide +kernel
theorem d_Feed_addContent_116 : decode b_Feed_addContent 116 = .ok (.invokevirtual 131, 3) := by decide +kernel
theorem d_Feed_addContent_119 : decode b_Feed_addContent 119 = .ok (.aload_n 0, 1) := by decide +kernel
theorem d_Feed_addContent_120 : decode b_Feed_addContent 120 = .ok (.aload_n 2, 1) := by decide +kernel
theorem d_Feed_addContent_121 : decode b_Feed_addContent 121 = .ok (.iload_n 3, 1) := by decide +kernel
theorem d_Feed_addContent_122 : decode b_Feed_addContent 122 = .ok (.iconst 2, 1) := by decide +kernel
theorem d_Feed_addContent_123 : decode b_Feed_addContent 123 = .ok (.invokevirtual 134, 3) := by decide +kernel
theorem d_Feed_addContent_126 : decode b_Feed_addContent 126 = .ok (.goto 18, 3) := by decide +kernel
theorem d_Feed_addContent_129 : decode b_Feed_addContent 129 = .ok (.aload_n 0, 1) := by decide +kernel
theorem d_Feed_addContent_130 : decode b_Feed_addContent 130 = .ok (.aload_n 2, 1) := by decide +kernel
theorem d_Feed_addContent_131 : decode b_Feed_addContent 131 = .ok (.iload_n 3, 1) := by decide +kernel
theorem d_Feed_addContent_132 : decode b_Feed_addContent 132 = .ok (.invokevirtual 138, 3) := by decide +kernel
theorem d_Feed_addContent_135 : decode b_Feed_addContent 135 = .ok (.goto 9, 3) := by decide +kernel
theorem d_Feed_addContent_138 : decode b_Feed_addContent 138 = .ok (.aload_n 0, 1) := by decide +kernel
theorem d_Feed_addContent_139 : decode b_Feed_addContent 139 = .ok (.aload_n 2, 1) := by decide +kernel
theorem d_Feed_addContent_140 : decode b_Feed_addContent 140 = .ok (.iload_n 3, 1) := by decide +kernel
theorem d_Feed_addContent_141 : decode b_Feed_addContent 141 = .ok (.invokevirtual 141, 3) := by decide +kernel
theorem d_Feed_addContent_144 : decode b_Feed_addContent 144 = .ok (.return_, 1) := by decide +kernel
theorem d_Feed_addPalette_0 : decode b_Feed_addPalette 0 = .ok (.iconst 0, 1) := by decide +kernel
theorem d_Feed_addPalette_1 : decode b_Feed_addPalette 1 = .ok (.istore_n 1, 1) := by decide +kernel
theorem d_Feed_addPalette_2 : decode b_Feed_addPalette 2 = .ok (.iload_n 1, 1) := by decide +kernel
theorem d_Feed_addPalette_3 : decode b_Feed_addPalette 3 = .ok (.aload_n 0, 1) := by decide +kernel
theorem d_Feed_addPalette_4 : decode b_Feed_addPalette 4 = .ok (.getfield 41, 3) := by decide +kernel
theorem d_Feed_addPalette_7 : decode b_Feed_addPalette 7 = .ok (.getfield 122, 3) := by decide +kernel
theorem d_Feed_addPalette_10 : decode b_Feed_addPalette 10 = .ok (.if_icmp .ge 30, 3) := by decide +kernel
theorem d_Feed_addPalette_13 : decode b_Feed_addPalette 13 = .ok (.iload_n 1, 1) := by decide +kernel
theorem d_Feed_addPalette_14 : decode b_Feed_addPalette 14 = .ok (.iconst 4, 1) := by decide +kernel
theorem d_Feed_addPalette_15 : decode b_Feed_addPalette 15 = .ok (.if_icmp .ge 25, 3) := by decide +kernel
theorem d_Feed_addPalette_18 : decode b_Feed_addPalette 18 = .ok (.aload_n 0, 1) := by decide +kernel
theorem d_Feed_addPalette_19 : decode b_Feed_addPalette 19 = .ok (.getfield 30, 3) := by decide +kernel
theorem d_Feed_addPalette_22 : decode b_Feed_addPalette 22 = .ok (.aload_n 0, 1) := by decide +kernel
theorem d_Feed_addPalette_23 : decode b_Feed_addPalette 23 = .ok (.getfield 41, 3) := by decide +kernel
theorem d_Feed_addPalette_26 : decode b_Feed_addPalette 26 = .ok (.getfield 128, 3) := by decide +kernel
theorem d_Feed_addPalette_29 : decode b_Feed_addPalette 29 = .ok (.iload_n 1, 1) := by decide +kernel
theorem d_Feed_addPalette_30 : decode b_Feed_addPalette 30 = .ok (.iaload, 1) := by decide +kernel
theorem d_Feed_addPalette_31 : decode b_Feed_addPalette 31 = .ok (.invokevirtual 51, 3) := by decide +kernel
theorem d_Feed_addPalette_34 : decode b_Feed_addPalette 34 = .ok (.iinc 1 1, 3) := by decide +kernel
theorem d_Feed_addPalette_37 : decode b_Feed_addPalette 37 = .ok (.goto (-35), 3) := by decide +kernel
theorem d_Feed_addPalette_40 : decode b_Feed_addPalette 40 = .ok (.return_, 1) := by decide +kernel
theorem d_Feed_addBits_0 : decode b_Feed_addBits 0 = .ok (.iconst 0, 1) := by decide +kernel
theorem d_Feed_addBits_1 : decode b_Feed_addBits 1 = .ok (.istore 4, 2) := by decide +kernel
theorem d_Feed_addBits_3 : decode b_Feed_addBits 3 = .ok (.iconst 0, 1) := by decide +kernel
theorem d_Feed_addBits_4 : decode b_Feed_addBits 4 = .ok (.istore 5, 2) := by decide +kernel
theorem d_Feed_addBits_6 : decode b_Feed_addBits 6 = .ok (.iconst 0, 1) := by decide +kernel
theorem d_Feed_addBits_7 : decode b_Feed_addBits 7 = .ok (.istore 6, 2) := by decide +kernel
theorem d_Feed_addBits_9 : decode b_Feed_addBits 9 = .ok (.iload 6, 2) := by decide +kernel
theorem d_Feed_addBits_11 : decode b_Feed_addBits 11 = .ok (.bipush 64, 2) := by decide +kernel
theorem d_Feed_addBits_13 : decode b_Feed_addBits 13 = .ok (.if_icmp .ge 58, 3) := by decide +kernel
theorem d_Feed_addBits_16 : decode b_Feed_addBits 16 = .ok (.iload 4, 2) := by decide +kernel
theorem d_Feed_addBits_18 : decode b_Feed_addBits 18 = .ok (.iload_n 3, 1) := by decide +kernel
theorem d_Feed_addBits_19 : decode b_Feed_addBits 19 = .ok (.ishl, 1) := by decide +kernel
theorem d_Feed_addBits_20 : decode b_Feed_addBits 20 = .ok (.aload_n 0, 1) := by decide +kernel
theorem d_Feed_addBits_21 : decode b_Feed_addBits 21 = .ok (.getfield 41, 3) := by decide +kernel
theorem d_Feed_addBits_24 : decode b_Feed_addBits 24 = .ok (.aload_n 1, 1) := by decide +kernel
theorem d_Feed_addBits_25 : decode b_Feed_addBits 25 = .ok (.iload_n 2, 1) := by decide +kernel
theorem d_Feed_addBits_26 : decode b_Feed_addBits 26 = .ok (.iload 6, 2) := by decide +kernel
theorem d_Feed_addBits_28 : decode b_Feed_addBits 28 = .ok (.invokevirtual 144, 3) := by decide +kernel
theorem d_Feed_addBits_31 : decode b_Feed_addBits 31 = .ok (.invokevirtual 148, 3) := by decide +kernel
theorem d_Feed_addBits_34 : decode b_Feed_addBits 34 = .ok (.ior, 1) := by decide +kernel
theorem d_Feed_addBits_35 : decode b_Feed_addBits 35 = .ok (.istore 4, 2) := by decide +kernel
theorem d_Feed_addBits_37 : decode b_Feed_addBits 37 = .ok (.iload 5, 2) := by decide +kernel
theorem d_Feed_addBits_39 : decode b_Feed_addBits 39 = .ok (.iload_n 3, 1) := by decide +kernel
theorem d_Feed_addBits_40 : decode b_Feed_addBits 40 = .ok (.iadd, 1) := by decide +kernel
theorem d_Feed_addBits_41 : decode b_Feed_addBits 41 = .ok (.istore 5, 2) := by decide +kernel
theorem d_Feed_addBits_43 : decode b_Feed_addBits 43 = .ok (.iload 5, 2) := by decide +kernel
theorem d_Feed_addBits_45 : decode b_Feed_addBits 45 = .ok (.bipush 8, 2) := by decide +kernel
theorem d_Feed_addBits_47 : decode b_Feed_addBits 47 = .ok (.if_icmp .ne 18, 3) := by decide +kernel
theorem d_Feed_addBits_50 : decode b_Feed_addBits 50 = .ok (.aload_n 0, 1) := by decide +kernel
theorem d_Feed_addBits_51 : decode b_Feed_addBits 51 = .ok (.getfield 30, 3) := by decide +kernel
theorem d_Feed_addBits_54 : decode b_Feed_addBits 54 = .ok (.iload 4, 2) := by decide +kernel
theorem d_Feed_addBits_56 : decode b_Feed_addBits 56 = .ok (.invokevirtual 48, 3) := by decide +kernel
theorem d_Feed_addBits_59 : decode b_Feed_addBits 59 = .ok (.iconst 0, 1) := by decide +kernel
theorem d_Feed_addBits_60 : decode b_Feed_addBits 60 = .ok (.istore 4, 2) := by decide +kernel
theorem d_Feed_addBits_62 : decode b_Feed_addBits 62 = .ok (.iconst 0, 1) := by decide +kernel
theorem d_Feed_addBits_63 : decode b_Feed_addBits 63 = .ok (.istore 5, 2) := by decide +kernel
theorem d_Feed_addBits_65 : decode b_Feed_addBits 65 = .ok (.iinc 6 1, 3) := by decide +kernel
theorem d_Feed_addBits_68 : decode b_Feed_addBits 68 = .ok (.goto (-59), 3) := by decide +kernel
theorem d_Feed_addBits_71 : decode b_Feed_addBits 71 = .ok (.return_, 1) := by decide +kernel
theorem d_Feed_addRuns_0 : decode b_Feed_addRuns 0 = .ok (.aload_n 0, 1) := by decide +kernel
theorem d_Feed_addRuns_1 : decode b_Feed_addRuns 1 = .ok (.getfield 30, 3) := by decide +kernel
theorem d_Feed_addRuns_4 : decode b_Feed_addRuns 4 = .ok (.aload_n 0, 1) := by decide +kernel
theorem d_Feed_addRuns_5 : decode b_Feed_addRuns 5 = .ok (.getfield 41, 3) := by decide +kernel
theorem d_Feed_addRuns_8 : decode b_Feed_addRuns 8 = .ok (.getfield 125, 3) := by decide +kernel
theorem d_Feed_addRuns_11 : decode b_Feed_addRuns 11 = .ok (.invokevirtual 48, 3) := by decide +kernel
theorem d_Feed_addRuns_14 : decode b_Feed_addRuns 14 = .ok (.iconst 0, 1) := by decide +kernel
theorem d_Feed_addRuns_15 : decode b_Feed_addRuns 15 = .ok (.istore_n 3, 1) := by decide +kernel
theorem d_Feed_addRuns_16 : decode b_Feed_addRuns 16 = .ok (.iconst 0, 1) := by decide +kernel
theorem d_Feed_addRuns_17 : decode b_Feed_addRuns 17 = .ok (.istore 4, 2) := by decide +kernel
theorem d_Feed_addRuns_19 : decode b_Feed_addRuns 19 = .ok (.iload 4, 2) := by decide +kernel
theorem d_Feed_addRuns_21 : decode b_Feed_addRuns 21 = .ok (.bipush 64, 2) := by decide +kernel
theorem d_Feed_addRuns_23 : decode b_Feed_addRuns 23 = .ok (.if_icmp .ge 61, 3) := by decide +kernel
theorem d_Feed_addRuns_26 : decode b_Feed_addRuns 26 = .ok (.aload_n 1, 1) := by decide +kernel
theorem d_Feed_addRuns_27 : decode b_Feed_addRuns 27 = .ok (.iload_n 2, 1) := by decide +kernel
theorem d_Feed_addRuns_28 : decode b_Feed_addRuns 28 = .ok (.iload 4, 2) := by decide +kernel
theorem d_Feed_addRuns_30 : decode b_Feed_addRuns 30 = .ok (.invokevirtual 144, 3) := by decide +kernel
theorem d_Feed_addRuns_33 : decode b_Feed_addRuns 33 = .ok (.istore 5, 2) := by decide +kernel
theorem d_Feed_addRuns_35 : decode b_Feed_addRuns 35 = .ok (.iinc 3 1, 3) := by decide +kernel
theorem d_Feed_addRuns_38 : decode b_Feed_addRuns 38 = .ok (.iload 4, 2) := by decide +kernel
theorem d_Feed_addRuns_40 : decode b_Feed_addRuns 40 = .ok (.bipush 63, 2) := by decide +kernel
theorem d_Feed_addRuns_42 : decode b_Feed_addRuns 42 = .ok (.if_icmp .eq 17, 3) := by decide +kernel
theorem d_Feed_addRuns_45 : decode b_Feed_addRuns 45 = .ok (.aload_n 1, 1) := by decide +kernel
theorem d_Feed_addRuns_46 : decode b_Feed_addRuns 46 = .ok (.iload_n 2, 1) := by decide +kernel
theorem d_Feed_addRuns_47 : decode b_Feed_addRuns 47 = .ok (.iload 4, 2) := by decide +kernel
theorem d_Feed_addRuns_49 : decode b_Feed_addRuns 49 = .ok (.iconst 1, 1) := by decide +kernel
theorem d_Feed_addRuns_50 : decode b_Feed_addRuns 50 = .ok (.iadd, 1) := by decide +kernel
theorem d_Feed_addRuns_51 : decode b_Feed_addRuns 51 = .ok (.invokevirtual 144, 3) := by decide +kernel
theorem d_Feed_addRuns_54 : decode b_Feed_addRuns 54 = .ok (.iload 5, 2) := by decide +kernel
theorem d_Feed_addRuns_56 : decode b_Feed_addRuns 56 = .ok (.if_icmp .eq 22, 3) := by decide +kernel
theorem d_Feed_addRuns_59 : decode b_Feed_addRuns 59 = .ok (.aload_n 0, 1) := by decide +kernel
theorem d_Feed_addRuns_60 : decode b_Feed_addRuns 60 = .ok (.getfield 30, 3) := by decide +kernel
theorem d_Feed_addRuns_63 : decode b_Feed_addRuns 63 = .ok (.iload_n 3, 1) := by decide +kernel
theorem d_Feed_addRuns_64 : decode b_Feed_addRuns 64 = .ok (.invokevirtual 48, 3) := by decide +kernel
theorem d_Feed_addRuns_67 : decode b_Feed_addRuns 67 = .ok (.aload_n 0, 1) := by decide +kernel
theorem d_Feed_addRuns_68 : decode b_Feed_addRuns 68 = .ok (.getfield 30, 3) := by decide +kernel
theorem d_Feed_addRuns_71 : decode b_Feed_addRuns 71 = .ok (.iload 5, 2) := by decide +kernel
theorem d_Feed_addRuns_73 : decode b_Feed_addRuns 73 = .ok (.invokevirtual 51, 3) := by decide +kernel
theorem d_Feed_addRuns_76 : decode b_Feed_addRuns 76 = .ok (.iconst 0, 1) := by decide +kernel
theorem d_Feed_addRuns_77 : decode b_Feed_addRuns 77 = .ok (.istore_n 3, 1) := by decide +kernel
theorem d_Feed_addRuns_78 : decode b_Feed_addRuns 78 = .ok (.iinc 4 1, 3) := by decide +kernel
theorem d_Feed_addRuns_81 : decode b_Feed_addRuns 81 = .ok (.goto (-62), 3) := by decide +kernel
theorem d_Feed_addRuns_84 : decode b_Feed_addRuns 84 = .ok (.return_, 1) := by decide +kernel
theorem d_Feed_addRaw_0 : decode b_Feed_addRaw 0 = .ok (.iconst 0, 1) := by decide +kernel
theorem d_Feed_addRaw_1 : decode b_Feed_addRaw 1 = .ok (.istore_n 3, 1) := by decide +kernel
theorem d_Feed_addRaw_2 : decode b_Feed_addRaw 2 = .ok (.iload_n 3, 1) := by decide +kernel
theorem d_Feed_addRaw_3 : decode b_Feed_addRaw 3 = .ok (.bipush 64, 2) := by decide +kernel
theorem d_Feed_addRaw_5 : decode b_Feed_addRaw 5 = .ok (.if_icmp .ge 22, 3) := by decide +kernel
theorem d_Feed_addRaw_8 : decode b_Feed_addRaw 8 = .ok (.aload_n 0, 1) := by decide +kernel
theorem d_Feed_addRaw_9 : decode b_Feed_addRaw 9 = .ok (.getfield 30, 3) := by decide +kernel
theorem d_Feed_addRaw_12 : decode b_Feed_addRaw 12 = .ok (.aload_n 1, 1) := by decide +kernel
theorem d_Feed_addRaw_13 : decode b_Feed_addRaw 13 = .ok (.iload_n 2, 1) := by decide +kernel
theorem d_Feed_addRaw_14 : decode b_Feed_addRaw 14 = .ok (.iload_n 3, 1) := by decide +kernel
theorem d_Feed_addRaw_15 : decode b_Feed_addRaw 15 = .ok (.invokevirtual 144, 3) := by decide +kernel
theorem d_Feed_addRaw_18 : decode b_Feed_addRaw 18 = .ok (.invokevirtual 51, 3) := by decide +kernel
theorem d_Feed_addRaw_21 : decode b_Feed_addRaw 21 = .ok (.iinc 3 1, 3) := by decide +kernel
theorem d_Feed_addRaw_24 : decode b_Feed_addRaw 24 = .ok (.goto (-22), 3) := by decide +kernel
theorem d_Feed_addRaw_27 : decode b_Feed_addRaw 27 = .ok (.return_, 1) := by decide +kernel
theorem d_Display_init_0 : decode b_Display_init 0 = .ok (.aload_n 0, 1) := by decide +kernel
theorem d_Display_init_1 : decode b_Display_init 1 = .ok (.invokespecial 3, 3) := by decide +kernel
theorem d_Display_init_4 : decode b_Display_init 4 = .ok (.aload_n 0, 1) := by decide +kernel
theorem d_Display_init_5 : decode b_Display_init 5 = .ok (.new 9, 3) := by decide +kernel
theorem d_Display_init_8 : decode b_Display_init 8 = .ok (.dup, 1) := by decide +kernel
theorem d_Display_init_9 : decode b_Display_init 9 = .ok (.bipush 48, 2) := by decide +kernel
theorem d_Display_init_11 : decode b_Display_init 11 = .ok (.invokespecial 11, 3) := by decide +kernel
theorem d_Display_init_14 : decode b_Display_init 14 = .ok (.putfield 14, 3) := by decide +kernel
theorem d_Display_init_17 : decode b_Display_init 17 = .ok (.aload_n 0, 1) := by decide +kernel
theorem d_Display_init_18 : decode b_Display_init 18 = .ok (.new 9, 3) := by decide +kernel
theorem d_Display_init_21 : decode b_Display_init 21 = .ok (.dup, 1) := by decide +kernel
theorem d_Display_init_22 : decode b_Display_init 22 = .ok (.bipush 48, 2) := by decide +kernel
theorem d_Display_init_24 : decode b_Display_init 24 = .ok (.invokespecial 11, 3) := by decide +kernel
theorem d_Display_init_27 : decode b_Display_init 27 = .ok (.putfield 20, 3) := by decide +kernel
theorem d_Display_init_30 : decode b_Display_init 30 = .ok (.aload_n 0, 1) := by decide +kernel
theorem d_Display_init_31 : decode b_Display_init 31 = .ok (.new 23, 3) := by decide +kernel
theorem d_Display_init_34 : decode b_Display_init 34 = .ok (.dup, 1) := by decide +kernel
theorem d_Display_init_35 : decode b_Display_init 35 = .ok (.invokespecial 25, 3) := by decide +kernel
theorem d_Display_init_38 : decode b_Display_init 38 = .ok (.putfield 26, 3) := by decide +kernel
theorem d_Display_init_41 : decode b_Display_init 41 = .ok (.aload_n 0, 1) := by decide +kernel
theorem d_Display_init_42 : decode b_Display_init 42 = .ok (.sipush 6247, 3) := by decide +kernel
theorem d_Display_init_45 : decode b_Display_init 45 = .ok (.newarray .int, 2) := by decide +kernel
theorem d_Display_init_47 : decode b_Display_init 47 = .ok (.putfield 30, 3) := by decide +kernel
theorem d_Display_init_50 : decode b_Display_init 50 = .ok (.aload_n 0, 1) := by decide +kernel
theorem d_Display_init_51 : decode b_Display_init 51 = .ok (.iconst 4, 1) := by decide +kernel
theorem d_Display_init_52 : decode b_Display_init 52 = .ok (.newarray .int, 2) := by decide +kernel
theorem d_Display_init_54 : decode b_Display_init 54 = .ok (.putfield 34, 3) := by decide +kernel
theorem d_Display_init_57 : decode b_Display_init 57 = .ok (.return_, 1) := by decide +kernel
theorem d_Display_forget_0 : decode b_Display_forget 0 = .ok (.aload_n 0, 1) := by decide +kernel
theorem d_Display_forget_1 : decode b_Display_forget 1 = .ok (.iconst 0, 1) := by decide +kernel
theorem d_Display_forget_2 : decode b_Display_forget 2 = .ok (.putfield 37, 3) := by decide +kernel
theorem d_Display_forget_5 : decode b_Display_forget 5 = .ok (.aload_n 0, 1) := by decide +kernel
theorem d_Display_forget_6 : decode b_Display_forget 6 = .ok (.getfield 26, 3) := by decide +kernel
theorem d_Display_forget_9 : decode b_Display_forget 9 = .ok (.invokevirtual 41, 3) := by decide +kernel
theorem d_Display_forget_12 : decode b_Display_forget 12 = .ok (.return_, 1) := by decide +kernel
theorem d_Display_receive_0 : decode b_Display_receive 0 = .ok (.aload_n 0, 1) := by decide +kernel
theorem d_Display_receive_1 : decode b_Display_receive 1 = .ok (.getfield 37, 3) := by decide +kernel
theorem d_Display_receive_4 : decode b_Display_receive 4 = .ok (.sipush 6247, 3) := by decide +kernel
theorem d_Display_receive_7 : decode b_Display_receive 7 = .ok (.if_icmp .ge 23, 3) := by decide +kernel
theorem d_Display_receive_10 : decode b_Display_receive 10 = .ok (.aload_n 0, 1) := by decide +kernel
theorem d_Display_receive_11 : decode b_Display_receive 11 = .ok (.getfield 30, 3) := by decide +kernel
theorem d_Display_receive_14 : decode b_Display_receive 14 = .ok (.aload_n 0, 1) := by decide +kernel
theorem d_Display_receive_15 : decode b_Display_receive 15 = .ok (.getfield 37, 3) := by decide +kernel
theorem d_Display_receive_18 : decode b_Display_receive 18 = .ok (.iload_n 1, 1) := by decide +kernel
theorem d_Display_receive_19 : decode b_Display_receive 19 = .ok (.iastore, 1) := by decide +kernel
theorem d_Display_receive_20 : decode b_Display_receive 20 = .ok (.aload_n 0, 1) := by decide +kernel
theorem d_Display_receive_21 : decode b_Display_receive 21 = .ok (.dup, 1) := by decide +kernel
theorem d_Display_receive_22 : decode b_Display_receive 22 = .ok (.getfield 37, 3) := by decide +kernel
theorem d_Display_receive_25 : decode b_Display_receive 25 = .ok (.iconst 1, 1) := by decide +kernel
theorem d_Display_receive_26 : decode b_Display_receive 26 = .ok (.iadd, 1) := by decide +kernel
theorem d_Display_receive_27 : decode b_Display_receive 27 = .ok (.putfield 37, 3) := by decide +kernel
theorem d_Display_receive_30 : decode b_Display_receive 30 = .ok (.aload_n 0, 1) := by decide +kernel
theorem d_Display_receive_31 : decode b_Display_receive 31 = .ok (.getfield 37, 3) := by decide +kernel
theorem d_Display_receive_34 : decode b_Display_receive 34 = .ok (.iconst 3, 1) := by decide +kernel
theorem d_Display_receive_35 : decode b_Display_receive 35 = .ok (.if_icmp .ge 5, 3) := by decide +kernel
theorem d_Display_receive_38 : decode b_Display_receive 38 = .ok (.iconst 1, 1) := by decide +kernel
theorem d_Display_receive_39 : decode b_Display_receive 39 = .ok (.ireturn, 1) := by decide +kernel
theorem d_Display_receive_40 : decode b_Display_receive 40 = .ok (.aload_n 0, 1) := by decide +kernel
theorem d_Display_receive_41 : decode b_Display_receive 41 = .ok (.getfield 30, 3) := by decide +kernel
theorem d_Display_receive_44 : decode b_Display_receive 44 = .ok (.iconst 0, 1) := by decide +kernel
theorem d_Display_receive_45 : decode b_Display_receive 45 = .ok (.iaload, 1) := by decide +kernel
theorem d_Display_receive_46 : decode b_Display_receive 46 = .ok (.bipush 16, 2) := by decide +kernel
theorem d_Display_receive_48 : decode b_Display_receive 48 = .ok (.ishl, 1) := by decide +kernel
theorem d_Display_receive_49 : decode b_Display_receive 49 = .ok (.aload_n 0, 1) := by decide +kernel
theorem d_Display_receive_50 : decode b_Display_receive 50 = .ok (.getfield 30, 3) := by decide +kernel
theorem d_Display_receive_53 : decode b_Display_receive 53 = .ok (.iconst 1, 1) := by decide +kernel
theorem d_Display_receive_54 : decode b_Display_receive 54 = .ok (.iaload, 1) := by decide +kernel
theorem d_Display_receive_55 : decode b_Display_receive 55 = .ok (.bipush 8, 2) := by decide +kernel
theorem d_Display_receive_57 : decode b_Display_receive 57 = .ok (.ishl, 1) := by decide +kernel
theorem d_Display_receive_58 : decode b_Display_receive 58 = .ok (.ior, 1) := by decide +kernel
theorem d_Display_receive_59 : decode b_Display_receive 59 = .ok (.aload_n 0, 1) := by decide +kernel
theorem d_Display_receive_60 : decode b_Display_receive 60 = .ok (.getfield 30, 3) := by decide +kernel
theorem d_Display_receive_63 : decode b_Display_receive 63 = .ok (.iconst 2, 1) := by decide +kernel
theorem d_Display_receive_64 : decode b_Display_receive 64 = .ok (.iaload, 1) := by decide +kernel
theorem d_Display_receive_65 : decode b_Display_receive 65 = .ok (.ior, 1) := by decide +kernel
theorem d_Display_receive_66 : decode b_Display_receive 66 = .ok (.istore_n 2, 1) := by decide +kernel
theorem d_Display_receive_67 : decode b_Display_receive 67 = .ok (.iload_n 2, 1) := by decide +kernel
theorem d_Display_receive_68 : decode b_Display_receive 68 = .ok (.iconst 4, 1) := by decide +kernel
theorem d_Display_receive_69 : decode b_Display_receive 69 = .ok (.if_icmp .lt 10, 3) := by decide +kernel
theorem d_Display_receive_72 : decode b_Display_receive 72 = .ok (.iload_n 2, 1) := by decide +kernel
theorem d_Display_receive_73 : decode b_Display_receive 73 = .ok (.sipush 6244, 3) := by decide +kernel
theorem d_Display_receive_76 : decode b_Display_receive 76 = .ok (.if_icmp .le 5, 3) := by decide +kernel
theorem d_Display_receive_79 : decode b_Display_receive 79 = .ok (.iconst 0, 1) := by decide +kernel
theorem d_Display_receive_80 : decode b_Display_receive 80 = .ok (.ireturn, 1) := by decide +kernel
theorem d_Display_receive_81 : decode b_Display_receive 81 = .ok (.aload_n 0, 1) := by decide +kernel
theorem d_Display_receive_82 : decode b_Display_receive 82 = .ok (.getfield 37, 3) := by decide +kernel
theorem d_Display_receive_85 : decode b_Display_receive 85 = .ok (.iconst 3, 1) := by decide +kernel
theorem d_Display_receive_86 : decode b_Display_receive 86 = .ok (.iload_n 2, 1) := by decide +kernel
theorem d_Display_receive_87 : decode b_Display_receive 87 = .ok (.iadd, 1) := by decide +kernel
theorem d_Display_receive_88 : decode b_Display_receive 88 = .ok (.if_icmp .lt 10, 3) := by decide +kernel
theorem d_Display_receive_91 : decode b_Display_receive 91 = .ok (.aload_n 0, 1) := by decide +kernel
theorem d_Display_receive_92 : decode b_Display_receive 92 = .ok (.invokevirtual 44, 3) := by decide +kernel
theorem d_Display_receive_95 : decode b_Display_receive 95 = .ok (.ifCond .eq 7, 3) := by decide +kernel
theorem d_Display_receive_98 : decode b_Display_receive 98 = .ok (.iconst 1, 1) := by decide +kernel
theorem d_Display_receive_99 : decode b_Display_receive 99 = .ok (.goto 4, 3) := by decide +kernel
theorem d_Display_receive_102 : decode b_Display_receive 102 = .ok (.iconst 0, 1) := by decide +kernel
theorem d_Display_receive_103 : decode b_Display_receive 103 = .ok (.ireturn, 1) := by decide +kernel
theorem d_Display_readUpdate_0 : decode b_Display_readUpdate 0 = .ok (.aload_n 0, 1) := by decide +kernel
theorem d_Display_readUpdate_1 : decode b_Display_readUpdate 1 = .ok (.iconst 5, 1) := by decide +kernel
theorem d_Display_readUpdate_2 : decode b_Display_readUpdate 2 = .ok (.putfield 48, 3) := by decide +kernel
theorem d_Display_readUpdate_5 : decode b_Display_readUpdate 5 = .ok (.aload_n 0, 1) := by decide +kernel
theorem d_Display_readUpdate_6 : decode b_Display_readUpdate 6 = .ok (.aload_n 0, 1) := by decide +kernel
theorem d_Display_readUpdate_7 : decode b_Display_readUpdate 7 = .ok (.getfield 37, 3) := by decide +kernel
theorem d_Display_readUpdate_10 : decode b_Display_readUpdate 10 = .ok (.iconst 2, 1) := by decide +kernel
theorem d_Display_readUpdate_11 : decode b_Display_readUpdate 11 = .ok (.isub, 1) := by decide +kernel
theorem d_Display_readUpdate_12 : decode b_Display_readUpdate 12 = .ok (.putfield 51, 3) := by decide +kernel
theorem d_Display_readUpdate_15 : decode b_Display_readUpdate 15 = .ok (.aload_n 0, 1) := by decide +kernel
theorem d_Display_readUpdate_16 : decode b_Display_readUpdate 16 = .ok (.aload_n 0, 1) := by decide +kernel
theorem d_Display_readUpdate_17 : decode b_Display_readUpdate 17 = .ok (.getfield 30, 3) := by decide +kernel
theorem d_Display_readUpdate_20 : decode b_Display_readUpdate 20 = .ok (.iconst 3, 1) := by decide +kernel
theorem d_Display_readUpdate_21 : decode b_Display_readUpdate 21 = .ok (.aload_n 0, 1) := by decide +kernel
theorem d_Display_readUpdate_22 : decode b_Display_readUpdate 22 = .ok (.getfield 51, 3) := by decide +kernel
theorem d_Display_readUpdate_25 : decode b_Display_readUpdate 25 = .ok (.invokestatic 54, 3) := by decide +kernel
theorem d_Display_readUpdate_28 : decode b_Display_readUpdate 28 = .ok (.aload_n 0, 1) := by decide +kernel
theorem d_Display_readUpdate_29 : decode b_Display_readUpdate 29 = .ok (.aload_n 0, 1) := by decide +kernel
theorem d_Display_readUpdate_30 : decode b_Display_readUpdate 30 = .ok (.getfield 51, 3) := by decide +kernel
theorem d_Display_readUpdate_33 : decode b_Display_readUpdate 33 = .ok (.invokevirtual 58, 3) := by decide +kernel
theorem d_Display_readUpdate_36 : decode b_Display_readUpdate 36 = .ok (.if_icmp .eq 7, 3) := by decide +kernel
theorem d_Display_readUpdate_39 : decode b_Display_readUpdate 39 = .ok (.iconst 1, 1) := by decide +kernel
theorem d_Display_readUpdate_40 : decode b_Display_readUpdate 40 = .ok (.goto 4, 3) := by decide +kernel
theorem d_Display_readUpdate_43 : decode b_Display_readUpdate 43 = .ok (.iconst 0, 1) := by decide +kernel
theorem d_Display_readUpdate_44 : decode b_Display_readUpdate 44 = .ok (.putfield 62, 3) := by decide +kernel
theorem d_Display_readUpdate_47 : decode b_Display_readUpdate 47 = .ok (.aload_n 0, 1) := by decide +kernel
theorem d_Display_readUpdate_48 : decode b_Display_readUpdate 48 = .ok (.getfield 20, 3) := by decide +kernel
theorem d_Display_readUpdate_51 : decode b_Display_readUpdate 51 = .ok (.aload_n 0, 1) := by decide +kernel
theorem d_Display_readUpdate_52 : decode b_Display_readUpdate 52 = .ok (.getfield 14, 3) := by decide +kernel
theorem d_Display_readUpdate_55 : decode b_Display_readUpdate 55 = .ok (.invokevirtual 66, 3) := by decide +kernel
theorem d_Display_readUpdate_58 : decode b_Display_readUpdate 58 = .ok (.iconst 0, 1) := by decide +kernel
theorem d_Display_readUpdate_59 : decode b_Display_readUpdate 59 = .ok (.istore_n 1, 1) := by decide +kernel
theorem d_Display_readUpdate_60 : decode b_Display_readUpdate 60 = .ok (.iload_n 1, 1) := by decide +kernel
theorem d_Display_readUpdate_61 : decode b_Display_readUpdate 61 = .ok (.sipush 6244, 3) := by decide +kernel
theorem d_Display_readUpdate_64 : decode b_Display_readUpdate 64 = .ok (.if_icmp .ge 31, 3) := by decide +kernel
theorem d_Display_readUpdate_67 : decode b_Display_readUpdate 67 = .ok (.aload_n 0, 1) := by decide +kernel
theorem d_Display_readUpdate_68 : decode b_Display_readUpdate 68 = .ok (.getfield 48, 3) := by decide +kernel
theorem d_Display_readUpdate_71 : decode b_Display_readUpdate 71 = .ok (.aload_n 0, 1) := by decide +kernel
theorem d_Display_readUpdate_72 : decode b_Display_readUpdate 72 = .ok (.getfield 51, 3) := by decide +kernel
theorem d_Display_readUpdate_75 : decode b_Display_readUpdate 75 = .ok (.if_icmp .ge 20, 3) := by decide +kernel
theorem d_Display_readUpdate_78 : decode b_Display_readUpdate 78 = .ok (.aload_n 0, 1) := by decide +kernel
theorem d_Display_readUpdate_79 : decode b_Display_readUpdate 79 = .ok (.getfield 62, 3) := by decide +kernel
theorem d_Display_readUpdate_82 : decode b_Display_readUpdate 82 = .ok (.ifCond .ne 13, 3) := by decide +kernel
theorem d_Display_readUpdate_85 : decode b_Display_readUpdate 85 = .ok (.aload_n 0, 1) := by decide +kernel
theorem d_Display_readUpdate_86 : decode b_Display_readUpdate 86 = .ok (.invokevirtual 70, 3) := by decide +kernel
theorem d_Display_readUpdate_89 : decode b_Display_readUpdate 89 = .ok (.iinc 1 1, 3) := by decide +kernel
theorem d_Display_readUpdate_92 : decode b_Display_readUpdate 92 = .ok (.goto (-32), 3) := by decide +kernel
theorem d_Display_readUpdate_95 : decode b_Display_readUpdate 95 = .ok (.aload_n 0, 1) := by decide +kernel
theorem d_Display_readUpdate_96 : decode b_Display_readUpdate 96 = .ok (.getfield 62, 3) := by decide +kernel
theorem d_Display_readUpdate_99 : decode b_Display_readUpdate 99 = .ok (.ifCond .eq 5, 3) := by decide +kernel
theorem d_Display_readUpdate_102 : decode b_Display_readUpdate 102 = .ok (.iconst 0, 1) := by decide +kernel
theorem d_Display_readUpdate_103 : decode b_Display_readUpdate 103 = .ok (.ireturn, 1) := by decide +kernel
theorem d_Display_readUpdate_104 : decode b_Display_readUpdate 104 = .ok (.aload_n 0, 1) := by decide +kernel
theorem d_Display_readUpdate_105 : decode b_Display_readUpdate 105 = .ok (.getfield 14, 3) := by decide +kernel
theorem d_Display_readUpdate_108 : decode b_Display_readUpdate 108 = .ok (.aload_n 0, 1) := by decide +kernel
theorem d_Display_readUpdate_109 : decode b_Display_readUpdate 109 = .ok (.getfield 20, 3) := by decide +kernel
theorem d_Display_readUpdate_112 : decode b_Display_readUpdate 112 = .ok (.invokevirtual 66, 3) := by decide +kernel
theorem d_Display_readUpdate_115 : decode b_Display_readUpdate 115 = .ok (.aload_n 0, 1) := by decide +kernel
theorem d_Display_readUpdate_116 : decode b_Display_readUpdate 116 = .ok (.aload_n 0, 1) := by decide +kernel
theorem d_Display_readUpdate_117 : decode b_Display_readUpdate 117 = .ok (.getfield 73, 3) := by decide +kernel
theorem d_Display_readUpdate_120 : decode b_Display_readUpdate 120 = .ok (.aload_n 0, 1) := by decide +kernel
theorem d_Display_readUpdate_121 : decode b_Display_readUpdate 121 = .ok (.iconst 3, 1) := by decide +kernel
theorem d_Display_readUpdate_122 : decode b_Display_readUpdate 122 = .ok (.invokevirtual 58, 3) := by decide +kernel
theorem d_Display_readUpdate_125 : decode b_Display_readUpdate 125 = .ok (.invokestatic 76, 3) := by decide +kernel
theorem d_Display_readUpdate_128 : decode b_Display_readUpdate 128 = .ok (.putfield 73, 3) := by decide +kernel
theorem d_Display_readUpdate_131 : decode b_Display_readUpdate 131 = .ok (.aload_n 0, 1) := by decide +kernel
theorem d_Display_readUpdate_132 : decode b_Display_readUpdate 132 = .ok (.iconst 0, 1) := by decide +kernel
theorem d_Display_readUpdate_133 : decode b_Display_readUpdate 133 = .ok (.putfield 37, 3) := by decide +kernel
theorem d_Display_readUpdate_136 : decode b_Display_readUpdate 136 = .ok (.iconst 1, 1) := by decide +kernel
theorem d_Display_readUpdate_137 : decode b_Display_readUpdate 137 = .ok (.ireturn, 1) := by decide +kernel
theorem d_Display_numberAbove_0 : decode b_Display_numberAbove 0 = .ok (.iload_n 0, 1) := by decide +kernel
theorem d_Display_numberAbove_1 : decode b_Display_numberAbove 1 = .ok (.iconst 1, 1) := by decide +kernel
theorem d_Display_numberAbove_2 : decode b_Display_numberAbove 2 = .ok (.iadd, 1) := by decide +kernel
theorem d_Display_numberAbove_3 : decode b_Display_numberAbove 3 = .ok (.iload_n 1, 1) := by decide +kernel
theorem d_Display_numberAbove_4 : decode b_Display_numberAbove 4 = .ok (.iload_n 0, 1) := by decide +kernel
theorem d_Display_numberAbove_5 : decode b_Display_numberAbove 5 = .ok (.isub, 1) := by decide +kernel
theorem d_Display_numberAbove_6 : decode b_Display_numberAbove 6 = .ok (.iconst 1, 1) := by decide +kernel
theorem d_Display_numberAbove_7 : decode b_Display_numberAbove 7 = .ok (.isub, 1) := by decide +kernel
theorem d_Display_numberAbove_8 : decode b_Display_numberAbove 8 = .ok (.ldc 80, 2) := by decide +kernel
theorem d_Display_numberAbove_10 : decode b_Display_numberAbove 10 = .ok (.invokestatic 81, 3) := by decide +kernel
theorem d_Display_numberAbove_13 : decode b_Display_numberAbove 13 = .ok (.iadd, 1) := by decide +kernel
theorem d_Display_numberAbove_14 : decode b_Display_numberAbove 14 = .ok (.ireturn, 1) := by decide +kernel
theorem d_Display_pairAt_0 : decode b_Display_pairAt 0 = .ok (.aload_n 0, 1) := by decide +kernel
theorem d_Display_pairAt_1 : decode b_Display_pairAt 1 = .ok (.getfield 30, 3) := by decide +kernel
theorem d_Display_pairAt_4 : decode b_Display_pairAt 4 = .ok (.iload_n 1, 1) := by decide +kernel
theorem d_Display_pairAt_5 : decode b_Display_pairAt 5 = .ok (.iaload, 1) := by decide +kernel
theorem d_Display_pairAt_6 : decode b_Display_pairAt 6 = .ok (.bipush 8, 2) := by decide +kernel
theorem d_Display_pairAt_8 : decode b_Display_pairAt 8 = .ok (.ishl, 1) := by decide +kernel
theorem d_Display_pairAt_9 : decode b_Display_pairAt 9 = .ok (.aload_n 0, 1) := by decide +kernel
theorem d_Display_pairAt_10 : decode b_Display_pairAt 10 = .ok (.getfield 30, 3) := by decide +kernel
theorem d_Display_pairAt_13 : decode b_Display_pairAt 13 = .ok (.iload_n 1, 1) := by decide +kernel
theorem d_Display_pairAt_14 : decode b_Display_pairAt 14 = .ok (.iconst 1, 1) := by decide +kernel
theorem d_Display_pairAt_15 : decode b_Display_pairAt 15 = .ok (.iadd, 1) := by decide +kernel
theorem d_Display_pairAt_16 : decode b_Display_pairAt 16 = .ok (.iaload, 1) := by decide +kernel
theorem d_Display_pairAt_17 : decode b_Display_pairAt 17 = .ok (.ior, 1) := by decide +kernel
theorem d_Display_pairAt_18 : decode b_Display_pairAt 18 = .ok (.ireturn, 1) := by decide +kernel
theorem d_Display_readRecord_0 : decode b_Display_readRecord 0 = .ok (.aload_n 0, 1) := by decide +kernel
theorem d_Display_readRecord_1 : decode b_Display_readRecord 1 = .ok (.invokevirtual 86, 3) := by decide +kernel
theorem d_Display_readRecord_4 : decode b_Display_readRecord 4 = .ok (.istore_n 1, 1) := by decide +kernel
theorem d_Display_readRecord_5 : decode b_Display_readRecord 5 = .ok (.aload_n 0, 1) := by decide +kernel
theorem d_Display_readRecord_6 : decode b_Display_readRecord 6 = .ok (.invokevirtual 86, 3) := by decide +kernel
theorem d_Display_readRecord_9 : decode b_Display_readRecord 9 = .ok (.istore_n 2, 1) := by decide +kernel
theorem d_Display_readRecord_10 : decode b_Display_readRecord 10 = .ok (.iload_n 2, 1) := by decide +kernel
theorem d_Display_readRecord_11 : decode b_Display_readRecord 11 = .ok (.bipush 48, 2) := by decide +kernel
theorem d_Display_readRecord_13 : decode b_Display_readRecord 13 = .ok (.if_icmp .lt 9, 3) := by decide +kernel
theorem d_Display_readRecord_16 : decode b_Display_readRecord 16 = .ok (.aload_n 0, 1) := by decide +kernel
theorem d_Display_readRecord_17 : decode b_Display_readRecord 17 = .ok (.iconst 1, 1) := by decide +kernel
theorem d_Display_readRecord_18 : decode b_Display_readRecord 18 = .ok (.putfield 62, 3) := by decide +kernel
theorem d_Display_readRecord_21 : decode b_Display_readRecord 21 = .ok (.return_, 1) := by decide +kernel
theorem d_Display_readRecord_22 : decode b_Display_readRecord 22 = .ok (.iload_n 1, 1) := by decide +kernel
theorem d_Display_readRecord_23 : decode b_Display_readRecord 23 = .ok (.tableswitch 131 0 6 #[41, 56, 70, 92, 102, 115, 123], 41) := by decide +kernel
theorem d_Display_readRecord_64 : decode b_Display_readRecord 64 = .ok (.aload_n 0, 1) := by decide +kernel
theorem d_Display_readRecord_65 : decode b_Display_readRecord 65 = .ok (.iload_n 2, 1) := by decide +kernel
theorem d_Display_readRecord_66 : decode b_Display_readRecord 66 = .ok (.iconst 0, 1) := by decide +kernel
theorem d_Display_readRecord_67 : decode b_Display_readRecord 67 = .ok (.bipush 64, 2) := by decide +kernel
theorem d_Display_readRecord_69 : decode b_Display_readRecord 69 = .ok (.aload_n 0, 1) := by decide +kernel
theorem d_Display_readRecord_70 : decode b_Display_readRecord 70 = .ok (.invokevirtual 90, 3) := by decide +kernel
theorem d_Display_readRecord_73 : decode b_Display_readRecord 73 = .ok (.invokevirtual 93, 3) := by decide +kernel
theorem d_Display_readRecord_76 : decode b_Display_readRecord 76 = .ok (.goto 83, 3) := by decide +kernel
theorem d_Display_readRecord_79 : decode b_Display_readRecord 79 = .ok (.aload_n 0, 1) := by decide +kernel
theorem d_Display_readRecord_80 : decode b_Display_readRecord 80 = .ok (.iload_n 2, 1) := by decide +kernel
theorem d_Display_readRecord_81 : decode b_Display_readRecord 81 = .ok (.aload_n 0, 1) := by decide +kernel
theorem d_Display_readRecord_82 : decode b_Display_readRecord 82 = .ok (.getfield 14, 3) := by decide +kernel
theorem d_Display_readRecord_85 : decode b_Display_readRecord 85 = .ok (.bipush 48, 2) := by decide +kernel
theorem d_Display_readRecord_87 : decode b_Display_readRecord 87 = .ok (.invokevirtual 97, 3) := by decide +kernel
theorem d_Display_readRecord_90 : decode b_Display_readRecord 90 = .ok (.goto 69, 3) := by decide +kernel
theorem d_Display_readRecord_93 : decode b_Display_readRecord 93 = .ok (.aload_n 0, 1) := by decide +kernel
theorem d_Display_readRecord_94 : decode b_Display_readRecord 94 = .ok (.iload_n 2, 1) := by decide +kernel
theorem d_Display_readRecord_95 : decode b_Display_readRecord 95 = .ok (.aload_n 0, 1) := by decide +kernel
theorem d_Display_readRecord_96 : decode b_Display_readRecord 96 = .ok (.getfield 26, 3) := by decide +kernel
theorem d_Display_readRecord_99 : decode b_Display_readRecord 99 = .ok (.getfield 101, 3) := by decide +kernel
theorem d_Display_readRecord_102 : decode b_Display_readRecord 102 = .ok (.aload_n 0, 1) := by decide +kernel
theorem d_Display_readRecord_103 : decode b_Display_readRecord 103 = .ok (.getfield 26, 3) := by decide +kernel
theorem d_Display_readRecord_106 : decode b_Display_readRecord 106 = .ok (.getfield 104, 3) := by decide +kernel
theorem d_Display_readRecord_109 : decode b_Display_readRecord 109 = .ok (.invokevirtual 97, 3) := by decide +kernel
theorem d_Display_readRecord_112 : decode b_Display_readRecord 112 = .ok (.goto 47, 3) := by decide +kernel
theorem d_Display_readRecord_115 : decode b_Display_readRecord 115 = .ok (.aload_n 0, 1) := by decide +kernel
theorem d_Display_readRecord_116 : decode b_Display_readRecord 116 = .ok (.iload_n 2, 1) := by decide +kernel
theorem d_Display_readRecord_117 : decode b_Display_readRecord 117 = .ok (.iconst 2, 1) := by decide +kernel
theorem d_Display_readRecord_118 : decode b_Display_readRecord 118 = .ok (.iconst 1, 1) := by decide +kernel
theorem d_Display_readRecord_119 : decode b_Display_readRecord 119 = .ok (.invokevirtual 107, 3) := by decide +kernel
theorem d_Display_readRecord_122 : decode b_Display_readRecord 122 = .ok (.goto 37, 3) := by decide +kernel
theorem d_Display_readRecord_125 : decode b_Display_readRecord 125 = .ok (.aload_n 0, 1) := by decide +kernel
theorem d_Display_readRecord_126 : decode b_Display_readRecord 126 = .ok (.iload_n 2, 1) := by decide +kernel
theorem d_Display_readRecord_127 : decode b_Display_readRecord 127 = .ok (.aload_n 0, 1) := by decide +kernel
theorem d_Display_readRecord_128 : decode b_Display_readRecord 128 = .ok (.invokevirtual 111, 3) := by decide +kernel
theorem d_Display_readRecord_131 : decode b_Display_readRecord 131 = .ok (.iconst 2, 1) := by decide +kernel
theorem d_Display_readRecord_132 : decode b_Display_readRecord 132 = .ok (.invokevirtual 107, 3) := by decide +kernel
theorem d_Display_readRecord_135 : decode b_Display_readRecord 135 = .ok (.goto 24, 3) := by decide +kernel
theorem d_Display_readRecord_138 : decode b_Display_readRecord 138 = .ok (.aload_n 0, 1) := by decide +kernel
theorem d_Display_readRecord_139 : decode b_Display_readRecord 139 = .ok (.iload_n 2, 1) := by decide +kernel
theorem d_Display_readRecord_140 : decode b_Display_readRecord 140 = .ok (.invokevirtual 114, 3) := by decide +kernel
theorem d_Display_readRecord_143 : decode b_Display_readRecord 143 = .ok (.goto 16, 3) := by decide +kernel
theorem d_Display_readRecord_146 : decode b_Display_readRecord 146 = .ok (.aload_n 0, 1) := by decide +kernel
theorem d_Display_readRecord_147 : decode b_Display_readRecord 147 = .ok (.iload_n 2, 1) := by decide +kernel
theorem d_Display_readRecord_148 : decode b_Display_readRecord 148 = .ok (.invokevirtual 117, 3) := by decide +kernel
theorem d_Display_readRecord_151 : decode b_Display_readRecord 151 = .ok (.goto 8, 3) := by decide +kernel
theorem d_Display_readRecord_154 : decode b_Display_readRecord 154 = .ok (.aload_n 0, 1) := by decide +kernel
theorem d_Display_readRecord_155 : decode b_Display_readRecord 155 = .ok (.iconst 1, 1) := by decide +kernel
theorem d_Display_readRecord_156 : decode b_Display_readRecord 156 = .ok (.putfield 62, 3) := by decide +kernel
theorem d_Display_readRecord_159 : decode b_Display_readRecord 159 = .ok (.iload_n 1, 1) := by decide +kernel
theorem d_Display_readRecord_160 : decode b_Display_readRecord 160 = .ok (.iconst 3, 1) := by decide +kernel
theorem d_Display_readRecord_161 : decode b_Display_readRecord 161 = .ok (.if_icmp .lt 22, 3) := by decide +kernel
theorem d_Display_readRecord_164 : decode b_Display_readRecord 164 = .ok (.aload_n 0, 1) := by decide +kernel
theorem d_Display_readRecord_165 : decode b_Display_readRecord 165 = .ok (.getfield 62, 3) := by decide +kernel
theorem d_Display_readRecord_168 : decode b_Display_readRecord 168 = .ok (.ifCond .ne 15, 3) := by decide +kernel
theorem d_Display_readRecord_171 : decode b_Display_readRecord 171 = .ok (.aload_n 0, 1) := by decide +kernel
theorem d_Display_readRecord_172 : decode b_Display_readRecord 172 = .ok (.getfield 26, 3) := by decide +kernel
theorem d_Display_readRecord_175 : decode b_Display_readRecord 175 = .ok (.aload_n 0, 1) := by decide +kernel
theorem d_Display_readRecord_176 : decode b_Display_readRecord 176 = .ok (.getfield 20, 3) := by decide +kernel
theorem d_Display_readRecord_179 : decode b_Display_readRecord 179 = .ok (.iload_n 2, 1) := by decide +kernel
theorem d_Display_readRecord_180 : decode b_Display_readRecord 180 = .ok (.invokevirtual 120, 3) := by decide +kernel
theorem d_Display_readRecord_183 : decode b_Display_readRecord 183 = .ok (.return_, 1) := by decide +kernel
theorem d_Display_readSource_0 : decode b_Display_readSource 0 = .ok (.aload_n 0, 1) := by decide +kernel
theorem d_Display_readSource_1 : decode b_Display_readSource 1 = .ok (.invokevirtual 86, 3) := by decide +kernel
theorem d_Display_readSource_4 : decode b_Display_readSource 4 = .ok (.istore 4, 2) := by decide +kernel
theorem d_Display_readSource_6 : decode b_Display_readSource 6 = .ok (.iload 4, 2) := by decide +kernel
theorem d_Display_readSource_8 : decode b_Display_readSource 8 = .ok (.iload_n 3, 1) := by decide +kernel
theorem d_Display_readSource_9 : decode b_Display_readSource 9 = .ok (.if_icmp .ge 17, 3) := by decide +kernel
theorem d_Display_readSource_12 : decode b_Display_readSource 12 = .ok (.aload_n 0, 1) := by decide +kernel
theorem d_Display_readSource_13 : decode b_Display_readSource 13 = .ok (.getfield 20, 3) := by decide +kernel
theorem d_Display_readSource_16 : decode b_Display_readSource 16 = .ok (.iload_n 1, 1) := by decide +kernel
theorem d_Display_readSource_17 : decode b_Display_readSource 17 = .ok (.aload_n 2, 1) := by decide +kernel
theorem d_Display_readSource_18 : decode b_Display_readSource 18 = .ok (.iload 4, 2) := by decide +kernel
theorem d_Display_readSource_20 : decode b_Display_readSource 20 = .ok (.invokevirtual 124, 3) := by decide +kernel
theorem d_Display_readSource_23 : decode b_Display_readSource 23 = .ok (.goto 8, 3) := by decide +kernel
theorem d_Display_readSource_26 : decode b_Display_readSource 26 = .ok (.aload_n 0, 1) := by decide +kernel
theorem d_Display_readSource_27 : decode b_Display_readSource 27 = .ok (.iconst 1, 1) := by decide +kernel
theorem d_Display_readSource_28 : decode b_Display_readSource 28 = .ok (.putfield 62, 3) := by decide +kernel
theorem d_Display_readSource_31 : decode b_Display_readSource 31 = .ok (.return_, 1) := by decide +kernel
theorem d_Display_readColourCount_0 : decode b_Display_readColourCount 0 = .ok (.aload_n 0, 1) := by decide +kernel
theorem d_Display_readColourCount_1 : decode b_Display_readColourCount 1 = .ok (.invokevirtual 86, 3) := by decide +kernel
theorem d_Display_readColourCount_4 : decode b_Display_readColourCount 4 = .ok (.istore_n 1, 1) := by decide +kernel
theorem d_Display_readColourCount_5 : decode b_Display_readColourCount 5 = .ok (.iload_n 1, 1) := by decide +kernel
theorem d_Display_readColourCount_6 : decode b_Display_readColourCount 6 = .ok (.iconst 3, 1) := by decide +kernel
theorem d_Display_readColourCount_7 : decode b_Display_readColourCount 7 = .ok (.if_icmp .lt 8, 3) := by decide +kernel
theorem d_Display_readColourCount_10 : decode b_Display_readColourCount 10 = .ok (.iload_n 1, 1) := by decide +kernel
theorem d_Display_readColourCount_11 : decode b_Display_readColourCount 11 = .ok (.iconst 4, 1) := by decide +kernel
theorem d_Display_readColourCount_12 : decode b_Display_readColourCount 12 = .ok (.if_icmp .le 10, 3) := by decide +kernel
theorem d_Display_readColourCount_15 : decode b_Display_readColourCount 15 = .ok (.aload_n 0, 1) := by decide +kernel
theorem d_Display_readColourCount_16 : decode b_Display_readColourCount 16 = .ok (.iconst 1, 1) := by decide +kernel
theorem d_Display_readColourCount_17 : decode b_Display_readColourCount 17 = .ok (.putfield 62, 3) := by decide +kernel
theorem d_Display_readColourCount_20 : decode b_Display_readColourCount 20 = .ok (.iconst 0, 1) := by decide +kernel
theorem d_Display_readColourCount_21 : decode b_Display_readColourCount 21 = .ok (.ireturn, 1) := by decide +kernel
end
section
theorem d_Display_readColourCount_22 : decode b_Display_readColourCount 22 = .ok (.iload_n 1, 1) := by decide +kernel
theorem d_Display_readColourCount_23 : decode b_Display_readColourCount 23 = .ok (.ireturn, 1) := by decide +kernel
theorem d_Display_readPixels_0 : decode b_Display_readPixels 0 = .ok (.iconst 0, 1) := by decide +kernel
theorem d_Display_readPixels_1 : decode b_Display_readPixels 1 = .ok (.istore 4, 2) := by decide +kernel
theorem d_Display_readPixels_3 : decode b_Display_readPixels 3 = .ok (.iload 4, 2) := by decide +kernel
theorem d_Display_readPixels_5 : decode b_Display_readPixels 5 = .ok (.iload_n 2, 1) := by decide +kernel
theorem d_Display_readPixels_6 : decode b_Display_readPixels 6 = .ok (.if_icmp .ge 20, 3) := by decide +kernel
theorem d_Display_readPixels_9 : decode b_Display_readPixels 9 = .ok (.aload_n 0, 1) := by decide +kernel
theorem d_Display_readPixels_10 : decode b_Display_readPixels 10 = .ok (.getfield 34, 3) := by decide +kernel
theorem d_Display_readPixels_13 : decode b_Display_readPixels 13 = .ok (.iload 4, 2) := by decide +kernel
theorem d_Display_readPixels_15 : decode b_Display_readPixels 15 = .ok (.aload_n 0, 1) := by decide +kernel
theorem d_Display_readPixels_16 : decode b_Display_readPixels 16 = .ok (.invokevirtual 90, 3) := by decide +kernel
theorem d_Display_readPixels_19 : decode b_Display_readPixels 19 = .ok (.iastore, 1) := by decide +kernel
theorem d_Display_readPixels_20 : decode b_Display_readPixels 20 = .ok (.iinc 4 1, 3) := by decide +kernel
theorem d_Display_readPixels_23 : decode b_Display_readPixels 23 = .ok (.goto (-20), 3) := by decide +kernel
theorem d_Display_readPixels_26 : decode b_Display_readPixels 26 = .ok (.iconst 0, 1) := by decide +kernel
theorem d_Display_readPixels_27 : decode b_Display_readPixels 27 = .ok (.istore 4, 2) := by decide +kernel
theorem d_Display_readPixels_29 : decode b_Display_readPixels 29 = .ok (.iconst 0, 1) := by decide +kernel
theorem d_Display_readPixels_30 : decode b_Display_readPixels 30 = .ok (.istore 5, 2) := by decide +kernel
theorem d_Display_readPixels_32 : decode b_Display_readPixels 32 = .ok (.iconst 0, 1) := by decide +kernel
theorem d_Display_readPixels_33 : decode b_Display_readPixels 33 = .ok (.istore 6, 2) := by decide +kernel
theorem d_Display_readPixels_35 : decode b_Display_readPixels 35 = .ok (.iload 6, 2) := by decide +kernel
theorem d_Display_readPixels_37 : decode b_Display_readPixels 37 = .ok (.bipush 64, 2) := by decide +kernel
theorem d_Display_readPixels_39 : decode b_Display_readPixels 39 = .ok (.if_icmp .ge 74, 3) := by decide +kernel
theorem d_Display_readPixels_42 : decode b_Display_readPixels 42 = .ok (.iload 5, 2) := by decide +kernel
theorem d_Display_readPixels_44 : decode b_Display_readPixels 44 = .ok (.ifCond .ne 13, 3) := by decide +kernel
theorem d_Display_readPixels_47 : decode b_Display_readPixels 47 = .ok (.aload_n 0, 1) := by decide +kernel
theorem d_Display_readPixels_48 : decode b_Display_readPixels 48 = .ok (.invokevirtual 86, 3) := by decide +kernel
theorem d_Display_readPixels_51 : decode b_Display_readPixels 51 = .ok (.istore 4, 2) := by decide +kernel
theorem d_Display_readPixels_53 : decode b_Display_readPixels 53 = .ok (.bipush 8, 2) := by decide +kernel
theorem d_Display_readPixels_55 : decode b_Display_readPixels 55 = .ok (.istore 5, 2) := by decide +kernel
theorem d_Display_readPixels_57 : decode b_Display_readPixels 57 = .ok (.iload 5, 2) := by decide +kernel
theorem d_Display_readPixels_59 : decode b_Display_readPixels 59 = .ok (.iload_n 3, 1) := by decide +kernel
theorem d_Display_readPixels_60 : decode b_Display_readPixels 60 = .ok (.isub, 1) := by decide +kernel
theorem d_Display_readPixels_61 : decode b_Display_readPixels 61 = .ok (.istore 5, 2) := by decide +kernel
theorem d_Display_readPixels_63 : decode b_Display_readPixels 63 = .ok (.iload 4, 2) := by decide +kernel
theorem d_Display_readPixels_65 : decode b_Display_readPixels 65 = .ok (.iload 5, 2) := by decide +kernel
theorem d_Display_readPixels_67 : decode b_Display_readPixels 67 = .ok (.ishr, 1) := by decide +kernel
theorem d_Display_readPixels_68 : decode b_Display_readPixels 68 = .ok (.iconst 1, 1) := by decide +kernel
theorem d_Display_readPixels_69 : decode b_Display_readPixels 69 = .ok (.iload_n 3, 1) := by decide +kernel
theorem d_Display_readPixels_70 : decode b_Display_readPixels 70 = .ok (.ishl, 1) := by decide +kernel
theorem d_Display_readPixels_71 : decode b_Display_readPixels 71 = .ok (.iconst 1, 1) := by decide +kernel
theorem d_Display_readPixels_72 : decode b_Display_readPixels 72 = .ok (.isub, 1) := by decide +kernel
theorem d_Display_readPixels_73 : decode b_Display_readPixels 73 = .ok (.iand, 1) := by decide +kernel
theorem d_Display_readPixels_74 : decode b_Display_readPixels 74 = .ok (.istore 7, 2) := by decide +kernel
theorem d_Display_readPixels_76 : decode b_Display_readPixels 76 = .ok (.iload 7, 2) := by decide +kernel
theorem d_Display_readPixels_78 : decode b_Display_readPixels 78 = .ok (.iload_n 2, 1) := by decide +kernel
theorem d_Display_readPixels_79 : decode b_Display_readPixels 79 = .ok (.if_icmp .ge 23, 3) := by decide +kernel
theorem d_Display_readPixels_82 : decode b_Display_readPixels 82 = .ok (.aload_n 0, 1) := by decide +kernel
theorem d_Display_readPixels_83 : decode b_Display_readPixels 83 = .ok (.getfield 20, 3) := by decide +kernel
theorem d_Display_readPixels_86 : decode b_Display_readPixels 86 = .ok (.iload_n 1, 1) := by decide +kernel
theorem d_Display_readPixels_87 : decode b_Display_readPixels 87 = .ok (.iload 6, 2) := by decide +kernel
theorem d_Display_readPixels_89 : decode b_Display_readPixels 89 = .ok (.aload_n 0, 1) := by decide +kernel
theorem d_Display_readPixels_90 : decode b_Display_readPixels 90 = .ok (.getfield 34, 3) := by decide +kernel
theorem d_Display_readPixels_93 : decode b_Display_readPixels 93 = .ok (.iload 7, 2) := by decide +kernel
theorem d_Display_readPixels_95 : decode b_Display_readPixels 95 = .ok (.iaload, 1) := by decide +kernel
theorem d_Display_readPixels_96 : decode b_Display_readPixels 96 = .ok (.invokevirtual 127, 3) := by decide +kernel
theorem d_Display_readPixels_99 : decode b_Display_readPixels 99 = .ok (.goto 8, 3) := by decide +kernel
theorem d_Display_readPixels_102 : decode b_Display_readPixels 102 = .ok (.aload_n 0, 1) := by decide +kernel
theorem d_Display_readPixels_103 : decode b_Display_readPixels 103 = .ok (.iconst 1, 1) := by decide +kernel
theorem d_Display_readPixels_104 : decode b_Display_readPixels 104 = .ok (.putfield 62, 3) := by decide +kernel
theorem d_Display_readPixels_107 : decode b_Display_readPixels 107 = .ok (.iinc 6 1, 3) := by decide +kernel
theorem d_Display_readPixels_110 : decode b_Display_readPixels 110 = .ok (.goto (-75), 3) := by decide +kernel
theorem d_Display_readPixels_113 : decode b_Display_readPixels 113 = .ok (.return_, 1) := by decide +kernel
theorem d_Display_readRuns_0 : decode b_Display_readRuns 0 = .ok (.aload_n 0, 1) := by decide +kernel
theorem d_Display_readRuns_1 : decode b_Display_readRuns 1 = .ok (.invokevirtual 86, 3) := by decide +kernel
theorem d_Display_readRuns_4 : decode b_Display_readRuns 4 = .ok (.istore_n 2, 1) := by decide +kernel
theorem d_Display_readRuns_5 : decode b_Display_readRuns 5 = .ok (.iconst 0, 1) := by decide +kernel
theorem d_Display_readRuns_6 : decode b_Display_readRuns 6 = .ok (.istore_n 3, 1) := by decide +kernel
theorem d_Display_readRuns_7 : decode b_Display_readRuns 7 = .ok (.iconst 0, 1) := by decide +kernel
theorem d_Display_readRuns_8 : decode b_Display_readRuns 8 = .ok (.istore 4, 2) := by decide +kernel
theorem d_Display_readRuns_10 : decode b_Display_readRuns 10 = .ok (.iload 4, 2) := by decide +kernel
theorem d_Display_readRuns_12 : decode b_Display_readRuns 12 = .ok (.iload_n 2, 1) := by decide +kernel
theorem d_Display_readRuns_13 : decode b_Display_readRuns 13 = .ok (.if_icmp .ge 56, 3) := by decide +kernel
theorem d_Display_readRuns_16 : decode b_Display_readRuns 16 = .ok (.aload_n 0, 1) := by decide +kernel
theorem d_Display_readRuns_17 : decode b_Display_readRuns 17 = .ok (.invokevirtual 86, 3) := by decide +kernel
theorem d_Display_readRuns_20 : decode b_Display_readRuns 20 = .ok (.istore 5, 2) := by decide +kernel
theorem d_Display_readRuns_22 : decode b_Display_readRuns 22 = .ok (.aload_n 0, 1) := by decide +kernel
theorem d_Display_readRuns_23 : decode b_Display_readRuns 23 = .ok (.invokevirtual 90, 3) := by decide +kernel
theorem d_Display_readRuns_26 : decode b_Display_readRuns 26 = .ok (.istore 6, 2) := by decide +kernel
theorem d_Display_readRuns_28 : decode b_Display_readRuns 28 = .ok (.iload 5, 2) := by decide +kernel
theorem d_Display_readRuns_30 : decode b_Display_readRuns 30 = .ok (.ifCond .eq 12, 3) := by decide +kernel
theorem d_Display_readRuns_33 : decode b_Display_readRuns 33 = .ok (.iload 5, 2) := by decide +kernel
theorem d_Display_readRuns_35 : decode b_Display_readRuns 35 = .ok (.bipush 64, 2) := by decide +kernel
theorem d_Display_readRuns_37 : decode b_Display_readRuns 37 = .ok (.iload_n 3, 1) := by decide +kernel
theorem d_Display_readRuns_38 : decode b_Display_readRuns 38 = .ok (.isub, 1) := by decide +kernel
theorem d_Display_readRuns_39 : decode b_Display_readRuns 39 = .ok (.if_icmp .le 9, 3) := by decide +kernel
theorem d_Display_readRuns_42 : decode b_Display_readRuns 42 = .ok (.aload_n 0, 1) := by decide +kernel
theorem d_Display_readRuns_43 : decode b_Display_readRuns 43 = .ok (.iconst 1, 1) := by decide +kernel
theorem d_Display_readRuns_44 : decode b_Display_readRuns 44 = .ok (.putfield 62, 3) := by decide +kernel
theorem d_Display_readRuns_47 : decode b_Display_readRuns 47 = .ok (.return_, 1) := by decide +kernel
theorem d_Display_readRuns_48 : decode b_Display_readRuns 48 = .ok (.aload_n 0, 1) := by decide +kernel
theorem d_Display_readRuns_49 : decode b_Display_readRuns 49 = .ok (.iload_n 1, 1) := by decide +kernel
theorem d_Display_readRuns_50 : decode b_Display_readRuns 50 = .ok (.iload_n 3, 1) := by decide +kernel
theorem d_Display_readRuns_51 : decode b_Display_readRuns 51 = .ok (.iload 5, 2) := by decide +kernel
theorem d_Display_readRuns_53 : decode b_Display_readRuns 53 = .ok (.iload 6, 2) := by decide +kernel
theorem d_Display_readRuns_55 : decode b_Display_readRuns 55 = .ok (.invokevirtual 93, 3) := by decide +kernel
theorem d_Display_readRuns_58 : decode b_Display_readRuns 58 = .ok (.iload_n 3, 1) := by decide +kernel
theorem d_Display_readRuns_59 : decode b_Display_readRuns 59 = .ok (.iload 5, 2) := by decide +kernel
theorem d_Display_readRuns_61 : decode b_Display_readRuns 61 = .ok (.iadd, 1) := by decide +kernel
theorem d_Display_readRuns_62 : decode b_Display_readRuns 62 = .ok (.istore_n 3, 1) := by decide +kernel
theorem d_Display_readRuns_63 : decode b_Display_readRuns 63 = .ok (.iinc 4 1, 3) := by decide +kernel
theorem d_Display_readRuns_66 : decode b_Display_readRuns 66 = .ok (.goto (-56), 3) := by decide +kernel
theorem d_Display_readRuns_69 : decode b_Display_readRuns 69 = .ok (.iload_n 3, 1) := by decide +kernel
theorem d_Display_readRuns_70 : decode b_Display_readRuns 70 = .ok (.bipush 64, 2) := by decide +kernel
theorem d_Display_readRuns_72 : decode b_Display_readRuns 72 = .ok (.if_icmp .eq 8, 3) := by decide +kernel
theorem d_Display_readRuns_75 : decode b_Display_readRuns 75 = .ok (.aload_n 0, 1) := by decide +kernel
theorem d_Display_readRuns_76 : decode b_Display_readRuns 76 = .ok (.iconst 1, 1) := by decide +kernel
theorem d_Display_readRuns_77 : decode b_Display_readRuns 77 = .ok (.putfield 62, 3) := by decide +kernel
theorem d_Display_readRuns_80 : decode b_Display_readRuns 80 = .ok (.return_, 1) := by decide +kernel
theorem d_Display_readRaw_0 : decode b_Display_readRaw 0 = .ok (.iconst 0, 1) := by decide +kernel
theorem d_Display_readRaw_1 : decode b_Display_readRaw 1 = .ok (.istore_n 2, 1) := by decide +kernel
theorem d_Display_readRaw_2 : decode b_Display_readRaw 2 = .ok (.iload_n 2, 1) := by decide +kernel
theorem d_Display_readRaw_3 : decode b_Display_readRaw 3 = .ok (.bipush 64, 2) := by decide +kernel
theorem d_Display_readRaw_5 : decode b_Display_readRaw 5 = .ok (.if_icmp .ge 22, 3) := by decide +kernel
theorem d_Display_readRaw_8 : decode b_Display_readRaw 8 = .ok (.aload_n 0, 1) := by decide +kernel
theorem d_Display_readRaw_9 : decode b_Display_readRaw 9 = .ok (.getfield 20, 3) := by decide +kernel
theorem d_Display_readRaw_12 : decode b_Display_readRaw 12 = .ok (.iload_n 1, 1) := by decide +kernel
theorem d_Display_readRaw_13 : decode b_Display_readRaw 13 = .ok (.iload_n 2, 1) := by decide +kernel
theorem d_Display_readRaw_14 : decode b_Display_readRaw 14 = .ok (.aload_n 0, 1) := by decide +kernel
theorem d_Display_readRaw_15 : decode b_Display_readRaw 15 = .ok (.invokevirtual 90, 3) := by decide +kernel
theorem d_Display_readRaw_18 : decode b_Display_readRaw 18 = .ok (.invokevirtual 127, 3) := by decide +kernel
theorem d_Display_readRaw_21 : decode b_Display_readRaw 21 = .ok (.iinc 2 1, 3) := by decide +kernel
theorem d_Display_readRaw_24 : decode b_Display_readRaw 24 = .ok (.goto (-22), 3) := by decide +kernel
theorem d_Display_readRaw_27 : decode b_Display_readRaw 27 = .ok (.return_, 1) := by decide +kernel
theorem d_Display_paint_0 : decode b_Display_paint 0 = .ok (.iload_n 2, 1) := by decide +kernel
theorem d_Display_paint_1 : decode b_Display_paint 1 = .ok (.istore 5, 2) := by decide +kernel
theorem d_Display_paint_3 : decode b_Display_paint 3 = .ok (.iload 5, 2) := by decide +kernel
theorem d_Display_paint_5 : decode b_Display_paint 5 = .ok (.iload_n 2, 1) := by decide +kernel
theorem d_Display_paint_6 : decode b_Display_paint 6 = .ok (.iload_n 3, 1) := by decide +kernel
theorem d_Display_paint_7 : decode b_Display_paint 7 = .ok (.iadd, 1) := by decide +kernel
theorem d_Display_paint_8 : decode b_Display_paint 8 = .ok (.if_icmp .ge 21, 3) := by decide +kernel
theorem d_Display_paint_11 : decode b_Display_paint 11 = .ok (.aload_n 0, 1) := by decide +kernel
theorem d_Display_paint_12 : decode b_Display_paint 12 = .ok (.getfield 20, 3) := by decide +kernel
theorem d_Display_paint_15 : decode b_Display_paint 15 = .ok (.iload_n 1, 1) := by decide +kernel
theorem d_Display_paint_16 : decode b_Display_paint 16 = .ok (.iload 5, 2) := by decide +kernel
theorem d_Display_paint_18 : decode b_Display_paint 18 = .ok (.iload 4, 2) := by decide +kernel
theorem d_Display_paint_20 : decode b_Display_paint 20 = .ok (.invokevirtual 127, 3) := by decide +kernel
theorem d_Display_paint_23 : decode b_Display_paint 23 = .ok (.iinc 5 1, 3) := by decide +kernel
theorem d_Display_paint_26 : decode b_Display_paint 26 = .ok (.goto (-23), 3) := by decide +kernel
theorem d_Display_paint_29 : decode b_Display_paint 29 = .ok (.return_, 1) := by decide +kernel
theorem d_Display_readColour_0 : decode b_Display_readColour 0 = .ok (.aload_n 0, 1) := by decide +kernel
theorem d_Display_readColour_1 : decode b_Display_readColour 1 = .ok (.invokevirtual 86, 3) := by decide +kernel
theorem d_Display_readColour_4 : decode b_Display_readColour 4 = .ok (.istore_n 1, 1) := by decide +kernel
theorem d_Display_readColour_5 : decode b_Display_readColour 5 = .ok (.iload_n 1, 1) := by decide +kernel
theorem d_Display_readColour_6 : decode b_Display_readColour 6 = .ok (.bipush 8, 2) := by decide +kernel
theorem d_Display_readColour_8 : decode b_Display_readColour 8 = .ok (.ishl, 1) := by decide +kernel
theorem d_Display_readColour_9 : decode b_Display_readColour 9 = .ok (.aload_n 0, 1) := by decide +kernel
theorem d_Display_readColour_10 : decode b_Display_readColour 10 = .ok (.invokevirtual 86, 3) := by decide +kernel
theorem d_Display_readColour_13 : decode b_Display_readColour 13 = .ok (.ior, 1) := by decide +kernel
theorem d_Display_readColour_14 : decode b_Display_readColour 14 = .ok (.ireturn, 1) := by decide +kernel
theorem d_Display_readByte_0 : decode b_Display_readByte 0 = .ok (.aload_n 0, 1) := by decide +kernel
theorem d_Display_readByte_1 : decode b_Display_readByte 1 = .ok (.getfield 48, 3) := by decide +kernel
theorem d_Display_readByte_4 : decode b_Display_readByte 4 = .ok (.aload_n 0, 1) := by decide +kernel
theorem d_Display_readByte_5 : decode b_Display_readByte 5 = .ok (.getfield 51, 3) := by decide +kernel
theorem d_Display_readByte_8 : decode b_Display_readByte 8 = .ok (.if_icmp .lt 10, 3) := by decide +kernel
theorem d_Display_readByte_11 : decode b_Display_readByte 11 = .ok (.aload_n 0, 1) := by decide +kernel
theorem d_Display_readByte_12 : decode b_Display_readByte 12 = .ok (.iconst 1, 1) := by decide +kernel
theorem d_Display_readByte_13 : decode b_Display_readByte 13 = .ok (.putfield 62, 3) := by decide +kernel
theorem d_Display_readByte_16 : decode b_Display_readByte 16 = .ok (.iconst 0, 1) := by decide +kernel
theorem d_Display_readByte_17 : decode b_Display_readByte 17 = .ok (.ireturn, 1) := by decide +kernel
theorem d_Display_readByte_18 : decode b_Display_readByte 18 = .ok (.aload_n 0, 1) := by decide +kernel
theorem d_Display_readByte_19 : decode b_Display_readByte 19 = .ok (.getfield 30, 3) := by decide +kernel
theorem d_Display_readByte_22 : decode b_Display_readByte 22 = .ok (.aload_n 0, 1) := by decide +kernel
theorem d_Display_readByte_23 : decode b_Display_readByte 23 = .ok (.getfield 48, 3) := by decide +kernel
theorem d_Display_readByte_26 : decode b_Display_readByte 26 = .ok (.iaload, 1) := by decide +kernel
theorem d_Display_readByte_27 : decode b_Display_readByte 27 = .ok (.istore_n 1, 1) := by decide +kernel
theorem d_Display_readByte_28 : decode b_Display_readByte 28 = .ok (.aload_n 0, 1) := by decide +kernel
theorem d_Display_readByte_29 : decode b_Display_readByte 29 = .ok (.dup, 1) := by decide +kernel
theorem d_Display_readByte_30 : decode b_Display_readByte 30 = .ok (.getfield 48, 3) := by decide +kernel
theorem d_Display_readByte_33 : decode b_Display_readByte 33 = .ok (.iconst 1, 1) := by decide +kernel
theorem d_Display_readByte_34 : decode b_Display_readByte 34 = .ok (.iadd, 1) := by decide +kernel
theorem d_Display_readByte_35 : decode b_Display_readByte 35 = .ok (.putfield 48, 3) := by decide +kernel
theorem d_Display_readByte_38 : decode b_Display_readByte 38 = .ok (.iload_n 1, 1) := by decide +kernel
theorem d_Display_readByte_39 : decode b_Display_readByte 39 = .ok (.ireturn, 1) := by decide +kernel
theorem d_Viewer_init_0 : decode b_Viewer_init 0 = .ok (.aload_n 0, 1) := by decide +kernel
theorem d_Viewer_init_1 : decode b_Viewer_init 1 = .ok (.invokespecial 1, 3) := by decide +kernel
theorem d_Viewer_init_4 : decode b_Viewer_init 4 = .ok (.aload_n 0, 1) := by decide +kernel
theorem d_Viewer_init_5 : decode b_Viewer_init 5 = .ok (.new 7, 3) := by decide +kernel
theorem d_Viewer_init_8 : decode b_Viewer_init 8 = .ok (.dup, 1) := by decide +kernel
theorem d_Viewer_init_9 : decode b_Viewer_init 9 = .ok (.invokespecial 9, 3) := by decide +kernel
theorem d_Viewer_init_12 : decode b_Viewer_init 12 = .ok (.putfield 10, 3) := by decide +kernel
theorem d_Viewer_init_15 : decode b_Viewer_init 15 = .ok (.aload_n 0, 1) := by decide +kernel
theorem d_Viewer_init_16 : decode b_Viewer_init 16 = .ok (.new 16, 3) := by decide +kernel
theorem d_Viewer_init_19 : decode b_Viewer_init 19 = .ok (.dup, 1) := by decide +kernel
theorem d_Viewer_init_20 : decode b_Viewer_init 20 = .ok (.invokespecial 18, 3) := by decide +kernel
theorem d_Viewer_init_23 : decode b_Viewer_init 23 = .ok (.putfield 19, 3) := by decide +kernel
theorem d_Viewer_init_26 : decode b_Viewer_init 26 = .ok (.aload_n 0, 1) := by decide +kernel
theorem d_Viewer_init_27 : decode b_Viewer_init 27 = .ok (.new 23, 3) := by decide +kernel
theorem d_Viewer_init_30 : decode b_Viewer_init 30 = .ok (.dup, 1) := by decide +kernel
theorem d_Viewer_init_31 : decode b_Viewer_init 31 = .ok (.invokespecial 25, 3) := by decide +kernel
theorem d_Viewer_init_34 : decode b_Viewer_init 34 = .ok (.putfield 26, 3) := by decide +kernel
theorem d_Viewer_init_37 : decode b_Viewer_init 37 = .ok (.return_, 1) := by decide +kernel
theorem d_Viewer_connect_0 : decode b_Viewer_connect 0 = .ok (.aload_n 0, 1) := by decide +kernel
theorem d_Viewer_connect_1 : decode b_Viewer_connect 1 = .ok (.iconst 1, 1) := by decide +kernel
theorem d_Viewer_connect_2 : decode b_Viewer_connect 2 = .ok (.putfield 30, 3) := by decide +kernel
theorem d_Viewer_connect_5 : decode b_Viewer_connect 5 = .ok (.aload_n 0, 1) := by decide +kernel
theorem d_Viewer_connect_6 : decode b_Viewer_connect 6 = .ok (.dup, 1) := by decide +kernel
theorem d_Viewer_connect_7 : decode b_Viewer_connect 7 = .ok (.getfield 34, 3) := by decide +kernel
theorem d_Viewer_connect_10 : decode b_Viewer_connect 10 = .ok (.iconst 1, 1) := by decide +kernel
theorem d_Viewer_connect_11 : decode b_Viewer_connect 11 = .ok (.iadd, 1) := by decide +kernel
theorem d_Viewer_connect_12 : decode b_Viewer_connect 12 = .ok (.putfield 34, 3) := by decide +kernel
theorem d_Viewer_connect_15 : decode b_Viewer_connect 15 = .ok (.aload_n 0, 1) := by decide +kernel
theorem d_Viewer_connect_16 : decode b_Viewer_connect 16 = .ok (.getfield 10, 3) := by decide +kernel
theorem d_Viewer_connect_19 : decode b_Viewer_connect 19 = .ok (.getfield 38, 3) := by decide +kernel
theorem d_Viewer_connect_22 : decode b_Viewer_connect 22 = .ok (.aload_n 0, 1) := by decide +kernel
theorem d_Viewer_connect_23 : decode b_Viewer_connect 23 = .ok (.getfield 19, 3) := by decide +kernel
theorem d_Viewer_connect_26 : decode b_Viewer_connect 26 = .ok (.getfield 42, 3) := by decide +kernel
theorem d_Viewer_connect_29 : decode b_Viewer_connect 29 = .ok (.invokevirtual 45, 3) := by decide +kernel
theorem d_Viewer_connect_32 : decode b_Viewer_connect 32 = .ok (.aload_n 0, 1) := by decide +kernel
theorem d_Viewer_connect_33 : decode b_Viewer_connect 33 = .ok (.getfield 10, 3) := by decide +kernel
theorem d_Viewer_connect_36 : decode b_Viewer_connect 36 = .ok (.aload_n 0, 1) := by decide +kernel
theorem d_Viewer_connect_37 : decode b_Viewer_connect 37 = .ok (.getfield 19, 3) := by decide +kernel
theorem d_Viewer_connect_40 : decode b_Viewer_connect 40 = .ok (.getfield 51, 3) := by decide +kernel
theorem d_Viewer_connect_43 : decode b_Viewer_connect 43 = .ok (.putfield 54, 3) := by decide +kernel
theorem d_Viewer_connect_46 : decode b_Viewer_connect 46 = .ok (.aload_n 0, 1) := by decide +kernel
theorem d_Viewer_connect_47 : decode b_Viewer_connect 47 = .ok (.getfield 10, 3) := by decide +kernel
theorem d_Viewer_connect_50 : decode b_Viewer_connect 50 = .ok (.getfield 57, 3) := by decide +kernel
theorem d_Viewer_connect_53 : decode b_Viewer_connect 53 = .ok (.invokevirtual 61, 3) := by decide +kernel
theorem d_Viewer_connect_56 : decode b_Viewer_connect 56 = .ok (.aload_n 0, 1) := by decide +kernel
theorem d_Viewer_connect_57 : decode b_Viewer_connect 57 = .ok (.getfield 19, 3) := by decide +kernel
theorem d_Viewer_connect_60 : decode b_Viewer_connect 60 = .ok (.getfield 66, 3) := by decide +kernel
theorem d_Viewer_connect_63 : decode b_Viewer_connect 63 = .ok (.invokevirtual 61, 3) := by decide +kernel
theorem d_Viewer_connect_66 : decode b_Viewer_connect 66 = .ok (.return_, 1) := by decide +kernel
theorem d_Viewer_disconnect_0 : decode b_Viewer_disconnect 0 = .ok (.aload_n 0, 1) := by decide +kernel
theorem d_Viewer_disconnect_1 : decode b_Viewer_disconnect 1 = .ok (.iconst 0, 1) := by decide +kernel
theorem d_Viewer_disconnect_2 : decode b_Viewer_disconnect 2 = .ok (.putfield 30, 3) := by decide +kernel
theorem d_Viewer_disconnect_5 : decode b_Viewer_disconnect 5 = .ok (.aload_n 0, 1) := by decide +kernel
theorem d_Viewer_disconnect_6 : decode b_Viewer_disconnect 6 = .ok (.iconst 0, 1) := by decide +kernel
theorem d_Viewer_disconnect_7 : decode b_Viewer_disconnect 7 = .ok (.putfield 67, 3) := by decide +kernel
theorem d_Viewer_disconnect_10 : decode b_Viewer_disconnect 10 = .ok (.aload_n 0, 1) := by decide +kernel
theorem d_Viewer_disconnect_11 : decode b_Viewer_disconnect 11 = .ok (.getfield 10, 3) := by decide +kernel
theorem d_Viewer_disconnect_14 : decode b_Viewer_disconnect 14 = .ok (.getfield 70, 3) := by decide +kernel
theorem d_Viewer_disconnect_17 : decode b_Viewer_disconnect 17 = .ok (.invokevirtual 74, 3) := by decide +kernel
theorem d_Viewer_disconnect_20 : decode b_Viewer_disconnect 20 = .ok (.aload_n 0, 1) := by decide +kernel
theorem d_Viewer_disconnect_21 : decode b_Viewer_disconnect 21 = .ok (.getfield 19, 3) := by decide +kernel
theorem d_Viewer_disconnect_24 : decode b_Viewer_disconnect 24 = .ok (.invokevirtual 77, 3) := by decide +kernel
theorem d_Viewer_disconnect_27 : decode b_Viewer_disconnect 27 = .ok (.return_, 1) := by decide +kernel
theorem d_Scr_init_0 : decode b_Scr_init 0 = .ok (.aload_n 0, 1) := by decide +kernel
theorem d_Scr_init_1 : decode b_Scr_init 1 = .ok (.invokespecial 3, 3) := by decide +kernel
theorem d_Scr_init_4 : decode b_Scr_init 4 = .ok (.aload_n 0, 1) := by decide +kernel
theorem d_Scr_init_5 : decode b_Scr_init 5 = .ok (.new 9, 3) := by decide +kernel
theorem d_Scr_init_8 : decode b_Scr_init 8 = .ok (.dup, 1) := by decide +kernel
theorem d_Scr_init_9 : decode b_Scr_init 9 = .ok (.bipush 48, 2) := by decide +kernel
theorem d_Scr_init_11 : decode b_Scr_init 11 = .ok (.invokespecial 11, 3) := by decide +kernel
theorem d_Scr_init_14 : decode b_Scr_init 14 = .ok (.putfield 14, 3) := by decide +kernel
theorem d_Scr_init_17 : decode b_Scr_init 17 = .ok (.aload_n 0, 1) := by decide +kernel
theorem d_Scr_init_18 : decode b_Scr_init 18 = .ok (.new 9, 3) := by decide +kernel
theorem d_Scr_init_21 : decode b_Scr_init 21 = .ok (.dup, 1) := by decide +kernel
theorem d_Scr_init_22 : decode b_Scr_init 22 = .ok (.bipush 48, 2) := by decide +kernel
theorem d_Scr_init_24 : decode b_Scr_init 24 = .ok (.invokespecial 11, 3) := by decide +kernel
theorem d_Scr_init_27 : decode b_Scr_init 27 = .ok (.putfield 18, 3) := by decide +kernel
theorem d_Scr_init_30 : decode b_Scr_init 30 = .ok (.aload_n 0, 1) := by decide +kernel
theorem d_Scr_init_31 : decode b_Scr_init 31 = .ok (.new 9, 3) := by decide +kernel
theorem d_Scr_init_34 : decode b_Scr_init 34 = .ok (.dup, 1) := by decide +kernel
theorem d_Scr_init_35 : decode b_Scr_init 35 = .ok (.bipush 48, 2) := by decide +kernel
theorem d_Scr_init_37 : decode b_Scr_init 37 = .ok (.invokespecial 11, 3) := by decide +kernel
theorem d_Scr_init_40 : decode b_Scr_init 40 = .ok (.putfield 21, 3) := by decide +kernel
theorem d_Scr_init_43 : decode b_Scr_init 43 = .ok (.aload_n 0, 1) := by decide +kernel
theorem d_Scr_init_44 : decode b_Scr_init 44 = .ok (.iconst 3, 1) := by decide +kernel
theorem d_Scr_init_45 : decode b_Scr_init 45 = .ok (.anewarray 24, 3) := by decide +kernel
theorem d_Scr_init_48 : decode b_Scr_init 48 = .ok (.putfield 26, 3) := by decide +kernel
theorem d_Scr_init_51 : decode b_Scr_init 51 = .ok (.iconst 0, 1) := by decide +kernel
theorem d_Scr_init_52 : decode b_Scr_init 52 = .ok (.istore_n 1, 1) := by decide +kernel
theorem d_Scr_init_53 : decode b_Scr_init 53 = .ok (.iload_n 1, 1) := by decide +kernel
theorem d_Scr_init_54 : decode b_Scr_init 54 = .ok (.iconst 3, 1) := by decide +kernel
theorem d_Scr_init_55 : decode b_Scr_init 55 = .ok (.if_icmp .ge 22, 3) := by decide +kernel
theorem d_Scr_init_58 : decode b_Scr_init 58 = .ok (.aload_n 0, 1) := by decide +kernel
theorem d_Scr_init_59 : decode b_Scr_init 59 = .ok (.getfield 26, 3) := by decide +kernel
theorem d_Scr_init_62 : decode b_Scr_init 62 = .ok (.iload_n 1, 1) := by decide +kernel
theorem d_Scr_init_63 : decode b_Scr_init 63 = .ok (.new 24, 3) := by decide +kernel
theorem d_Scr_init_66 : decode b_Scr_init 66 = .ok (.dup, 1) := by decide +kernel
theorem d_Scr_init_67 : decode b_Scr_init 67 = .ok (.invokespecial 30, 3) := by decide +kernel
theorem d_Scr_init_70 : decode b_Scr_init 70 = .ok (.aastore, 1) := by decide +kernel
theorem d_Scr_init_71 : decode b_Scr_init 71 = .ok (.iinc 1 1, 3) := by decide +kernel
theorem d_Scr_init_74 : decode b_Scr_init 74 = .ok (.goto (-21), 3) := by decide +kernel
theorem d_Scr_init_77 : decode b_Scr_init 77 = .ok (.aload_n 0, 1) := by decide +kernel
theorem d_Scr_init_78 : decode b_Scr_init 78 = .ok (.iconst 0, 1) := by decide +kernel
theorem d_Scr_init_79 : decode b_Scr_init 79 = .ok (.putfield 31, 3) := by decide +kernel
theorem d_Scr_init_82 : decode b_Scr_init 82 = .ok (.return_, 1) := by decide +kernel
theorem d_Scr_fill_0 : decode b_Scr_fill 0 = .ok (.iload_n 1, 1) := by decide +kernel
theorem d_Scr_fill_1 : decode b_Scr_fill 1 = .ok (.iload_n 2, 1) := by decide +kernel
theorem d_Scr_fill_2 : decode b_Scr_fill 2 = .ok (.iload_n 3, 1) := by decide +kernel
theorem d_Scr_fill_3 : decode b_Scr_fill 3 = .ok (.iload 4, 2) := by decide +kernel
theorem d_Scr_fill_5 : decode b_Scr_fill 5 = .ok (.invokestatic 35, 3) := by decide +kernel
theorem d_Scr_fill_8 : decode b_Scr_fill 8 = .ok (.ifCond .eq 11, 3) := by decide +kernel
theorem d_Scr_fill_11 : decode b_Scr_fill 11 = .ok (.iload 5, 2) := by decide +kernel
theorem d_Scr_fill_13 : decode b_Scr_fill 13 = .ok (.invokestatic 39, 3) := by decide +kernel
theorem d_Scr_fill_16 : decode b_Scr_fill 16 = .ok (.ifCond .ne 5, 3) := by decide +kernel
theorem d_Scr_fill_19 : decode b_Scr_fill 19 = .ok (.iconst 0, 1) := by decide +kernel
theorem d_Scr_fill_20 : decode b_Scr_fill 20 = .ok (.ireturn, 1) := by decide +kernel
theorem d_Scr_fill_21 : decode b_Scr_fill 21 = .ok (.iload_n 2, 1) := by decide +kernel
theorem d_Scr_fill_22 : decode b_Scr_fill 22 = .ok (.istore 6, 2) := by decide +kernel
theorem d_Scr_fill_24 : decode b_Scr_fill 24 = .ok (.iload 6, 2) := by decide +kernel
theorem d_Scr_fill_26 : decode b_Scr_fill 26 = .ok (.iload_n 2, 1) := by decide +kernel
theorem d_Scr_fill_27 : decode b_Scr_fill 27 = .ok (.iload 4, 2) := by decide +kernel
theorem d_Scr_fill_29 : decode b_Scr_fill 29 = .ok (.iadd, 1) := by decide +kernel
theorem d_Scr_fill_30 : decode b_Scr_fill 30 = .ok (.if_icmp .ge 49, 3) := by decide +kernel
theorem d_Scr_fill_33 : decode b_Scr_fill 33 = .ok (.iload_n 1, 1) := by decide +kernel
theorem d_Scr_fill_34 : decode b_Scr_fill 34 = .ok (.istore 7, 2) := by decide +kernel
theorem d_Scr_fill_36 : decode b_Scr_fill 36 = .ok (.iload 7, 2) := by decide +kernel
theorem d_Scr_fill_38 : decode b_Scr_fill 38 = .ok (.iload_n 1, 1) := by decide +kernel
theorem d_Scr_fill_39 : decode b_Scr_fill 39 = .ok (.iload_n 3, 1) := by decide +kernel
theorem d_Scr_fill_40 : decode b_Scr_fill 40 = .ok (.iadd, 1) := by decide +kernel
theorem d_Scr_fill_41 : decode b_Scr_fill 41 = .ok (.if_icmp .ge 32, 3) := by decide +kernel
theorem d_Scr_fill_44 : decode b_Scr_fill 44 = .ok (.aload_n 0, 1) := by decide +kernel
theorem d_Scr_fill_45 : decode b_Scr_fill 45 = .ok (.getfield 14, 3) := by decide +kernel
theorem d_Scr_fill_48 : decode b_Scr_fill 48 = .ok (.iload 7, 2) := by decide +kernel
theorem d_Scr_fill_50 : decode b_Scr_fill 50 = .ok (.iload 6, 2) := by decide +kernel
theorem d_Scr_fill_52 : decode b_Scr_fill 52 = .ok (.invokestatic 43, 3) := by decide +kernel
theorem d_Scr_fill_55 : decode b_Scr_fill 55 = .ok (.iload 7, 2) := by decide +kernel
theorem d_Scr_fill_57 : decode b_Scr_fill 57 = .ok (.iload 6, 2) := by decide +kernel
theorem d_Scr_fill_59 : decode b_Scr_fill 59 = .ok (.invokestatic 47, 3) := by decide +kernel
theorem d_Scr_fill_62 : decode b_Scr_fill 62 = .ok (.iload 5, 2) := by decide +kernel
theorem d_Scr_fill_64 : decode b_Scr_fill 64 = .ok (.invokevirtual 50, 3) := by decide +kernel
theorem d_Scr_fill_67 : decode b_Scr_fill 67 = .ok (.iinc 7 1, 3) := by decide +kernel
theorem d_Scr_fill_70 : decode b_Scr_fill 70 = .ok (.goto (-34), 3) := by decide +kernel
theorem d_Scr_fill_73 : decode b_Scr_fill 73 = .ok (.iinc 6 1, 3) := by decide +kernel
theorem d_Scr_fill_76 : decode b_Scr_fill 76 = .ok (.goto (-52), 3) := by decide +kernel
theorem d_Scr_fill_79 : decode b_Scr_fill 79 = .ok (.iconst 1, 1) := by decide +kernel
theorem d_Scr_fill_80 : decode b_Scr_fill 80 = .ok (.ireturn, 1) := by decide +kernel
theorem d_Scr_blit_0 : decode b_Scr_blit 0 = .ok (.iload_n 1, 1) := by decide +kernel
theorem d_Scr_blit_1 : decode b_Scr_blit 1 = .ok (.ifCond .lt 8, 3) := by decide +kernel
theorem d_Scr_blit_4 : decode b_Scr_blit 4 = .ok (.iload_n 2, 1) := by decide +kernel
theorem d_Scr_blit_5 : decode b_Scr_blit 5 = .ok (.iconst 1, 1) := by decide +kernel
theorem d_Scr_blit_6 : decode b_Scr_blit 6 = .ok (.if_icmp .ge 5, 3) := by decide +kernel
theorem d_Scr_blit_9 : decode b_Scr_blit 9 = .ok (.iconst 0, 1) := by decide +kernel
theorem d_Scr_blit_10 : decode b_Scr_blit 10 = .ok (.ireturn, 1) := by decide +kernel
theorem d_Scr_blit_11 : decode b_Scr_blit 11 = .ok (.iload_n 1, 1) := by decide +kernel
theorem d_Scr_blit_12 : decode b_Scr_blit 12 = .ok (.bipush 64, 2) := by decide +kernel
theorem d_Scr_blit_14 : decode b_Scr_blit 14 = .ok (.irem, 1) := by decide +kernel
theorem d_Scr_blit_15 : decode b_Scr_blit 15 = .ok (.istore 5, 2) := by decide +kernel
theorem d_Scr_blit_17 : decode b_Scr_blit 17 = .ok (.iload_n 1, 1) := by decide +kernel
theorem d_Scr_blit_18 : decode b_Scr_blit 18 = .ok (.bipush 64, 2) := by decide +kernel
theorem d_Scr_blit_20 : decode b_Scr_blit 20 = .ok (.idiv, 1) := by decide +kernel
theorem d_Scr_blit_21 : decode b_Scr_blit 21 = .ok (.istore 6, 2) := by decide +kernel
theorem d_Scr_blit_23 : decode b_Scr_blit 23 = .ok (.iload_n 2, 1) := by decide +kernel
theorem d_Scr_blit_24 : decode b_Scr_blit 24 = .ok (.iconst 1, 1) := by decide +kernel
theorem d_Scr_blit_25 : decode b_Scr_blit 25 = .ok (.isub, 1) := by decide +kernel
theorem d_Scr_blit_26 : decode b_Scr_blit 26 = .ok (.bipush 64, 2) := by decide +kernel
theorem d_Scr_blit_28 : decode b_Scr_blit 28 = .ok (.irem, 1) := by decide +kernel
theorem d_Scr_blit_29 : decode b_Scr_blit 29 = .ok (.iconst 1, 1) := by decide +kernel
theorem d_Scr_blit_30 : decode b_Scr_blit 30 = .ok (.iadd, 1) := by decide +kernel
theorem d_Scr_blit_31 : decode b_Scr_blit 31 = .ok (.istore 7, 2) := by decide +kernel
theorem d_Scr_blit_33 : decode b_Scr_blit 33 = .ok (.iload_n 2, 1) := by decide +kernel
theorem d_Scr_blit_34 : decode b_Scr_blit 34 = .ok (.iconst 1, 1) := by decide +kernel
theorem d_Scr_blit_35 : decode b_Scr_blit 35 = .ok (.isub, 1) := by decide +kernel
theorem d_Scr_blit_36 : decode b_Scr_blit 36 = .ok (.bipush 64, 2) := by decide +kernel
theorem d_Scr_blit_38 : decode b_Scr_blit 38 = .ok (.idiv, 1) := by decide +kernel
theorem d_Scr_blit_39 : decode b_Scr_blit 39 = .ok (.istore 8, 2) := by decide +kernel
theorem d_Scr_blit_41 : decode b_Scr_blit 41 = .ok (.iload 5, 2) := by decide +kernel
theorem d_Scr_blit_43 : decode b_Scr_blit 43 = .ok (.iload 6, 2) := by decide +kernel
theorem d_Scr_blit_45 : decode b_Scr_blit 45 = .ok (.iload 7, 2) := by decide +kernel
theorem d_Scr_blit_47 : decode b_Scr_blit 47 = .ok (.iload 8, 2) := by decide +kernel
theorem d_Scr_blit_49 : decode b_Scr_blit 49 = .ok (.invokestatic 35, 3) := by decide +kernel
theorem d_Scr_blit_52 : decode b_Scr_blit 52 = .ok (.ifCond .eq 16, 3) := by decide +kernel
theorem d_Scr_blit_55 : decode b_Scr_blit 55 = .ok (.iload_n 3, 1) := by decide +kernel
theorem d_Scr_blit_56 : decode b_Scr_blit 56 = .ok (.iload 4, 2) := by decide +kernel
theorem d_Scr_blit_58 : decode b_Scr_blit 58 = .ok (.iload 7, 2) := by decide +kernel
theorem d_Scr_blit_60 : decode b_Scr_blit 60 = .ok (.iload 8, 2) := by decide +kernel
theorem d_Scr_blit_62 : decode b_Scr_blit 62 = .ok (.invokestatic 35, 3) := by decide +kernel
theorem d_Scr_blit_65 : decode b_Scr_blit 65 = .ok (.ifCond .ne 5, 3) := by decide +kernel
theorem d_Scr_blit_68 : decode b_Scr_blit 68 = .ok (.iconst 0, 1) := by decide +kernel
theorem d_Scr_blit_69 : decode b_Scr_blit 69 = .ok (.ireturn, 1) := by decide +kernel
theorem d_Scr_blit_70 : decode b_Scr_blit 70 = .ok (.aload_n 0, 1) := by decide +kernel
theorem d_Scr_blit_71 : decode b_Scr_blit 71 = .ok (.getfield 21, 3) := by decide +kernel
theorem d_Scr_blit_74 : decode b_Scr_blit 74 = .ok (.aload_n 0, 1) := by decide +kernel
theorem d_Scr_blit_75 : decode b_Scr_blit 75 = .ok (.getfield 14, 3) := by decide +kernel
theorem d_Scr_blit_78 : decode b_Scr_blit 78 = .ok (.invokevirtual 54, 3) := by decide +kernel
theorem d_Scr_blit_81 : decode b_Scr_blit 81 = .ok (.iconst 0, 1) := by decide +kernel
theorem d_Scr_blit_82 : decode b_Scr_blit 82 = .ok (.istore 9, 2) := by decide +kernel
theorem d_Scr_blit_84 : decode b_Scr_blit 84 = .ok (.iload 9, 2) := by decide +kernel
theorem d_Scr_blit_86 : decode b_Scr_blit 86 = .ok (.iload 8, 2) := by decide +kernel
theorem d_Scr_blit_88 : decode b_Scr_blit 88 = .ok (.if_icmp .ge 77, 3) := by decide +kernel
theorem d_Scr_blit_91 : decode b_Scr_blit 91 = .ok (.iconst 0, 1) := by decide +kernel
theorem d_Scr_blit_92 : decode b_Scr_blit 92 = .ok (.istore 10, 2) := by decide +kernel
theorem d_Scr_blit_94 : decode b_Scr_blit 94 = .ok (.iload 10, 2) := by decide +kernel
theorem d_Scr_blit_96 : decode b_Scr_blit 96 = .ok (.iload 7, 2) := by decide +kernel
theorem d_Scr_blit_98 : decode b_Scr_blit 98 = .ok (.if_icmp .ge 61, 3) := by decide +kernel
theorem d_Scr_blit_101 : decode b_Scr_blit 101 = .ok (.aload_n 0, 1) := by decide +kernel
theorem d_Scr_blit_102 : decode b_Scr_blit 102 = .ok (.getfield 21, 3) := by decide +kernel
theorem d_Scr_blit_105 : decode b_Scr_blit 105 = .ok (.iload 5, 2) := by decide +kernel
theorem d_Scr_blit_107 : decode b_Scr_blit 107 = .ok (.iload 10, 2) := by decide +kernel
theorem d_Scr_blit_109 : decode b_Scr_blit 109 = .ok (.iadd, 1) := by decide +kernel
theorem d_Scr_blit_110 : decode b_Scr_blit 110 = .ok (.iload 6, 2) := by decide +kernel
theorem d_Scr_blit_112 : decode b_Scr_blit 112 = .ok (.iload 9, 2) := by decide +kernel
theorem d_Scr_blit_114 : decode b_Scr_blit 114 = .ok (.iadd, 1) := by decide +kernel
theorem d_Scr_blit_115 : decode b_Scr_blit 115 = .ok (.invokestatic 58, 3) := by decide +kernel
theorem d_Scr_blit_118 : decode b_Scr_blit 118 = .ok (.istore 11, 2) := by decide +kernel
theorem d_Scr_blit_120 : decode b_Scr_blit 120 = .ok (.aload_n 0, 1) := by decide +kernel
theorem d_Scr_blit_121 : decode b_Scr_blit 121 = .ok (.getfield 14, 3) := by decide +kernel
theorem d_Scr_blit_124 : decode b_Scr_blit 124 = .ok (.iload_n 3, 1) := by decide +kernel
theorem d_Scr_blit_125 : decode b_Scr_blit 125 = .ok (.iload 10, 2) := by decide +kernel
theorem d_Scr_blit_127 : decode b_Scr_blit 127 = .ok (.iadd, 1) := by decide +kernel
theorem d_Scr_blit_128 : decode b_Scr_blit 128 = .ok (.iload 4, 2) := by decide +kernel
theorem d_Scr_blit_130 : decode b_Scr_blit 130 = .ok (.iload 9, 2) := by decide +kernel
theorem d_Scr_blit_132 : decode b_Scr_blit 132 = .ok (.iadd, 1) := by decide +kernel
theorem d_Scr_blit_133 : decode b_Scr_blit 133 = .ok (.invokestatic 43, 3) := by decide +kernel
theorem d_Scr_blit_136 : decode b_Scr_blit 136 = .ok (.iload_n 3, 1) := by decide +kernel
theorem d_Scr_blit_137 : decode b_Scr_blit 137 = .ok (.iload 10, 2) := by decide +kernel
theorem d_Scr_blit_139 : decode b_Scr_blit 139 = .ok (.iadd, 1) := by decide +kernel
theorem d_Scr_blit_140 : decode b_Scr_blit 140 = .ok (.iload 4, 2) := by decide +kernel
theorem d_Scr_blit_142 : decode b_Scr_blit 142 = .ok (.iload 9, 2) := by decide +kernel
theorem d_Scr_blit_144 : decode b_Scr_blit 144 = .ok (.iadd, 1) := by decide +kernel
theorem d_Scr_blit_145 : decode b_Scr_blit 145 = .ok (.invokestatic 47, 3) := by decide +kernel
theorem d_Scr_blit_148 : decode b_Scr_blit 148 = .ok (.iload 11, 2) := by decide +kernel
theorem d_Scr_blit_150 : decode b_Scr_blit 150 = .ok (.invokevirtual 50, 3) := by decide +kernel
theorem d_Scr_blit_153 : decode b_Scr_blit 153 = .ok (.iinc 10 1, 3) := by decide +kernel
theorem d_Scr_blit_156 : decode b_Scr_blit 156 = .ok (.goto (-62), 3) := by decide +kernel
theorem d_Scr_blit_159 : decode b_Scr_blit 159 = .ok (.iinc 9 1, 3) := by decide +kernel
theorem d_Scr_blit_162 : decode b_Scr_blit 162 = .ok (.goto (-78), 3) := by decide +kernel
theorem d_Scr_blit_165 : decode b_Scr_blit 165 = .ok (.iconst 1, 1) := by decide +kernel
theorem d_Scr_blit_166 : decode b_Scr_blit 166 = .ok (.ireturn, 1) := by decide +kernel
theorem d_Scr_shade_0 : decode b_Scr_shade 0 = .ok (.iload_n 1, 1) := by decide +kernel
theorem d_Scr_shade_1 : decode b_Scr_shade 1 = .ok (.ifCond .lt 26, 3) := by decide +kernel
theorem d_Scr_shade_4 : decode b_Scr_shade 4 = .ok (.iload_n 1, 1) := by decide +kernel
theorem d_Scr_shade_5 : decode b_Scr_shade 5 = .ok (.bipush 48, 2) := by decide +kernel
theorem d_Scr_shade_7 : decode b_Scr_shade 7 = .ok (.if_icmp .ge 20, 3) := by decide +kernel
theorem d_Scr_shade_10 : decode b_Scr_shade 10 = .ok (.iload_n 2, 1) := by decide +kernel
theorem d_Scr_shade_11 : decode b_Scr_shade 11 = .ok (.ifCond .lt 16, 3) := by decide +kernel
theorem d_Scr_shade_14 : decode b_Scr_shade 14 = .ok (.iload_n 2, 1) := by decide +kernel
theorem d_Scr_shade_15 : decode b_Scr_shade 15 = .ok (.bipush 8, 2) := by decide +kernel
theorem d_Scr_shade_17 : decode b_Scr_shade 17 = .ok (.if_icmp .ge 10, 3) := by decide +kernel
theorem d_Scr_shade_20 : decode b_Scr_shade 20 = .ok (.iload_n 3, 1) := by decide +kernel
theorem d_Scr_shade_21 : decode b_Scr_shade 21 = .ok (.invokestatic 39, 3) := by decide +kernel
theorem d_Scr_shade_24 : decode b_Scr_shade 24 = .ok (.ifCond .ne 5, 3) := by decide +kernel
theorem d_Scr_shade_27 : decode b_Scr_shade 27 = .ok (.iconst 0, 1) := by decide +kernel
theorem d_Scr_shade_28 : decode b_Scr_shade 28 = .ok (.ireturn, 1) := by decide +kernel
theorem d_Scr_shade_29 : decode b_Scr_shade 29 = .ok (.iconst 0, 1) := by decide +kernel
theorem d_Scr_shade_30 : decode b_Scr_shade 30 = .ok (.istore 5, 2) := by decide +kernel
theorem d_Scr_shade_32 : decode b_Scr_shade 32 = .ok (.iload 5, 2) := by decide +kernel
theorem d_Scr_shade_34 : decode b_Scr_shade 34 = .ok (.bipush 8, 2) := by decide +kernel
theorem d_Scr_shade_36 : decode b_Scr_shade 36 = .ok (.if_icmp .ge 34, 3) := by decide +kernel
theorem d_Scr_shade_39 : decode b_Scr_shade 39 = .ok (.aload_n 0, 1) := by decide +kernel
theorem d_Scr_shade_40 : decode b_Scr_shade 40 = .ok (.getfield 14, 3) := by decide +kernel
theorem d_Scr_shade_43 : decode b_Scr_shade 43 = .ok (.iload_n 1, 1) := by decide +kernel
theorem d_Scr_shade_44 : decode b_Scr_shade 44 = .ok (.iload_n 2, 1) := by decide +kernel
theorem d_Scr_shade_45 : decode b_Scr_shade 45 = .ok (.bipush 8, 2) := by decide +kernel
theorem d_Scr_shade_47 : decode b_Scr_shade 47 = .ok (.imul, 1) := by decide +kernel
theorem d_Scr_shade_48 : decode b_Scr_shade 48 = .ok (.iload 5, 2) := by decide +kernel
theorem d_Scr_shade_50 : decode b_Scr_shade 50 = .ok (.iadd, 1) := by decide +kernel
theorem d_Scr_shade_51 : decode b_Scr_shade 51 = .ok (.iload_n 3, 1) := by decide +kernel
theorem d_Scr_shade_52 : decode b_Scr_shade 52 = .ok (.iload 5, 2) := by decide +kernel
theorem d_Scr_shade_54 : decode b_Scr_shade 54 = .ok (.iload 4, 2) := by decide +kernel
theorem d_Scr_shade_56 : decode b_Scr_shade 56 = .ok (.imul, 1) := by decide +kernel
theorem d_Scr_shade_57 : decode b_Scr_shade 57 = .ok (.iadd, 1) := by decide +kernel
theorem d_Scr_shade_58 : decode b_Scr_shade 58 = .ok (.ldc 62, 2) := by decide +kernel
theorem d_Scr_shade_60 : decode b_Scr_shade 60 = .ok (.iand, 1) := by decide +kernel
theorem d_Scr_shade_61 : decode b_Scr_shade 61 = .ok (.invokevirtual 50, 3) := by decide +kernel
theorem d_Scr_shade_64 : decode b_Scr_shade 64 = .ok (.iinc 5 1, 3) := by decide +kernel
theorem d_Scr_shade_67 : decode b_Scr_shade 67 = .ok (.goto (-35), 3) := by decide +kernel
theorem d_Scr_shade_70 : decode b_Scr_shade 70 = .ok (.iconst 1, 1) := by decide +kernel
theorem d_Scr_shade_71 : decode b_Scr_shade 71 = .ok (.ireturn, 1) := by decide +kernel
theorem d_Scr_frame_0 : decode b_Scr_frame 0 = .ok (.aload_n 0, 1) := by decide +kernel
theorem d_Scr_frame_1 : decode b_Scr_frame 1 = .ok (.getfield 18, 3) := by decide +kernel
theorem d_Scr_frame_4 : decode b_Scr_frame 4 = .ok (.aload_n 0, 1) := by decide +kernel
theorem d_Scr_frame_5 : decode b_Scr_frame 5 = .ok (.getfield 14, 3) := by decide +kernel
theorem d_Scr_frame_8 : decode b_Scr_frame 8 = .ok (.invokevirtual 54, 3) := by decide +kernel
theorem d_Scr_frame_11 : decode b_Scr_frame 11 = .ok (.aload_n 0, 1) := by decide +kernel
theorem d_Scr_frame_12 : decode b_Scr_frame 12 = .ok (.dup, 1) := by decide +kernel
theorem d_Scr_frame_13 : decode b_Scr_frame 13 = .ok (.getfield 31, 3) := by decide +kernel
theorem d_Scr_frame_16 : decode b_Scr_frame 16 = .ok (.iconst 1, 1) := by decide +kernel
theorem d_Scr_frame_17 : decode b_Scr_frame 17 = .ok (.iadd, 1) := by decide +kernel
theorem d_Scr_frame_18 : decode b_Scr_frame 18 = .ok (.putfield 31, 3) := by decide +kernel
theorem d_Scr_frame_21 : decode b_Scr_frame 21 = .ok (.aload_n 0, 1) := by decide +kernel
theorem d_Scr_frame_22 : decode b_Scr_frame 22 = .ok (.getfield 31, 3) := by decide +kernel
theorem d_Scr_frame_25 : decode b_Scr_frame 25 = .ok (.ireturn, 1) := by decide +kernel
theorem d_Scr_join_0 : decode b_Scr_join 0 = .ok (.iload_n 1, 1) := by decide +kernel
theorem d_Scr_join_1 : decode b_Scr_join 1 = .ok (.invokestatic 63, 3) := by decide +kernel
theorem d_Scr_join_4 : decode b_Scr_join 4 = .ok (.ifCond .eq 15, 3) := by decide +kernel
theorem d_Scr_join_7 : decode b_Scr_join 7 = .ok (.aload_n 0, 1) := by decide +kernel
theorem d_Scr_join_8 : decode b_Scr_join 8 = .ok (.getfield 26, 3) := by decide +kernel
theorem d_Scr_join_11 : decode b_Scr_join 11 = .ok (.iload_n 1, 1) := by decide +kernel
theorem d_Scr_join_12 : decode b_Scr_join 12 = .ok (.aaload, 1) := by decide +kernel
theorem d_Scr_join_13 : decode b_Scr_join 13 = .ok (.getfield 66, 3) := by decide +kernel
theorem d_Scr_join_16 : decode b_Scr_join 16 = .ok (.ifCond .eq 5, 3) := by decide +kernel
theorem d_Scr_join_19 : decode b_Scr_join 19 = .ok (.iconst 0, 1) := by decide +kernel
theorem d_Scr_join_20 : decode b_Scr_join 20 = .ok (.ireturn, 1) := by decide +kernel
theorem d_Scr_join_21 : decode b_Scr_join 21 = .ok (.aload_n 0, 1) := by decide +kernel
theorem d_Scr_join_22 : decode b_Scr_join 22 = .ok (.getfield 26, 3) := by decide +kernel
theorem d_Scr_join_25 : decode b_Scr_join 25 = .ok (.iload_n 1, 1) := by decide +kernel
theorem d_Scr_join_26 : decode b_Scr_join 26 = .ok (.aaload, 1) := by decide +kernel
theorem d_Scr_join_27 : decode b_Scr_join 27 = .ok (.invokevirtual 70, 3) := by decide +kernel
theorem d_Scr_join_30 : decode b_Scr_join 30 = .ok (.iconst 1, 1) := by decide +kernel
theorem d_Scr_join_31 : decode b_Scr_join 31 = .ok (.ireturn, 1) := by decide +kernel
theorem d_Scr_cut_0 : decode b_Scr_cut 0 = .ok (.iload_n 1, 1) := by decide +kernel
theorem d_Scr_cut_1 : decode b_Scr_cut 1 = .ok (.invokestatic 63, 3) := by decide +kernel
theorem d_Scr_cut_4 : decode b_Scr_cut 4 = .ok (.ifCond .eq 15, 3) := by decide +kernel
theorem d_Scr_cut_7 : decode b_Scr_cut 7 = .ok (.aload_n 0, 1) := by decide +kernel
theorem d_Scr_cut_8 : decode b_Scr_cut 8 = .ok (.getfield 26, 3) := by decide +kernel
theorem d_Scr_cut_11 : decode b_Scr_cut 11 = .ok (.iload_n 1, 1) := by decide +kernel
theorem d_Scr_cut_12 : decode b_Scr_cut 12 = .ok (.aaload, 1) := by decide +kernel
theorem d_Scr_cut_13 : decode b_Scr_cut 13 = .ok (.getfield 66, 3) := by decide +kernel
theorem d_Scr_cut_16 : decode b_Scr_cut 16 = .ok (.ifCond .ne 5, 3) := by decide +kernel
theorem d_Scr_cut_19 : decode b_Scr_cut 19 = .ok (.iconst 0, 1) := by decide +kernel
theorem d_Scr_cut_20 : decode b_Scr_cut 20 = .ok (.ireturn, 1) := by decide +kernel
theorem d_Scr_cut_21 : decode b_Scr_cut 21 = .ok (.aload_n 0, 1) := by decide +kernel
theorem d_Scr_cut_22 : decode b_Scr_cut 22 = .ok (.getfield 26, 3) := by decide +kernel
theorem d_Scr_cut_25 : decode b_Scr_cut 25 = .ok (.iload_n 1, 1) := by decide +kernel
theorem d_Scr_cut_26 : decode b_Scr_cut 26 = .ok (.aaload, 1) := by decide +kernel
theorem d_Scr_cut_27 : decode b_Scr_cut 27 = .ok (.invokevirtual 73, 3) := by decide +kernel
theorem d_Scr_cut_30 : decode b_Scr_cut 30 = .ok (.iconst 1, 1) := by decide +kernel
theorem d_Scr_cut_31 : decode b_Scr_cut 31 = .ok (.ireturn, 1) := by decide +kernel
theorem d_Scr_credit_0 : decode b_Scr_credit 0 = .ok (.iload_n 1, 1) := by decide +kernel
theorem d_Scr_credit_1 : decode b_Scr_credit 1 = .ok (.invokestatic 63, 3) := by decide +kernel
theorem d_Scr_credit_4 : decode b_Scr_credit 4 = .ok (.ifCond .eq 14, 3) := by decide +kernel
theorem d_Scr_credit_7 : decode b_Scr_credit 7 = .ok (.iload_n 2, 1) := by decide +kernel
theorem d_Scr_credit_8 : decode b_Scr_credit 8 = .ok (.iconst 1, 1) := by decide +kernel
theorem d_Scr_credit_9 : decode b_Scr_credit 9 = .ok (.if_icmp .lt 9, 3) := by decide +kernel
theorem d_Scr_credit_12 : decode b_Scr_credit 12 = .ok (.iload_n 2, 1) := by decide +kernel
theorem d_Scr_credit_13 : decode b_Scr_credit 13 = .ok (.ldc 76, 2) := by decide +kernel
theorem d_Scr_credit_15 : decode b_Scr_credit 15 = .ok (.if_icmp .le 13, 3) := by decide +kernel
theorem d_Scr_credit_18 : decode b_Scr_credit 18 = .ok (.new 77, 3) := by decide +kernel
theorem d_Scr_credit_21 : decode b_Scr_credit 21 = .ok (.dup, 1) := by decide +kernel
theorem d_Scr_credit_22 : decode b_Scr_credit 22 = .ok (.ldc 79, 2) := by decide +kernel
theorem d_Scr_credit_24 : decode b_Scr_credit 24 = .ok (.invokespecial 81, 3) := by decide +kernel
theorem d_Scr_credit_27 : decode b_Scr_credit 27 = .ok (.athrow, 1) := by decide +kernel
theorem d_Scr_credit_28 : decode b_Scr_credit 28 = .ok (.aload_n 0, 1) := by decide +kernel
theorem d_Scr_credit_29 : decode b_Scr_credit 29 = .ok (.getfield 26, 3) := by decide +kernel
theorem d_Scr_credit_32 : decode b_Scr_credit 32 = .ok (.iload_n 1, 1) := by decide +kernel
theorem d_Scr_credit_33 : decode b_Scr_credit 33 = .ok (.aaload, 1) := by decide +kernel
theorem d_Scr_credit_34 : decode b_Scr_credit 34 = .ok (.astore_n 3, 1) := by decide +kernel
theorem d_Scr_credit_35 : decode b_Scr_credit 35 = .ok (.aload_n 3, 1) := by decide +kernel
theorem d_Scr_credit_36 : decode b_Scr_credit 36 = .ok (.getfield 66, 3) := by decide +kernel
theorem d_Scr_credit_39 : decode b_Scr_credit 39 = .ok (.ifCond .eq 14, 3) := by decide +kernel
theorem d_Scr_credit_42 : decode b_Scr_credit 42 = .ok (.aload_n 3, 1) := by decide +kernel
theorem d_Scr_credit_43 : decode b_Scr_credit 43 = .ok (.getfield 84, 3) := by decide +kernel
theorem d_Scr_credit_46 : decode b_Scr_credit 46 = .ok (.iload_n 2, 1) := by decide +kernel
theorem d_Scr_credit_47 : decode b_Scr_credit 47 = .ok (.iadd, 1) := by decide +kernel
theorem d_Scr_credit_48 : decode b_Scr_credit 48 = .ok (.ldc 76, 2) := by decide +kernel
theorem d_Scr_credit_50 : decode b_Scr_credit 50 = .ok (.if_icmp .le 13, 3) := by decide +kernel
theorem d_Scr_credit_53 : decode b_Scr_credit 53 = .ok (.new 87, 3) := by decide +kernel
theorem d_Scr_credit_56 : decode b_Scr_credit 56 = .ok (.dup, 1) := by decide +kernel
theorem d_Scr_credit_57 : decode b_Scr_credit 57 = .ok (.ldc 89, 2) := by decide +kernel
theorem d_Scr_credit_59 : decode b_Scr_credit 59 = .ok (.invokespecial 91, 3) := by decide +kernel
theorem d_Scr_credit_62 : decode b_Scr_credit 62 = .ok (.athrow, 1) := by decide +kernel
theorem d_Scr_credit_63 : decode b_Scr_credit 63 = .ok (.aload_n 3, 1) := by decide +kernel
theorem d_Scr_credit_64 : decode b_Scr_credit 64 = .ok (.dup, 1) := by decide +kernel
theorem d_Scr_credit_65 : decode b_Scr_credit 65 = .ok (.getfield 84, 3) := by decide +kernel
theorem d_Scr_credit_68 : decode b_Scr_credit 68 = .ok (.iload_n 2, 1) := by decide +kernel
theorem d_Scr_credit_69 : decode b_Scr_credit 69 = .ok (.iadd, 1) := by decide +kernel
theorem d_Scr_credit_70 : decode b_Scr_credit 70 = .ok (.putfield 84, 3) := by decide +kernel
theorem d_Scr_credit_73 : decode b_Scr_credit 73 = .ok (.aload_n 3, 1) := by decide +kernel
theorem d_Scr_credit_74 : decode b_Scr_credit 74 = .ok (.getfield 84, 3) := by decide +kernel
theorem d_Scr_credit_77 : decode b_Scr_credit 77 = .ok (.ireturn, 1) := by decide +kernel
theorem d_Scr_pump_0 : decode b_Scr_pump 0 = .ok (.iload_n 1, 1) := by decide +kernel
theorem d_Scr_pump_1 : decode b_Scr_pump 1 = .ok (.invokestatic 63, 3) := by decide +kernel
theorem d_Scr_pump_4 : decode b_Scr_pump 4 = .ok (.ifCond .ne 5, 3) := by decide +kernel
theorem d_Scr_pump_7 : decode b_Scr_pump 7 = .ok (.iconst (-1), 1) := by decide +kernel
theorem d_Scr_pump_8 : decode b_Scr_pump 8 = .ok (.ireturn, 1) := by decide +kernel
theorem d_Scr_pump_9 : decode b_Scr_pump 9 = .ok (.aload_n 0, 1) := by decide +kernel
theorem d_Scr_pump_10 : decode b_Scr_pump 10 = .ok (.getfield 26, 3) := by decide +kernel
theorem d_Scr_pump_13 : decode b_Scr_pump 13 = .ok (.iload_n 1, 1) := by decide +kernel
theorem d_Scr_pump_14 : decode b_Scr_pump 14 = .ok (.aaload, 1) := by decide +kernel
theorem d_Scr_pump_15 : decode b_Scr_pump 15 = .ok (.astore_n 2, 1) := by decide +kernel
theorem d_Scr_pump_16 : decode b_Scr_pump 16 = .ok (.aload_n 2, 1) := by decide +kernel
theorem d_Scr_pump_17 : decode b_Scr_pump 17 = .ok (.getfield 92, 3) := by decide +kernel
theorem d_Scr_pump_20 : decode b_Scr_pump 20 = .ok (.astore_n 3, 1) := by decide +kernel
theorem d_Scr_pump_21 : decode b_Scr_pump 21 = .ok (.aload_n 2, 1) := by decide +kernel
theorem d_Scr_pump_22 : decode b_Scr_pump 22 = .ok (.getfield 84, 3) := by decide +kernel
theorem d_Scr_pump_25 : decode b_Scr_pump 25 = .ok (.istore 4, 2) := by decide +kernel
theorem d_Scr_pump_27 : decode b_Scr_pump 27 = .ok (.iconst 0, 1) := by decide +kernel
theorem d_Scr_pump_28 : decode b_Scr_pump 28 = .ok (.istore 5, 2) := by decide +kernel
theorem d_Scr_pump_30 : decode b_Scr_pump 30 = .ok (.iload 5, 2) := by decide +kernel
theorem d_Scr_pump_32 : decode b_Scr_pump 32 = .ok (.iload 4, 2) := by decide +kernel
theorem d_Scr_pump_34 : decode b_Scr_pump 34 = .ok (.if_icmp .ge 100, 3) := by decide +kernel
theorem d_Scr_pump_37 : decode b_Scr_pump 37 = .ok (.aload_n 2, 1) := by decide +kernel
theorem d_Scr_pump_38 : decode b_Scr_pump 38 = .ok (.getfield 66, 3) := by decide +kernel
theorem d_Scr_pump_41 : decode b_Scr_pump 41 = .ok (.ifCond .eq 93, 3) := by decide +kernel
theorem d_Scr_pump_44 : decode b_Scr_pump 44 = .ok (.aload_n 3, 1) := by decide +kernel
theorem d_Scr_pump_45 : decode b_Scr_pump 45 = .ok (.getfield 96, 3) := by decide +kernel
theorem d_Scr_pump_48 : decode b_Scr_pump 48 = .ok (.getfield 102, 3) := by decide +kernel
theorem d_Scr_pump_51 : decode b_Scr_pump 51 = .ok (.ifCond .ne 26, 3) := by decide +kernel
theorem d_Scr_pump_54 : decode b_Scr_pump 54 = .ok (.aload_n 3, 1) := by decide +kernel
theorem d_Scr_pump_55 : decode b_Scr_pump 55 = .ok (.getfield 107, 3) := by decide +kernel
theorem d_Scr_pump_58 : decode b_Scr_pump 58 = .ok (.aload_n 0, 1) := by decide +kernel
theorem d_Scr_pump_59 : decode b_Scr_pump 59 = .ok (.getfield 31, 3) := by decide +kernel
theorem d_Scr_pump_62 : decode b_Scr_pump 62 = .ok (.if_icmp .eq 15, 3) := by decide +kernel
theorem d_Scr_pump_65 : decode b_Scr_pump 65 = .ok (.aload_n 3, 1) := by decide +kernel
theorem d_Scr_pump_66 : decode b_Scr_pump 66 = .ok (.aload_n 0, 1) := by decide +kernel
theorem d_Scr_pump_67 : decode b_Scr_pump 67 = .ok (.getfield 18, 3) := by decide +kernel
theorem d_Scr_pump_70 : decode b_Scr_pump 70 = .ok (.aload_n 0, 1) := by decide +kernel
theorem d_Scr_pump_71 : decode b_Scr_pump 71 = .ok (.getfield 31, 3) := by decide +kernel
theorem d_Scr_pump_74 : decode b_Scr_pump 74 = .ok (.invokevirtual 110, 3) := by decide +kernel
theorem d_Scr_pump_77 : decode b_Scr_pump 77 = .ok (.aload_n 3, 1) := by decide +kernel
theorem d_Scr_pump_78 : decode b_Scr_pump 78 = .ok (.getfield 96, 3) := by decide +kernel
theorem d_Scr_pump_81 : decode b_Scr_pump 81 = .ok (.getfield 102, 3) := by decide +kernel
theorem d_Scr_pump_84 : decode b_Scr_pump 84 = .ok (.ifCond .ne 6, 3) := by decide +kernel
theorem d_Scr_pump_87 : decode b_Scr_pump 87 = .ok (.goto 47, 3) := by decide +kernel
theorem d_Scr_pump_90 : decode b_Scr_pump 90 = .ok (.aload_n 2, 1) := by decide +kernel
theorem d_Scr_pump_91 : decode b_Scr_pump 91 = .ok (.dup, 1) := by decide +kernel
theorem d_Scr_pump_92 : decode b_Scr_pump 92 = .ok (.getfield 84, 3) := by decide +kernel
theorem d_Scr_pump_95 : decode b_Scr_pump 95 = .ok (.iconst 1, 1) := by decide +kernel
theorem d_Scr_pump_96 : decode b_Scr_pump 96 = .ok (.isub, 1) := by decide +kernel
theorem d_Scr_pump_97 : decode b_Scr_pump 97 = .ok (.putfield 84, 3) := by decide +kernel
theorem d_Scr_pump_100 : decode b_Scr_pump 100 = .ok (.iinc 5 1, 3) := by decide +kernel
theorem d_Scr_pump_103 : decode b_Scr_pump 103 = .ok (.aload_n 2, 1) := by decide +kernel
theorem d_Scr_pump_104 : decode b_Scr_pump 104 = .ok (.getfield 114, 3) := by decide +kernel
theorem d_Scr_pump_107 : decode b_Scr_pump 107 = .ok (.aload_n 2, 1) := by decide +kernel
theorem d_Scr_pump_108 : decode b_Scr_pump 108 = .ok (.getfield 118, 3) := by decide +kernel
theorem d_Scr_pump_111 : decode b_Scr_pump 111 = .ok (.aload_n 3, 1) := by decide +kernel
theorem d_Scr_pump_112 : decode b_Scr_pump 112 = .ok (.getfield 96, 3) := by decide +kernel
theorem d_Scr_pump_115 : decode b_Scr_pump 115 = .ok (.invokevirtual 122, 3) := by decide +kernel
theorem d_Scr_pump_118 : decode b_Scr_pump 118 = .ok (.invokevirtual 126, 3) := by decide +kernel
theorem d_Scr_pump_121 : decode b_Scr_pump 121 = .ok (.invokevirtual 132, 3) := by decide +kernel
theorem d_Scr_pump_124 : decode b_Scr_pump 124 = .ok (.ifCond .ne (-94), 3) := by decide +kernel
theorem d_Scr_pump_127 : decode b_Scr_pump 127 = .ok (.aload_n 2, 1) := by decide +kernel
theorem d_Scr_pump_128 : decode b_Scr_pump 128 = .ok (.invokevirtual 73, 3) := by decide +kernel
theorem d_Scr_pump_131 : decode b_Scr_pump 131 = .ok (.goto (-101), 3) := by decide +kernel
theorem d_Scr_pump_134 : decode b_Scr_pump 134 = .ok (.iload 5, 2) := by decide +kernel
theorem d_Scr_pump_136 : decode b_Scr_pump 136 = .ok (.ireturn, 1) := by decide +kernel
theorem d_Scr_poison_0 : decode b_Scr_poison 0 = .ok (.iload_n 1, 1) := by decide +kernel
theorem d_Scr_poison_1 : decode b_Scr_poison 1 = .ok (.invokestatic 63, 3) := by decide +kernel
theorem d_Scr_poison_4 : decode b_Scr_poison 4 = .ok (.ifCond .eq 15, 3) := by decide +kernel
theorem d_Scr_poison_7 : decode b_Scr_poison 7 = .ok (.iload_n 2, 1) := by decide +kernel
theorem d_Scr_poison_8 : decode b_Scr_poison 8 = .ok (.iconst 1, 1) := by decide +kernel
theorem d_Scr_poison_9 : decode b_Scr_poison 9 = .ok (.if_icmp .lt 10, 3) := by decide +kernel
theorem d_Scr_poison_12 : decode b_Scr_poison 12 = .ok (.iload_n 2, 1) := by decide +kernel
theorem d_Scr_poison_13 : decode b_Scr_poison 13 = .ok (.sipush 10000, 3) := by decide +kernel
theorem d_Scr_poison_16 : decode b_Scr_poison 16 = .ok (.if_icmp .le 5, 3) := by decide +kernel
theorem d_Scr_poison_19 : decode b_Scr_poison 19 = .ok (.iconst 0, 1) := by decide +kernel
theorem d_Scr_poison_20 : decode b_Scr_poison 20 = .ok (.ireturn, 1) := by decide +kernel
theorem d_Scr_poison_21 : decode b_Scr_poison 21 = .ok (.aload_n 0, 1) := by decide +kernel
theorem d_Scr_poison_22 : decode b_Scr_poison 22 = .ok (.getfield 26, 3) := by decide +kernel
theorem d_Scr_poison_25 : decode b_Scr_poison 25 = .ok (.iload_n 1, 1) := by decide +kernel
theorem d_Scr_poison_26 : decode b_Scr_poison 26 = .ok (.aaload, 1) := by decide +kernel
theorem d_Scr_poison_27 : decode b_Scr_poison 27 = .ok (.getfield 118, 3) := by decide +kernel
theorem d_Scr_poison_30 : decode b_Scr_poison 30 = .ok (.iload_n 2, 1) := by decide +kernel
theorem d_Scr_poison_31 : decode b_Scr_poison 31 = .ok (.iload_n 3, 1) := by decide +kernel
theorem d_Scr_poison_32 : decode b_Scr_poison 32 = .ok (.sipush 255, 3) := by decide +kernel
theorem d_Scr_poison_35 : decode b_Scr_poison 35 = .ok (.iand, 1) := by decide +kernel
theorem d_Scr_poison_36 : decode b_Scr_poison 36 = .ok (.invokevirtual 137, 3) := by decide +kernel
theorem d_Scr_poison_39 : decode b_Scr_poison 39 = .ok (.iconst 1, 1) := by decide +kernel
theorem d_Scr_poison_40 : decode b_Scr_poison 40 = .ok (.ireturn, 1) := by decide +kernel
theorem d_Scr_shown_0 : decode b_Scr_shown 0 = .ok (.iload_n 1, 1) := by decide +kernel
theorem d_Scr_shown_1 : decode b_Scr_shown 1 = .ok (.invokestatic 63, 3) := by decide +kernel
theorem d_Scr_shown_4 : decode b_Scr_shown 4 = .ok (.ifCond .eq 18, 3) := by decide +kernel
theorem d_Scr_shown_7 : decode b_Scr_shown 7 = .ok (.aload_n 0, 1) := by decide +kernel
theorem d_Scr_shown_8 : decode b_Scr_shown 8 = .ok (.getfield 26, 3) := by decide +kernel
theorem d_Scr_shown_11 : decode b_Scr_shown 11 = .ok (.iload_n 1, 1) := by decide +kernel
theorem d_Scr_shown_12 : decode b_Scr_shown 12 = .ok (.aaload, 1) := by decide +kernel
theorem d_Scr_shown_13 : decode b_Scr_shown 13 = .ok (.getfield 114, 3) := by decide +kernel
theorem d_Scr_shown_16 : decode b_Scr_shown 16 = .ok (.getfield 141, 3) := by decide +kernel
theorem d_Scr_shown_19 : decode b_Scr_shown 19 = .ok (.goto 4, 3) := by decide +kernel
theorem d_Scr_shown_22 : decode b_Scr_shown 22 = .ok (.iconst (-1), 1) := by decide +kernel
theorem d_Scr_shown_23 : decode b_Scr_shown 23 = .ok (.ireturn, 1) := by decide +kernel
theorem d_Scr_at_0 : decode b_Scr_at 0 = .ok (.iload_n 2, 1) := by decide +kernel
theorem d_Scr_at_1 : decode b_Scr_at 1 = .ok (.iload_n 3, 1) := by decide +kernel
theorem d_Scr_at_2 : decode b_Scr_at 2 = .ok (.iconst 1, 1) := by decide +kernel
theorem d_Scr_at_3 : decode b_Scr_at 3 = .ok (.iconst 1, 1) := by decide +kernel
theorem d_Scr_at_4 : decode b_Scr_at 4 = .ok (.invokestatic 35, 3) := by decide +kernel
theorem d_Scr_at_7 : decode b_Scr_at 7 = .ok (.ifCond .ne 5, 3) := by decide +kernel
theorem d_Scr_at_10 : decode b_Scr_at 10 = .ok (.iconst (-1), 1) := by decide +kernel
theorem d_Scr_at_11 : decode b_Scr_at 11 = .ok (.ireturn, 1) := by decide +kernel
theorem d_Scr_at_12 : decode b_Scr_at 12 = .ok (.iload_n 1, 1) := by decide +kernel
theorem d_Scr_at_13 : decode b_Scr_at 13 = .ok (.iconst (-1), 1) := by decide +kernel
theorem d_Scr_at_14 : decode b_Scr_at 14 = .ok (.if_icmp .ne 13, 3) := by decide +kernel
theorem d_Scr_at_17 : decode b_Scr_at 17 = .ok (.aload_n 0, 1) := by decide +kernel
theorem d_Scr_at_18 : decode b_Scr_at 18 = .ok (.getfield 14, 3) := by decide +kernel
theorem d_Scr_at_21 : decode b_Scr_at 21 = .ok (.iload_n 2, 1) := by decide +kernel
theorem d_Scr_at_22 : decode b_Scr_at 22 = .ok (.iload_n 3, 1) := by decide +kernel
theorem d_Scr_at_23 : decode b_Scr_at 23 = .ok (.invokestatic 58, 3) := by decide +kernel
theorem d_Scr_at_26 : decode b_Scr_at 26 = .ok (.ireturn, 1) := by decide +kernel
theorem d_Scr_at_27 : decode b_Scr_at 27 = .ok (.iload_n 1, 1) := by decide +kernel
theorem d_Scr_at_28 : decode b_Scr_at 28 = .ok (.invokestatic 63, 3) := by decide +kernel
theorem d_Scr_at_31 : decode b_Scr_at 31 = .ok (.ifCond .eq 23, 3) := by decide +kernel
theorem d_Scr_at_34 : decode b_Scr_at 34 = .ok (.aload_n 0, 1) := by decide +kernel
theorem d_Scr_at_35 : decode b_Scr_at 35 = .ok (.getfield 26, 3) := by decide +kernel
theorem d_Scr_at_38 : decode b_Scr_at 38 = .ok (.iload_n 1, 1) := by decide +kernel
theorem d_Scr_at_39 : decode b_Scr_at 39 = .ok (.aaload, 1) := by decide +kernel
theorem d_Scr_at_40 : decode b_Scr_at 40 = .ok (.getfield 114, 3) := by decide +kernel
theorem d_Scr_at_43 : decode b_Scr_at 43 = .ok (.getfield 144, 3) := by decide +kernel
theorem d_Scr_at_46 : decode b_Scr_at 46 = .ok (.iload_n 2, 1) := by decide +kernel
theorem d_Scr_at_47 : decode b_Scr_at 47 = .ok (.iload_n 3, 1) := by decide +kernel
theorem d_Scr_at_48 : decode b_Scr_at 48 = .ok (.invokestatic 58, 3) := by decide +kernel
theorem d_Scr_at_51 : decode b_Scr_at 51 = .ok (.goto 4, 3) := by decide +kernel
theorem d_Scr_at_54 : decode b_Scr_at 54 = .ok (.iconst (-1), 1) := by decide +kernel
theorem d_Scr_at_55 : decode b_Scr_at 55 = .ok (.ireturn, 1) := by decide +kernel
theorem d_Scr_about_0 : decode b_Scr_about 0 = .ok (.iload_n 1, 1) := by decide +kernel
theorem d_Scr_about_1 : decode b_Scr_about 1 = .ok (.invokestatic 63, 3) := by decide +kernel
theorem d_Scr_about_4 : decode b_Scr_about 4 = .ok (.ifCond .ne 5, 3) := by decide +kernel
theorem d_Scr_about_7 : decode b_Scr_about 7 = .ok (.iconst (-1), 1) := by decide +kernel
theorem d_Scr_about_8 : decode b_Scr_about 8 = .ok (.ireturn, 1) := by decide +kernel
theorem d_Scr_about_9 : decode b_Scr_about 9 = .ok (.aload_n 0, 1) := by decide +kernel
theorem d_Scr_about_10 : decode b_Scr_about 10 = .ok (.getfield 26, 3) := by decide +kernel
theorem d_Scr_about_13 : decode b_Scr_about 13 = .ok (.iload_n 1, 1) := by decide +kernel
theorem d_Scr_about_14 : decode b_Scr_about 14 = .ok (.aaload, 1) := by decide +kernel
theorem d_Scr_about_15 : decode b_Scr_about 15 = .ok (.astore_n 3, 1) := by decide +kernel
theorem d_Scr_about_16 : decode b_Scr_about 16 = .ok (.iload_n 2, 1) := by decide +kernel
theorem d_Scr_about_17 : decode b_Scr_about 17 = .ok (.tableswitch 123 0 7 #[47, 60, 65, 76, 84, 89, 104, 112], 47) := by decide +kernel
theorem d_Scr_about_64 : decode b_Scr_about 64 = .ok (.aload_n 3, 1) := by decide +kernel
theorem d_Scr_about_65 : decode b_Scr_about 65 = .ok (.getfield 66, 3) := by decide +kernel
theorem d_Scr_about_68 : decode b_Scr_about 68 = .ok (.ifCond .eq 7, 3) := by decide +kernel
theorem d_Scr_about_71 : decode b_Scr_about 71 = .ok (.iconst 1, 1) := by decide +kernel
theorem d_Scr_about_72 : decode b_Scr_about 72 = .ok (.goto 4, 3) := by decide +kernel
theorem d_Scr_about_75 : decode b_Scr_about 75 = .ok (.iconst 0, 1) := by decide +kernel
theorem d_Scr_about_76 : decode b_Scr_about 76 = .ok (.ireturn, 1) := by decide +kernel
theorem d_Scr_about_77 : decode b_Scr_about 77 = .ok (.aload_n 3, 1) := by decide +kernel
theorem d_Scr_about_78 : decode b_Scr_about 78 = .ok (.getfield 84, 3) := by decide +kernel
theorem d_Scr_about_81 : decode b_Scr_about 81 = .ok (.ireturn, 1) := by decide +kernel
theorem d_Scr_about_82 : decode b_Scr_about 82 = .ok (.aload_n 3, 1) := by decide +kernel
theorem d_Scr_about_83 : decode b_Scr_about 83 = .ok (.getfield 92, 3) := by decide +kernel
theorem d_Scr_about_86 : decode b_Scr_about 86 = .ok (.getfield 96, 3) := by decide +kernel
theorem d_Scr_about_89 : decode b_Scr_about 89 = .ok (.getfield 102, 3) := by decide +kernel
theorem d_Scr_about_92 : decode b_Scr_about 92 = .ok (.ireturn, 1) := by decide +kernel
theorem d_Scr_about_93 : decode b_Scr_about 93 = .ok (.aload_n 3, 1) := by decide +kernel
theorem d_Scr_about_94 : decode b_Scr_about 94 = .ok (.getfield 114, 3) := by decide +kernel
theorem d_Scr_about_97 : decode b_Scr_about 97 = .ok (.getfield 147, 3) := by decide +kernel
theorem d_Scr_about_100 : decode b_Scr_about 100 = .ok (.ireturn, 1) := by decide +kernel
theorem d_Scr_about_101 : decode b_Scr_about 101 = .ok (.aload_n 3, 1) := by decide +kernel
theorem d_Scr_about_102 : decode b_Scr_about 102 = .ok (.getfield 150, 3) := by decide +kernel
theorem d_Scr_about_105 : decode b_Scr_about 105 = .ok (.ireturn, 1) := by decide +kernel
theorem d_Scr_about_106 : decode b_Scr_about 106 = .ok (.aload_n 3, 1) := by decide +kernel
theorem d_Scr_about_107 : decode b_Scr_about 107 = .ok (.getfield 92, 3) := by decide +kernel
theorem d_Scr_about_110 : decode b_Scr_about 110 = .ok (.getfield 153, 3) := by decide +kernel
theorem d_Scr_about_113 : decode b_Scr_about 113 = .ok (.aload_n 0, 1) := by decide +kernel
theorem d_Scr_about_114 : decode b_Scr_about 114 = .ok (.getfield 18, 3) := by decide +kernel
theorem d_Scr_about_117 : decode b_Scr_about 117 = .ok (.invokevirtual 156, 3) := by decide +kernel
theorem d_Scr_about_120 : decode b_Scr_about 120 = .ok (.ireturn, 1) := by decide +kernel
theorem d_Scr_about_121 : decode b_Scr_about 121 = .ok (.aload_n 3, 1) := by decide +kernel
theorem d_Scr_about_122 : decode b_Scr_about 122 = .ok (.getfield 92, 3) := by decide +kernel
theorem d_Scr_about_125 : decode b_Scr_about 125 = .ok (.getfield 107, 3) := by decide +kernel
theorem d_Scr_about_128 : decode b_Scr_about 128 = .ok (.ireturn, 1) := by decide +kernel
theorem d_Scr_about_129 : decode b_Scr_about 129 = .ok (.aload_n 3, 1) := by decide +kernel
theorem d_Scr_about_130 : decode b_Scr_about 130 = .ok (.getfield 92, 3) := by decide +kernel
theorem d_Scr_about_133 : decode b_Scr_about 133 = .ok (.getfield 160, 3) := by decide +kernel
theorem d_Scr_about_136 : decode b_Scr_about 136 = .ok (.getfield 164, 3) := by decide +kernel
theorem d_Scr_about_139 : decode b_Scr_about 139 = .ok (.ireturn, 1) := by decide +kernel
theorem d_Scr_about_140 : decode b_Scr_about 140 = .ok (.iconst (-1), 1) := by decide +kernel
theorem d_Scr_about_141 : decode b_Scr_about 141 = .ok (.ireturn, 1) := by decide +kernel
theorem d_Scr_bytesBy_0 : decode b_Scr_bytesBy 0 = .ok (.iload_n 1, 1) := by decide +kernel
theorem d_Scr_bytesBy_1 : decode b_Scr_bytesBy 1 = .ok (.invokestatic 63, 3) := by decide +kernel
theorem d_Scr_bytesBy_4 : decode b_Scr_bytesBy 4 = .ok (.ifCond .eq 13, 3) := by decide +kernel
theorem d_Scr_bytesBy_7 : decode b_Scr_bytesBy 7 = .ok (.iload_n 2, 1) := by decide +kernel
theorem d_Scr_bytesBy_8 : decode b_Scr_bytesBy 8 = .ok (.ifCond .lt 9, 3) := by decide +kernel
theorem d_Scr_bytesBy_11 : decode b_Scr_bytesBy 11 = .ok (.iload_n 2, 1) := by decide +kernel
theorem d_Scr_bytesBy_12 : decode b_Scr_bytesBy 12 = .ok (.bipush 7, 2) := by decide +kernel
theorem d_Scr_bytesBy_14 : decode b_Scr_bytesBy 14 = .ok (.if_icmp .lt 5, 3) := by decide +kernel
theorem d_Scr_bytesBy_17 : decode b_Scr_bytesBy 17 = .ok (.iconst (-1), 1) := by decide +kernel
theorem d_Scr_bytesBy_18 : decode b_Scr_bytesBy 18 = .ok (.ireturn, 1) := by decide +kernel
theorem d_Scr_bytesBy_19 : decode b_Scr_bytesBy 19 = .ok (.aload_n 0, 1) := by decide +kernel
theorem d_Scr_bytesBy_20 : decode b_Scr_bytesBy 20 = .ok (.getfield 26, 3) := by decide +kernel
theorem d_Scr_bytesBy_23 : decode b_Scr_bytesBy 23 = .ok (.iload_n 1, 1) := by decide +kernel
theorem d_Scr_bytesBy_24 : decode b_Scr_bytesBy 24 = .ok (.aaload, 1) := by decide +kernel
theorem d_Scr_bytesBy_25 : decode b_Scr_bytesBy 25 = .ok (.getfield 92, 3) := by decide +kernel
theorem d_Scr_bytesBy_28 : decode b_Scr_bytesBy 28 = .ok (.getfield 169, 3) := by decide +kernel
theorem d_Scr_bytesBy_31 : decode b_Scr_bytesBy 31 = .ok (.iload_n 2, 1) := by decide +kernel
theorem d_Scr_bytesBy_32 : decode b_Scr_bytesBy 32 = .ok (.iaload, 1) := by decide +kernel
theorem d_Scr_bytesBy_33 : decode b_Scr_bytesBy 33 = .ok (.ireturn, 1) := by decide +kernel
theorem d_Scr_onLine_0 : decode b_Scr_onLine 0 = .ok (.iload_n 1, 1) := by decide +kernel
theorem d_Scr_onLine_1 : decode b_Scr_onLine 1 = .ok (.invokestatic 63, 3) := by decide +kernel
theorem d_Scr_onLine_4 : decode b_Scr_onLine 4 = .ok (.ifCond .eq 22, 3) := by decide +kernel
theorem d_Scr_onLine_7 : decode b_Scr_onLine 7 = .ok (.aload_n 0, 1) := by decide +kernel
theorem d_Scr_onLine_8 : decode b_Scr_onLine 8 = .ok (.getfield 26, 3) := by decide +kernel
theorem d_Scr_onLine_11 : decode b_Scr_onLine 11 = .ok (.iload_n 1, 1) := by decide +kernel
theorem d_Scr_onLine_12 : decode b_Scr_onLine 12 = .ok (.aaload, 1) := by decide +kernel
theorem d_Scr_onLine_13 : decode b_Scr_onLine 13 = .ok (.getfield 92, 3) := by decide +kernel
theorem d_Scr_onLine_16 : decode b_Scr_onLine 16 = .ok (.getfield 96, 3) := by decide +kernel
theorem d_Scr_onLine_19 : decode b_Scr_onLine 19 = .ok (.iload_n 2, 1) := by decide +kernel
theorem d_Scr_onLine_20 : decode b_Scr_onLine 20 = .ok (.invokevirtual 173, 3) := by decide +kernel
theorem d_Scr_onLine_23 : decode b_Scr_onLine 23 = .ok (.goto 4, 3) := by decide +kernel
theorem d_Scr_onLine_26 : decode b_Scr_onLine 26 = .ok (.iconst (-1), 1) := by decide +kernel
theorem d_Scr_onLine_27 : decode b_Scr_onLine 27 = .ok (.ireturn, 1) := by decide +kernel
theorem d_Scr_isViewer_0 : decode b_Scr_isViewer 0 = .ok (.iload_n 0, 1) := by decide +kernel
theorem d_Scr_isViewer_1 : decode b_Scr_isViewer 1 = .ok (.ifCond .lt 12, 3) := by decide +kernel
theorem d_Scr_isViewer_4 : decode b_Scr_isViewer 4 = .ok (.iload_n 0, 1) := by decide +kernel
theorem d_Scr_isViewer_5 : decode b_Scr_isViewer 5 = .ok (.iconst 3, 1) := by decide +kernel
theorem d_Scr_isViewer_6 : decode b_Scr_isViewer 6 = .ok (.if_icmp .ge 7, 3) := by decide +kernel
theorem d_Scr_isViewer_9 : decode b_Scr_isViewer 9 = .ok (.iconst 1, 1) := by decide +kernel
theorem d_Scr_isViewer_10 : decode b_Scr_isViewer 10 = .ok (.goto 4, 3) := by decide +kernel
theorem d_Scr_isViewer_13 : decode b_Scr_isViewer 13 = .ok (.iconst 0, 1) := by decide +kernel
theorem d_Scr_isViewer_14 : decode b_Scr_isViewer 14 = .ok (.ireturn, 1) := by decide +kernel
theorem d_Scr_isColour_0 : decode b_Scr_isColour 0 = .ok (.iload_n 0, 1) := by decide +kernel
theorem d_Scr_isColour_1 : decode b_Scr_isColour 1 = .ok (.ifCond .lt 13, 3) := by decide +kernel
theorem d_Scr_isColour_4 : decode b_Scr_isColour 4 = .ok (.iload_n 0, 1) := by decide +kernel
theorem d_Scr_isColour_5 : decode b_Scr_isColour 5 = .ok (.ldc 176, 2) := by decide +kernel
theorem d_Scr_isColour_7 : decode b_Scr_isColour 7 = .ok (.if_icmp .ge 7, 3) := by decide +kernel
theorem d_Scr_isColour_10 : decode b_Scr_isColour 10 = .ok (.iconst 1, 1) := by decide +kernel
theorem d_Scr_isColour_11 : decode b_Scr_isColour 11 = .ok (.goto 4, 3) := by decide +kernel
theorem d_Scr_isColour_14 : decode b_Scr_isColour 14 = .ok (.iconst 0, 1) := by decide +kernel
theorem d_Scr_isColour_15 : decode b_Scr_isColour 15 = .ok (.ireturn, 1) := by decide +kernel
theorem d_Scr_isInside_0 : decode b_Scr_isInside 0 = .ok (.iload_n 0, 1) := by decide +kernel
theorem d_Scr_isInside_1 : decode b_Scr_isInside 1 = .ok (.ifCond .lt 49, 3) := by decide +kernel
theorem d_Scr_isInside_4 : decode b_Scr_isInside 4 = .ok (.iload_n 0, 1) := by decide +kernel
theorem d_Scr_isInside_5 : decode b_Scr_isInside 5 = .ok (.bipush 64, 2) := by decide +kernel
theorem d_Scr_isInside_7 : decode b_Scr_isInside 7 = .ok (.if_icmp .ge 43, 3) := by decide +kernel
theorem d_Scr_isInside_10 : decode b_Scr_isInside 10 = .ok (.iload_n 2, 1) := by decide +kernel
theorem d_Scr_isInside_11 : decode b_Scr_isInside 11 = .ok (.iconst 1, 1) := by decide +kernel
theorem d_Scr_isInside_12 : decode b_Scr_isInside 12 = .ok (.if_icmp .lt 38, 3) := by decide +kernel
theorem d_Scr_isInside_15 : decode b_Scr_isInside 15 = .ok (.iload_n 2, 1) := by decide +kernel
theorem d_Scr_isInside_16 : decode b_Scr_isInside 16 = .ok (.bipush 64, 2) := by decide +kernel
theorem d_Scr_isInside_18 : decode b_Scr_isInside 18 = .ok (.iload_n 0, 1) := by decide +kernel
theorem d_Scr_isInside_19 : decode b_Scr_isInside 19 = .ok (.isub, 1) := by decide +kernel
theorem d_Scr_isInside_20 : decode b_Scr_isInside 20 = .ok (.if_icmp .gt 30, 3) := by decide +kernel
theorem d_Scr_isInside_23 : decode b_Scr_isInside 23 = .ok (.iload_n 1, 1) := by decide +kernel
theorem d_Scr_isInside_24 : decode b_Scr_isInside 24 = .ok (.ifCond .lt 26, 3) := by decide +kernel
theorem d_Scr_isInside_27 : decode b_Scr_isInside 27 = .ok (.iload_n 1, 1) := by decide +kernel
theorem d_Scr_isInside_28 : decode b_Scr_isInside 28 = .ok (.bipush 48, 2) := by decide +kernel
theorem d_Scr_isInside_30 : decode b_Scr_isInside 30 = .ok (.if_icmp .ge 20, 3) := by decide +kernel
theorem d_Scr_isInside_33 : decode b_Scr_isInside 33 = .ok (.iload_n 3, 1) := by decide +kernel
theorem d_Scr_isInside_34 : decode b_Scr_isInside 34 = .ok (.iconst 1, 1) := by decide +kernel
theorem d_Scr_isInside_35 : decode b_Scr_isInside 35 = .ok (.if_icmp .lt 15, 3) := by decide +kernel
theorem d_Scr_isInside_38 : decode b_Scr_isInside 38 = .ok (.iload_n 3, 1) := by decide +kernel
theorem d_Scr_isInside_39 : decode b_Scr_isInside 39 = .ok (.bipush 48, 2) := by decide +kernel
theorem d_Scr_isInside_41 : decode b_Scr_isInside 41 = .ok (.iload_n 1, 1) := by decide +kernel
theorem d_Scr_isInside_42 : decode b_Scr_isInside 42 = .ok (.isub, 1) := by decide +kernel
theorem d_Scr_isInside_43 : decode b_Scr_isInside 43 = .ok (.if_icmp .gt 7, 3) := by decide +kernel
theorem d_Scr_isInside_46 : decode b_Scr_isInside 46 = .ok (.iconst 1, 1) := by decide +kernel
theorem d_Scr_isInside_47 : decode b_Scr_isInside 47 = .ok (.goto 4, 3) := by decide +kernel
theorem d_Scr_isInside_50 : decode b_Scr_isInside 50 = .ok (.iconst 0, 1) := by decide +kernel
theorem d_Scr_isInside_51 : decode b_Scr_isInside 51 = .ok (.ireturn, 1) := by decide +kernel
theorem d_Scr_tileOf_0 : decode b_Scr_tileOf 0 = .ok (.iload_n 1, 1) := by decide +kernel
theorem d_Scr_tileOf_1 : decode b_Scr_tileOf 1 = .ok (.bipush 8, 2) := by decide +kernel
theorem d_Scr_tileOf_3 : decode b_Scr_tileOf 3 = .ok (.idiv, 1) := by decide +kernel
theorem d_Scr_tileOf_4 : decode b_Scr_tileOf 4 = .ok (.bipush 8, 2) := by decide +kernel
theorem d_Scr_tileOf_6 : decode b_Scr_tileOf 6 = .ok (.imul, 1) := by decide +kernel
theorem d_Scr_tileOf_7 : decode b_Scr_tileOf 7 = .ok (.iload_n 0, 1) := by decide +kernel
theorem d_Scr_tileOf_8 : decode b_Scr_tileOf 8 = .ok (.bipush 8, 2) := by decide +kernel
theorem d_Scr_tileOf_10 : decode b_Scr_tileOf 10 = .ok (.idiv, 1) := by decide +kernel
theorem d_Scr_tileOf_11 : decode b_Scr_tileOf 11 = .ok (.iadd, 1) := by decide +kernel
theorem d_Scr_tileOf_12 : decode b_Scr_tileOf 12 = .ok (.ireturn, 1) := by decide +kernel
theorem d_Scr_pixelOf_0 : decode b_Scr_pixelOf 0 = .ok (.iload_n 1, 1) := by decide +kernel
theorem d_Scr_pixelOf_1 : decode b_Scr_pixelOf 1 = .ok (.bipush 8, 2) := by decide +kernel
theorem d_Scr_pixelOf_3 : decode b_Scr_pixelOf 3 = .ok (.irem, 1) := by decide +kernel
theorem d_Scr_pixelOf_4 : decode b_Scr_pixelOf 4 = .ok (.bipush 8, 2) := by decide +kernel
theorem d_Scr_pixelOf_6 : decode b_Scr_pixelOf 6 = .ok (.imul, 1) := by decide +kernel
theorem d_Scr_pixelOf_7 : decode b_Scr_pixelOf 7 = .ok (.iload_n 0, 1) := by decide +kernel
theorem d_Scr_pixelOf_8 : decode b_Scr_pixelOf 8 = .ok (.bipush 8, 2) := by decide +kernel
theorem d_Scr_pixelOf_10 : decode b_Scr_pixelOf 10 = .ok (.irem, 1) := by decide +kernel
theorem d_Scr_pixelOf_11 : decode b_Scr_pixelOf 11 = .ok (.iadd, 1) := by decide +kernel
theorem d_Scr_pixelOf_12 : decode b_Scr_pixelOf 12 = .ok (.ireturn, 1) := by decide +kernel
theorem d_Scr_pixelAt_0 : decode b_Scr_pixelAt 0 = .ok (.aload_n 0, 1) := by decide +kernel
theorem d_Scr_pixelAt_1 : decode b_Scr_pixelAt 1 = .ok (.iload_n 1, 1) := by decide +kernel
theorem d_Scr_pixelAt_2 : decode b_Scr_pixelAt 2 = .ok (.iload_n 2, 1) := by decide +kernel
theorem d_Scr_pixelAt_3 : decode b_Scr_pixelAt 3 = .ok (.invokestatic 43, 3) := by decide +kernel
theorem d_Scr_pixelAt_6 : decode b_Scr_pixelAt 6 = .ok (.iload_n 1, 1) := by decide +kernel
theorem d_Scr_pixelAt_7 : decode b_Scr_pixelAt 7 = .ok (.iload_n 2, 1) := by decide +kernel
theorem d_Scr_pixelAt_8 : decode b_Scr_pixelAt 8 = .ok (.invokestatic 47, 3) := by decide +kernel
theorem d_Scr_pixelAt_11 : decode b_Scr_pixelAt 11 = .ok (.invokevirtual 177, 3) := by decide +kernel
theorem d_Scr_pixelAt_14 : decode b_Scr_pixelAt 14 = .ok (.ireturn, 1) := by decide +kernel
theorem d_Scr_sumOf_0 : decode b_Scr_sumOf 0 = .ok (.iconst 0, 1) := by decide +kernel
theorem d_Scr_sumOf_1 : decode b_Scr_sumOf 1 = .ok (.istore_n 3, 1) := by decide +kernel
theorem d_Scr_sumOf_2 : decode b_Scr_sumOf 2 = .ok (.iload_n 1, 1) := by decide +kernel
theorem d_Scr_sumOf_3 : decode b_Scr_sumOf 3 = .ok (.istore 4, 2) := by decide +kernel
theorem d_Scr_sumOf_5 : decode b_Scr_sumOf 5 = .ok (.iload 4, 2) := by decide +kernel
theorem d_Scr_sumOf_7 : decode b_Scr_sumOf 7 = .ok (.iload_n 2, 1) := by decide +kernel
theorem d_Scr_sumOf_8 : decode b_Scr_sumOf 8 = .ok (.if_icmp .ge 16, 3) := by decide +kernel
theorem d_Scr_sumOf_11 : decode b_Scr_sumOf 11 = .ok (.iload_n 3, 1) := by decide +kernel
theorem d_Scr_sumOf_12 : decode b_Scr_sumOf 12 = .ok (.aload_n 0, 1) := by decide +kernel
theorem d_Scr_sumOf_13 : decode b_Scr_sumOf 13 = .ok (.iload 4, 2) := by decide +kernel
theorem d_Scr_sumOf_15 : decode b_Scr_sumOf 15 = .ok (.iaload, 1) := by decide +kernel
theorem d_Scr_sumOf_16 : decode b_Scr_sumOf 16 = .ok (.iadd, 1) := by decide +kernel
theorem d_Scr_sumOf_17 : decode b_Scr_sumOf 17 = .ok (.istore_n 3, 1) := by decide +kernel
theorem d_Scr_sumOf_18 : decode b_Scr_sumOf 18 = .ok (.iinc 4 1, 3) := by decide +kernel
theorem d_Scr_sumOf_21 : decode b_Scr_sumOf 21 = .ok (.goto (-16), 3) := by decide +kernel
theorem d_Scr_sumOf_24 : decode b_Scr_sumOf 24 = .ok (.iload_n 3, 1) := by decide +kernel
theorem d_Scr_sumOf_25 : decode b_Scr_sumOf 25 = .ok (.ldc 176, 2) := by decide +kernel
theorem d_Scr_sumOf_27 : decode b_Scr_sumOf 27 = .ok (.irem, 1) := by decide +kernel
theorem d_Scr_sumOf_28 : decode b_Scr_sumOf 28 = .ok (.ireturn, 1) := by decide +kernel
theorem d_Mod_init_0 : decode b_Mod_init 0 = .ok (.aload_n 0, 1) := by decide +kernel
theorem d_Mod_init_1 : decode b_Mod_init 1 = .ok (.invokespecial 1, 3) := by decide +kernel
theorem d_Mod_init_4 : decode b_Mod_init 4 = .ok (.aload_n 0, 1) := by decide +kernel
theorem d_Mod_init_5 : decode b_Mod_init 5 = .ok (.sipush 30720, 3) := by decide +kernel
theorem d_Mod_init_8 : decode b_Mod_init 8 = .ok (.newarray .int, 2) := by decide +kernel
theorem d_Mod_init_10 : decode b_Mod_init 10 = .ok (.putfield 7, 3) := by decide +kernel
theorem d_Mod_init_13 : decode b_Mod_init 13 = .ok (.aload_n 0, 1) := by decide +kernel
theorem d_Mod_init_14 : decode b_Mod_init 14 = .ok (.sipush 6144, 3) := by decide +kernel
theorem d_Mod_init_17 : decode b_Mod_init 17 = .ok (.newarray .int, 2) := by decide +kernel
theorem d_Mod_init_19 : decode b_Mod_init 19 = .ok (.putfield 13, 3) := by decide +kernel
theorem d_Mod_init_22 : decode b_Mod_init 22 = .ok (.aload_n 0, 1) := by decide +kernel
theorem d_Mod_init_23 : decode b_Mod_init 23 = .ok (.bipush 6, 2) := by decide +kernel
theorem d_Mod_init_25 : decode b_Mod_init 25 = .ok (.newarray .int, 2) := by decide +kernel
theorem d_Mod_init_27 : decode b_Mod_init 27 = .ok (.putfield 16, 3) := by decide +kernel
theorem d_Mod_init_30 : decode b_Mod_init 30 = .ok (.aload_n 0, 1) := by decide +kernel
theorem d_Mod_init_31 : decode b_Mod_init 31 = .ok (.bipush 96, 2) := by decide +kernel
theorem d_Mod_init_33 : decode b_Mod_init 33 = .ok (.newarray .boolean, 2) := by decide +kernel
theorem d_Mod_init_35 : decode b_Mod_init 35 = .ok (.putfield 19, 3) := by decide +kernel
theorem d_Mod_init_38 : decode b_Mod_init 38 = .ok (.aload_n 0, 1) := by decide +kernel
theorem d_Mod_init_39 : decode b_Mod_init 39 = .ok (.iconst 3, 1) := by decide +kernel
theorem d_Mod_init_40 : decode b_Mod_init 40 = .ok (.newarray .boolean, 2) := by decide +kernel
theorem d_Mod_init_42 : decode b_Mod_init 42 = .ok (.putfield 23, 3) := by decide +kernel
theorem d_Mod_init_45 : decode b_Mod_init 45 = .ok (.aload_n 0, 1) := by decide +kernel
theorem d_Mod_init_46 : decode b_Mod_init 46 = .ok (.iconst 3, 1) := by decide +kernel
theorem d_Mod_init_47 : decode b_Mod_init 47 = .ok (.newarray .int, 2) := by decide +kernel
theorem d_Mod_init_49 : decode b_Mod_init 49 = .ok (.putfield 26, 3) := by decide +kernel
theorem d_Mod_init_52 : decode b_Mod_init 52 = .ok (.aload_n 0, 1) := by decide +kernel
theorem d_Mod_init_53 : decode b_Mod_init 53 = .ok (.iconst 3, 1) := by decide +kernel
theorem d_Mod_init_54 : decode b_Mod_init 54 = .ok (.newarray .int, 2) := by decide +kernel
theorem d_Mod_init_56 : decode b_Mod_init 56 = .ok (.putfield 29, 3) := by decide +kernel
theorem d_Mod_init_59 : decode b_Mod_init 59 = .ok (.aload_n 0, 1) := by decide +kernel
theorem d_Mod_init_60 : decode b_Mod_init 60 = .ok (.iconst 3, 1) := by decide +kernel
theorem d_Mod_init_61 : decode b_Mod_init 61 = .ok (.newarray .int, 2) := by decide +kernel
theorem d_Mod_init_63 : decode b_Mod_init 63 = .ok (.putfield 32, 3) := by decide +kernel
theorem d_Mod_init_66 : decode b_Mod_init 66 = .ok (.aload_n 0, 1) := by decide +kernel
theorem d_Mod_init_67 : decode b_Mod_init 67 = .ok (.iconst 3, 1) := by decide +kernel
theorem d_Mod_init_68 : decode b_Mod_init 68 = .ok (.newarray .int, 2) := by decide +kernel
theorem d_Mod_init_70 : decode b_Mod_init 70 = .ok (.putfield 35, 3) := by decide +kernel
theorem d_Mod_init_73 : decode b_Mod_init 73 = .ok (.aload_n 0, 1) := by decide +kernel
theorem d_Mod_init_74 : decode b_Mod_init 74 = .ok (.bipush 21, 2) := by decide +kernel
theorem d_Mod_init_76 : decode b_Mod_init 76 = .ok (.newarray .int, 2) := by decide +kernel
theorem d_Mod_init_78 : decode b_Mod_init 78 = .ok (.putfield 38, 3) := by decide +kernel
theorem d_Mod_init_81 : decode b_Mod_init 81 = .ok (.aload_n 0, 1) := by decide +kernel
theorem d_Mod_init_82 : decode b_Mod_init 82 = .ok (.sipush 18741, 3) := by decide +kernel
theorem d_Mod_init_85 : decode b_Mod_init 85 = .ok (.newarray .int, 2) := by decide +kernel
theorem d_Mod_init_87 : decode b_Mod_init 87 = .ok (.putfield 41, 3) := by decide +kernel
theorem d_Mod_init_90 : decode b_Mod_init 90 = .ok (.aload_n 0, 1) := by decide +kernel
theorem d_Mod_init_91 : decode b_Mod_init 91 = .ok (.iconst 3, 1) := by decide +kernel
theorem d_Mod_init_92 : decode b_Mod_init 92 = .ok (.newarray .int, 2) := by decide +kernel
theorem d_Mod_init_94 : decode b_Mod_init 94 = .ok (.putfield 44, 3) := by decide +kernel
theorem d_Mod_init_97 : decode b_Mod_init 97 = .ok (.aload_n 0, 1) := by decide +kernel
theorem d_Mod_init_98 : decode b_Mod_init 98 = .ok (.iconst 3, 1) := by decide +kernel
theorem d_Mod_init_99 : decode b_Mod_init 99 = .ok (.newarray .int, 2) := by decide +kernel
theorem d_Mod_init_101 : decode b_Mod_init 101 = .ok (.putfield 47, 3) := by decide +kernel
theorem d_Mod_init_104 : decode b_Mod_init 104 = .ok (.aload_n 0, 1) := by decide +kernel
theorem d_Mod_init_105 : decode b_Mod_init 105 = .ok (.sipush 18741, 3) := by decide +kernel
theorem d_Mod_init_108 : decode b_Mod_init 108 = .ok (.newarray .int, 2) := by decide +kernel
theorem d_Mod_init_110 : decode b_Mod_init 110 = .ok (.putfield 50, 3) := by decide +kernel
theorem d_Mod_init_113 : decode b_Mod_init 113 = .ok (.aload_n 0, 1) := by decide +kernel
theorem d_Mod_init_114 : decode b_Mod_init 114 = .ok (.iconst 3, 1) := by decide +kernel
theorem d_Mod_init_115 : decode b_Mod_init 115 = .ok (.newarray .int, 2) := by decide +kernel
theorem d_Mod_init_117 : decode b_Mod_init 117 = .ok (.putfield 53, 3) := by decide +kernel
theorem d_Mod_init_120 : decode b_Mod_init 120 = .ok (.aload_n 0, 1) := by decide +kernel
theorem d_Mod_init_121 : decode b_Mod_init 121 = .ok (.bipush 24, 2) := by decide +kernel
theorem d_Mod_init_123 : decode b_Mod_init 123 = .ok (.newarray .int, 2) := by decide +kernel
theorem d_Mod_init_125 : decode b_Mod_init 125 = .ok (.putfield 56, 3) := by decide +kernel
theorem d_Mod_init_128 : decode b_Mod_init 128 = .ok (.aload_n 0, 1) := by decide +kernel
theorem d_Mod_init_129 : decode b_Mod_init 129 = .ok (.bipush 24, 2) := by decide +kernel
theorem d_Mod_init_131 : decode b_Mod_init 131 = .ok (.newarray .int, 2) := by decide +kernel
theorem d_Mod_init_133 : decode b_Mod_init 133 = .ok (.putfield 59, 3) := by decide +kernel
theorem d_Mod_init_136 : decode b_Mod_init 136 = .ok (.aload_n 0, 1) := by decide +kernel
theorem d_Mod_init_137 : decode b_Mod_init 137 = .ok (.iconst 3, 1) := by decide +kernel
theorem d_Mod_init_138 : decode b_Mod_init 138 = .ok (.newarray .int, 2) := by decide +kernel
theorem d_Mod_init_140 : decode b_Mod_init 140 = .ok (.putfield 62, 3) := by decide +kernel
theorem d_Mod_init_143 : decode b_Mod_init 143 = .ok (.aload_n 0, 1) := by decide +kernel
theorem d_Mod_init_144 : decode b_Mod_init 144 = .ok (.bipush 64, 2) := by decide +kernel
theorem d_Mod_init_146 : decode b_Mod_init 146 = .ok (.newarray .int, 2) := by decide +kernel
theorem d_Mod_init_148 : decode b_Mod_init 148 = .ok (.putfield 65, 3) := by decide +kernel
theorem d_Mod_init_151 : decode b_Mod_init 151 = .ok (.aload_n 0, 1) := by decide +kernel
theorem d_Mod_init_152 : decode b_Mod_init 152 = .ok (.sipush 256, 3) := by decide +kernel
theorem d_Mod_init_155 : decode b_Mod_init 155 = .ok (.newarray .int, 2) := by decide +kernel
theorem d_Mod_init_157 : decode b_Mod_init 157 = .ok (.putfield 68, 3) := by decide +kernel
theorem d_Mod_init_160 : decode b_Mod_init 160 = .ok (.aload_n 0, 1) := by decide +kernel
theorem d_Mod_init_161 : decode b_Mod_init 161 = .ok (.bipush 64, 2) := by decide +kernel
theorem d_Mod_init_163 : decode b_Mod_init 163 = .ok (.newarray .int, 2) := by decide +kernel
theorem d_Mod_init_165 : decode b_Mod_init 165 = .ok (.putfield 71, 3) := by decide +kernel
theorem d_Mod_init_168 : decode b_Mod_init 168 = .ok (.return_, 1) := by decide +kernel
theorem d_Mod_thrown_0 : decode b_Mod_thrown 0 = .ok (.aload_n 0, 1) := by decide +kernel
theorem d_Mod_thrown_1 : decode b_Mod_thrown 1 = .ok (.getfield 74, 3) := by decide +kernel
theorem d_Mod_thrown_4 : decode b_Mod_thrown 4 = .ok (.ireturn, 1) := by decide +kernel
theorem d_Mod_spot_0 : decode b_Mod_spot 0 = .ok (.sipush 3072, 3) := by decide +kernel
theorem d_Mod_spot_3 : decode b_Mod_spot 3 = .ok (.iload_n 0, 1) := by decide +kernel
theorem d_Mod_spot_4 : decode b_Mod_spot 4 = .ok (.imul, 1) := by decide +kernel
theorem d_Mod_spot_5 : decode b_Mod_spot 5 = .ok (.bipush 64, 2) := by decide +kernel
theorem d_Mod_spot_7 : decode b_Mod_spot 7 = .ok (.iload_n 1, 1) := by decide +kernel
theorem d_Mod_spot_8 : decode b_Mod_spot 8 = .ok (.bipush 8, 2) := by decide +kernel
theorem d_Mod_spot_10 : decode b_Mod_spot 10 = .ok (.idiv, 1) := by decide +kernel
theorem d_Mod_spot_11 : decode b_Mod_spot 11 = .ok (.bipush 8, 2) := by decide +kernel
theorem d_Mod_spot_13 : decode b_Mod_spot 13 = .ok (.imul, 1) := by decide +kernel
theorem d_Mod_spot_14 : decode b_Mod_spot 14 = .ok (.iload_n 2, 1) := by decide +kernel
theorem d_Mod_spot_15 : decode b_Mod_spot 15 = .ok (.bipush 8, 2) := by decide +kernel
theorem d_Mod_spot_17 : decode b_Mod_spot 17 = .ok (.idiv, 1) := by decide +kernel
theorem d_Mod_spot_18 : decode b_Mod_spot 18 = .ok (.iadd, 1) := by decide +kernel
theorem d_Mod_spot_19 : decode b_Mod_spot 19 = .ok (.imul, 1) := by decide +kernel
theorem d_Mod_spot_20 : decode b_Mod_spot 20 = .ok (.iadd, 1) := by decide +kernel
theorem d_Mod_spot_21 : decode b_Mod_spot 21 = .ok (.iload_n 1, 1) := by decide +kernel
theorem d_Mod_spot_22 : decode b_Mod_spot 22 = .ok (.bipush 8, 2) := by decide +kernel
theorem d_Mod_spot_24 : decode b_Mod_spot 24 = .ok (.irem, 1) := by decide +kernel
theorem d_Mod_spot_25 : decode b_Mod_spot 25 = .ok (.bipush 8, 2) := by decide +kernel
theorem d_Mod_spot_27 : decode b_Mod_spot 27 = .ok (.imul, 1) := by decide +kernel
theorem d_Mod_spot_28 : decode b_Mod_spot 28 = .ok (.iadd, 1) := by decide +kernel
theorem d_Mod_spot_29 : decode b_Mod_spot 29 = .ok (.iload_n 2, 1) := by decide +kernel
theorem d_Mod_spot_30 : decode b_Mod_spot 30 = .ok (.bipush 8, 2) := by decide +kernel
theorem d_Mod_spot_32 : decode b_Mod_spot 32 = .ok (.irem, 1) := by decide +kernel
theorem d_Mod_spot_33 : decode b_Mod_spot 33 = .ok (.iadd, 1) := by decide +kernel
theorem d_Mod_spot_34 : decode b_Mod_spot 34 = .ok (.ireturn, 1) := by decide +kernel
theorem d_Mod_become_0 : decode b_Mod_become 0 = .ok (.iconst 0, 1) := by decide +kernel
theorem d_Mod_become_1 : decode b_Mod_become 1 = .ok (.istore_n 3, 1) := by decide +kernel
theorem d_Mod_become_2 : decode b_Mod_become 2 = .ok (.iload_n 3, 1) := by decide +kernel
theorem d_Mod_become_3 : decode b_Mod_become 3 = .ok (.sipush 3072, 3) := by decide +kernel
theorem d_Mod_become_6 : decode b_Mod_become 6 = .ok (.if_icmp .ge 33, 3) := by decide +kernel
theorem d_Mod_become_9 : decode b_Mod_become 9 = .ok (.aload_n 0, 1) := by decide +kernel
theorem d_Mod_become_10 : decode b_Mod_become 10 = .ok (.getfield 7, 3) := by decide +kernel
theorem d_Mod_become_13 : decode b_Mod_become 13 = .ok (.sipush 3072, 3) := by decide +kernel
theorem d_Mod_become_16 : decode b_Mod_become 16 = .ok (.iload_n 1, 1) := by decide +kernel
theorem d_Mod_become_17 : decode b_Mod_become 17 = .ok (.imul, 1) := by decide +kernel
theorem d_Mod_become_18 : decode b_Mod_become 18 = .ok (.iload_n 3, 1) := by decide +kernel
theorem d_Mod_become_19 : decode b_Mod_become 19 = .ok (.iadd, 1) := by decide +kernel
theorem d_Mod_become_20 : decode b_Mod_become 20 = .ok (.aload_n 0, 1) := by decide +kernel
theorem d_Mod_become_21 : decode b_Mod_become 21 = .ok (.getfield 7, 3) := by decide +kernel
theorem d_Mod_become_24 : decode b_Mod_become 24 = .ok (.sipush 3072, 3) := by decide +kernel
theorem d_Mod_become_27 : decode b_Mod_become 27 = .ok (.iload_n 2, 1) := by decide +kernel
theorem d_Mod_become_28 : decode b_Mod_become 28 = .ok (.imul, 1) := by decide +kernel
theorem d_Mod_become_29 : decode b_Mod_become 29 = .ok (.iload_n 3, 1) := by decide +kernel
theorem d_Mod_become_30 : decode b_Mod_become 30 = .ok (.iadd, 1) := by decide +kernel
theorem d_Mod_become_31 : decode b_Mod_become 31 = .ok (.iaload, 1) := by decide +kernel
theorem d_Mod_become_32 : decode b_Mod_become 32 = .ok (.iastore, 1) := by decide +kernel
theorem d_Mod_become_33 : decode b_Mod_become 33 = .ok (.iinc 3 1, 3) := by decide +kernel
theorem d_Mod_become_36 : decode b_Mod_become 36 = .ok (.goto (-34), 3) := by decide +kernel
theorem d_Mod_become_39 : decode b_Mod_become 39 = .ok (.return_, 1) := by decide +kernel
theorem d_Mod_sameTile_0 : decode b_Mod_sameTile 0 = .ok (.iconst 1, 1) := by decide +kernel
theorem d_Mod_sameTile_1 : decode b_Mod_sameTile 1 = .ok (.istore 5, 2) := by decide +kernel
theorem d_Mod_sameTile_3 : decode b_Mod_sameTile 3 = .ok (.iconst 0, 1) := by decide +kernel
theorem d_Mod_sameTile_4 : decode b_Mod_sameTile 4 = .ok (.istore 6, 2) := by decide +kernel
theorem d_Mod_sameTile_6 : decode b_Mod_sameTile 6 = .ok (.iload 6, 2) := by decide +kernel
theorem d_Mod_sameTile_8 : decode b_Mod_sameTile 8 = .ok (.bipush 64, 2) := by decide +kernel
theorem d_Mod_sameTile_10 : decode b_Mod_sameTile 10 = .ok (.if_icmp .ge 49, 3) := by decide +kernel
theorem d_Mod_sameTile_13 : decode b_Mod_sameTile 13 = .ok (.iload 5, 2) := by decide +kernel
theorem d_Mod_sameTile_15 : decode b_Mod_sameTile 15 = .ok (.ifCond .eq 44, 3) := by decide +kernel
theorem d_Mod_sameTile_18 : decode b_Mod_sameTile 18 = .ok (.aload_n 0, 1) := by decide +kernel
theorem d_Mod_sameTile_19 : decode b_Mod_sameTile 19 = .ok (.getfield 7, 3) := by decide +kernel
theorem d_Mod_sameTile_22 : decode b_Mod_sameTile 22 = .ok (.iload_n 1, 1) := by decide +kernel
theorem d_Mod_sameTile_23 : decode b_Mod_sameTile 23 = .ok (.iload_n 2, 1) := by decide +kernel
theorem d_Mod_sameTile_24 : decode b_Mod_sameTile 24 = .ok (.iload 6, 2) := by decide +kernel
theorem d_Mod_sameTile_26 : decode b_Mod_sameTile 26 = .ok (.invokestatic 78, 3) := by decide +kernel
theorem d_Mod_sameTile_29 : decode b_Mod_sameTile 29 = .ok (.iaload, 1) := by decide +kernel
theorem d_Mod_sameTile_30 : decode b_Mod_sameTile 30 = .ok (.aload_n 0, 1) := by decide +kernel
theorem d_Mod_sameTile_31 : decode b_Mod_sameTile 31 = .ok (.getfield 7, 3) := by decide +kernel
theorem d_Mod_sameTile_34 : decode b_Mod_sameTile 34 = .ok (.iload_n 3, 1) := by decide +kernel
theorem d_Mod_sameTile_35 : decode b_Mod_sameTile 35 = .ok (.iload 4, 2) := by decide +kernel
theorem d_Mod_sameTile_37 : decode b_Mod_sameTile 37 = .ok (.iload 6, 2) := by decide +kernel
theorem d_Mod_sameTile_39 : decode b_Mod_sameTile 39 = .ok (.invokestatic 78, 3) := by decide +kernel
theorem d_Mod_sameTile_42 : decode b_Mod_sameTile 42 = .ok (.iaload, 1) := by decide +kernel
theorem d_Mod_sameTile_43 : decode b_Mod_sameTile 43 = .ok (.if_icmp .ne 7, 3) := by decide +kernel
theorem d_Mod_sameTile_46 : decode b_Mod_sameTile 46 = .ok (.iconst 1, 1) := by decide +kernel
theorem d_Mod_sameTile_47 : decode b_Mod_sameTile 47 = .ok (.goto 4, 3) := by decide +kernel
theorem d_Mod_sameTile_50 : decode b_Mod_sameTile 50 = .ok (.iconst 0, 1) := by decide +kernel
theorem d_Mod_sameTile_51 : decode b_Mod_sameTile 51 = .ok (.istore 5, 2) := by decide +kernel
theorem d_Mod_sameTile_53 : decode b_Mod_sameTile 53 = .ok (.iinc 6 1, 3) := by decide +kernel
theorem d_Mod_sameTile_56 : decode b_Mod_sameTile 56 = .ok (.goto (-50), 3) := by decide +kernel
theorem d_Mod_sameTile_59 : decode b_Mod_sameTile 59 = .ok (.iload 5, 2) := by decide +kernel
theorem d_Mod_sameTile_61 : decode b_Mod_sameTile 61 = .ok (.ireturn, 1) := by decide +kernel
theorem d_Mod_isRect_0 : decode b_Mod_isRect 0 = .ok (.iload_n 0, 1) := by decide +kernel
theorem d_Mod_isRect_1 : decode b_Mod_isRect 1 = .ok (.ifCond .lt 49, 3) := by decide +kernel
theorem d_Mod_isRect_4 : decode b_Mod_isRect 4 = .ok (.iload_n 1, 1) := by decide +kernel
theorem d_Mod_isRect_5 : decode b_Mod_isRect 5 = .ok (.ifCond .lt 45, 3) := by decide +kernel
theorem d_Mod_isRect_8 : decode b_Mod_isRect 8 = .ok (.iload_n 2, 1) := by decide +kernel
theorem d_Mod_isRect_9 : decode b_Mod_isRect 9 = .ok (.iconst 1, 1) := by decide +kernel
theorem d_Mod_isRect_10 : decode b_Mod_isRect 10 = .ok (.if_icmp .lt 40, 3) := by decide +kernel
theorem d_Mod_isRect_13 : decode b_Mod_isRect 13 = .ok (.iload_n 3, 1) := by decide +kernel
theorem d_Mod_isRect_14 : decode b_Mod_isRect 14 = .ok (.iconst 1, 1) := by decide +kernel
theorem d_Mod_isRect_15 : decode b_Mod_isRect 15 = .ok (.if_icmp .lt 35, 3) := by decide +kernel
theorem d_Mod_isRect_18 : decode b_Mod_isRect 18 = .ok (.iload_n 2, 1) := by decide +kernel
theorem d_Mod_isRect_19 : decode b_Mod_isRect 19 = .ok (.bipush 64, 2) := by decide +kernel
theorem d_Mod_isRect_21 : decode b_Mod_isRect 21 = .ok (.if_icmp .gt 29, 3) := by decide +kernel
theorem d_Mod_isRect_24 : decode b_Mod_isRect 24 = .ok (.iload_n 3, 1) := by decide +kernel
theorem d_Mod_isRect_25 : decode b_Mod_isRect 25 = .ok (.bipush 48, 2) := by decide +kernel
theorem d_Mod_isRect_27 : decode b_Mod_isRect 27 = .ok (.if_icmp .gt 23, 3) := by decide +kernel
theorem d_Mod_isRect_30 : decode b_Mod_isRect 30 = .ok (.iload_n 0, 1) := by decide +kernel
theorem d_Mod_isRect_31 : decode b_Mod_isRect 31 = .ok (.bipush 64, 2) := by decide +kernel
theorem d_Mod_isRect_33 : decode b_Mod_isRect 33 = .ok (.iload_n 2, 1) := by decide +kernel
theorem d_Mod_isRect_34 : decode b_Mod_isRect 34 = .ok (.isub, 1) := by decide +kernel
theorem d_Mod_isRect_35 : decode b_Mod_isRect 35 = .ok (.if_icmp .gt 15, 3) := by decide +kernel
theorem d_Mod_isRect_38 : decode b_Mod_isRect 38 = .ok (.iload_n 1, 1) := by decide +kernel
theorem d_Mod_isRect_39 : decode b_Mod_isRect 39 = .ok (.bipush 48, 2) := by decide +kernel
theorem d_Mod_isRect_41 : decode b_Mod_isRect 41 = .ok (.iload_n 3, 1) := by decide +kernel
theorem d_Mod_isRect_42 : decode b_Mod_isRect 42 = .ok (.isub, 1) := by decide +kernel
theorem d_Mod_isRect_43 : decode b_Mod_isRect 43 = .ok (.if_icmp .gt 7, 3) := by decide +kernel
theorem d_Mod_isRect_46 : decode b_Mod_isRect 46 = .ok (.iconst 1, 1) := by decide +kernel
theorem d_Mod_isRect_47 : decode b_Mod_isRect 47 = .ok (.goto 4, 3) := by decide +kernel
theorem d_Mod_isRect_50 : decode b_Mod_isRect 50 = .ok (.iconst 0, 1) := by decide +kernel
theorem d_Mod_isRect_51 : decode b_Mod_isRect 51 = .ok (.ireturn, 1) := by decide +kernel
theorem d_Mod_isColour_0 : decode b_Mod_isColour 0 = .ok (.iload_n 0, 1) := by decide +kernel
theorem d_Mod_isColour_1 : decode b_Mod_isColour 1 = .ok (.ifCond .lt 13, 3) := by decide +kernel
theorem d_Mod_isColour_4 : decode b_Mod_isColour 4 = .ok (.iload_n 0, 1) := by decide +kernel
theorem d_Mod_isColour_5 : decode b_Mod_isColour 5 = .ok (.ldc 82, 2) := by decide +kernel
theorem d_Mod_isColour_7 : decode b_Mod_isColour 7 = .ok (.if_icmp .ge 7, 3) := by decide +kernel
theorem d_Mod_isColour_10 : decode b_Mod_isColour 10 = .ok (.iconst 1, 1) := by decide +kernel
theorem d_Mod_isColour_11 : decode b_Mod_isColour 11 = .ok (.goto 4, 3) := by decide +kernel
theorem d_Mod_isColour_14 : decode b_Mod_isColour 14 = .ok (.iconst 0, 1) := by decide +kernel
theorem d_Mod_isColour_15 : decode b_Mod_isColour 15 = .ok (.ireturn, 1) := by decide +kernel
theorem d_Mod_isViewer_0 : decode b_Mod_isViewer 0 = .ok (.iload_n 0, 1) := by decide +kernel
theorem d_Mod_isViewer_1 : decode b_Mod_isViewer 1 = .ok (.ifCond .lt 12, 3) := by decide +kernel
theorem d_Mod_isViewer_4 : decode b_Mod_isViewer 4 = .ok (.iload_n 0, 1) := by decide +kernel
theorem d_Mod_isViewer_5 : decode b_Mod_isViewer 5 = .ok (.iconst 3, 1) := by decide +kernel
theorem d_Mod_isViewer_6 : decode b_Mod_isViewer 6 = .ok (.if_icmp .ge 7, 3) := by decide +kernel
theorem d_Mod_isViewer_9 : decode b_Mod_isViewer 9 = .ok (.iconst 1, 1) := by decide +kernel
theorem d_Mod_isViewer_10 : decode b_Mod_isViewer 10 = .ok (.goto 4, 3) := by decide +kernel
theorem d_Mod_isViewer_13 : decode b_Mod_isViewer 13 = .ok (.iconst 0, 1) := by decide +kernel
theorem d_Mod_isViewer_14 : decode b_Mod_isViewer 14 = .ok (.ireturn, 1) := by decide +kernel
theorem d_Mod_fill_0 : decode b_Mod_fill 0 = .ok (.aload_n 0, 1) := by decide +kernel
theorem d_Mod_fill_1 : decode b_Mod_fill 1 = .ok (.iconst 0, 1) := by decide +kernel
theorem d_Mod_fill_2 : decode b_Mod_fill 2 = .ok (.putfield 74, 3) := by decide +kernel
theorem d_Mod_fill_5 : decode b_Mod_fill 5 = .ok (.iload_n 1, 1) := by decide +kernel
theorem d_Mod_fill_6 : decode b_Mod_fill 6 = .ok (.iload_n 2, 1) := by decide +kernel
theorem d_Mod_fill_7 : decode b_Mod_fill 7 = .ok (.iload_n 3, 1) := by decide +kernel
theorem d_Mod_fill_8 : decode b_Mod_fill 8 = .ok (.iload 4, 2) := by decide +kernel
theorem d_Mod_fill_10 : decode b_Mod_fill 10 = .ok (.invokestatic 83, 3) := by decide +kernel
theorem d_Mod_fill_13 : decode b_Mod_fill 13 = .ok (.ifCond .eq 11, 3) := by decide +kernel
theorem d_Mod_fill_16 : decode b_Mod_fill 16 = .ok (.iload 5, 2) := by decide +kernel
theorem d_Mod_fill_18 : decode b_Mod_fill 18 = .ok (.invokestatic 87, 3) := by decide +kernel
theorem d_Mod_fill_21 : decode b_Mod_fill 21 = .ok (.ifCond .ne 5, 3) := by decide +kernel
theorem d_Mod_fill_24 : decode b_Mod_fill 24 = .ok (.iconst 0, 1) := by decide +kernel
theorem d_Mod_fill_25 : decode b_Mod_fill 25 = .ok (.ireturn, 1) := by decide +kernel
theorem d_Mod_fill_26 : decode b_Mod_fill 26 = .ok (.iconst 0, 1) := by decide +kernel
theorem d_Mod_fill_27 : decode b_Mod_fill 27 = .ok (.istore 6, 2) := by decide +kernel
theorem d_Mod_fill_29 : decode b_Mod_fill 29 = .ok (.iload 6, 2) := by decide +kernel
theorem d_Mod_fill_31 : decode b_Mod_fill 31 = .ok (.iload_n 3, 1) := by decide +kernel
theorem d_Mod_fill_32 : decode b_Mod_fill 32 = .ok (.iload 4, 2) := by decide +kernel
theorem d_Mod_fill_34 : decode b_Mod_fill 34 = .ok (.imul, 1) := by decide +kernel
theorem d_Mod_fill_35 : decode b_Mod_fill 35 = .ok (.if_icmp .ge 32, 3) := by decide +kernel
theorem d_Mod_fill_38 : decode b_Mod_fill 38 = .ok (.aload_n 0, 1) := by decide +kernel
theorem d_Mod_fill_39 : decode b_Mod_fill 39 = .ok (.getfield 7, 3) := by decide +kernel
theorem d_Mod_fill_42 : decode b_Mod_fill 42 = .ok (.bipush 64, 2) := by decide +kernel
theorem d_Mod_fill_44 : decode b_Mod_fill 44 = .ok (.iload_n 2, 1) := by decide +kernel
theorem d_Mod_fill_45 : decode b_Mod_fill 45 = .ok (.iload 6, 2) := by decide +kernel
theorem d_Mod_fill_47 : decode b_Mod_fill 47 = .ok (.iload_n 3, 1) := by decide +kernel
theorem d_Mod_fill_48 : decode b_Mod_fill 48 = .ok (.idiv, 1) := by decide +kernel
theorem d_Mod_fill_49 : decode b_Mod_fill 49 = .ok (.iadd, 1) := by decide +kernel
theorem d_Mod_fill_50 : decode b_Mod_fill 50 = .ok (.imul, 1) := by decide +kernel
theorem d_Mod_fill_51 : decode b_Mod_fill 51 = .ok (.iload_n 1, 1) := by decide +kernel
theorem d_Mod_fill_52 : decode b_Mod_fill 52 = .ok (.iadd, 1) := by decide +kernel
theorem d_Mod_fill_53 : decode b_Mod_fill 53 = .ok (.iload 6, 2) := by decide +kernel
theorem d_Mod_fill_55 : decode b_Mod_fill 55 = .ok (.iload_n 3, 1) := by decide +kernel
theorem d_Mod_fill_56 : decode b_Mod_fill 56 = .ok (.irem, 1) := by decide +kernel
theorem d_Mod_fill_57 : decode b_Mod_fill 57 = .ok (.iadd, 1) := by decide +kernel
theorem d_Mod_fill_58 : decode b_Mod_fill 58 = .ok (.iload 5, 2) := by decide +kernel
theorem d_Mod_fill_60 : decode b_Mod_fill 60 = .ok (.iastore, 1) := by decide +kernel
theorem d_Mod_fill_61 : decode b_Mod_fill 61 = .ok (.iinc 6 1, 3) := by decide +kernel
theorem d_Mod_fill_64 : decode b_Mod_fill 64 = .ok (.goto (-35), 3) := by decide +kernel
theorem d_Mod_fill_67 : decode b_Mod_fill 67 = .ok (.iconst 1, 1) := by decide +kernel
theorem d_Mod_fill_68 : decode b_Mod_fill 68 = .ok (.ireturn, 1) := by decide +kernel
theorem d_Mod_blit_0 : decode b_Mod_blit 0 = .ok (.aload_n 0, 1) := by decide +kernel
theorem d_Mod_blit_1 : decode b_Mod_blit 1 = .ok (.iconst 0, 1) := by decide +kernel
theorem d_Mod_blit_2 : decode b_Mod_blit 2 = .ok (.putfield 74, 3) := by decide +kernel
theorem d_Mod_blit_5 : decode b_Mod_blit 5 = .ok (.iload_n 1, 1) := by decide +kernel
theorem d_Mod_blit_6 : decode b_Mod_blit 6 = .ok (.ifCond .lt 9, 3) := by decide +kernel
theorem d_Mod_blit_9 : decode b_Mod_blit 9 = .ok (.iload_n 2, 1) := by decide +kernel
theorem d_Mod_blit_10 : decode b_Mod_blit 10 = .ok (.bipush 65, 2) := by decide +kernel
theorem d_Mod_blit_12 : decode b_Mod_blit 12 = .ok (.if_icmp .ge 5, 3) := by decide +kernel
theorem d_Mod_blit_15 : decode b_Mod_blit 15 = .ok (.iconst 0, 1) := by decide +kernel
theorem d_Mod_blit_16 : decode b_Mod_blit 16 = .ok (.ireturn, 1) := by decide +kernel
theorem d_Mod_blit_17 : decode b_Mod_blit 17 = .ok (.iload_n 2, 1) := by decide +kernel
theorem d_Mod_blit_18 : decode b_Mod_blit 18 = .ok (.iconst 1, 1) := by decide +kernel
theorem d_Mod_blit_19 : decode b_Mod_blit 19 = .ok (.isub, 1) := by decide +kernel
theorem d_Mod_blit_20 : decode b_Mod_blit 20 = .ok (.bipush 64, 2) := by decide +kernel
theorem d_Mod_blit_22 : decode b_Mod_blit 22 = .ok (.irem, 1) := by decide +kernel
theorem d_Mod_blit_23 : decode b_Mod_blit 23 = .ok (.iconst 1, 1) := by decide +kernel
theorem d_Mod_blit_24 : decode b_Mod_blit 24 = .ok (.iadd, 1) := by decide +kernel
theorem d_Mod_blit_25 : decode b_Mod_blit 25 = .ok (.istore 5, 2) := by decide +kernel
theorem d_Mod_blit_27 : decode b_Mod_blit 27 = .ok (.iload_n 2, 1) := by decide +kernel
theorem d_Mod_blit_28 : decode b_Mod_blit 28 = .ok (.iload 5, 2) := by decide +kernel
theorem d_Mod_blit_30 : decode b_Mod_blit 30 = .ok (.isub, 1) := by decide +kernel
theorem d_Mod_blit_31 : decode b_Mod_blit 31 = .ok (.bipush 64, 2) := by decide +kernel
theorem d_Mod_blit_33 : decode b_Mod_blit 33 = .ok (.idiv, 1) := by decide +kernel
theorem d_Mod_blit_34 : decode b_Mod_blit 34 = .ok (.istore 6, 2) := by decide +kernel
theorem d_Mod_blit_36 : decode b_Mod_blit 36 = .ok (.iload_n 1, 1) := by decide +kernel
theorem d_Mod_blit_37 : decode b_Mod_blit 37 = .ok (.bipush 64, 2) := by decide +kernel
theorem d_Mod_blit_39 : decode b_Mod_blit 39 = .ok (.irem, 1) := by decide +kernel
theorem d_Mod_blit_40 : decode b_Mod_blit 40 = .ok (.iload_n 1, 1) := by decide +kernel
theorem d_Mod_blit_41 : decode b_Mod_blit 41 = .ok (.bipush 64, 2) := by decide +kernel
theorem d_Mod_blit_43 : decode b_Mod_blit 43 = .ok (.idiv, 1) := by decide +kernel
theorem d_Mod_blit_44 : decode b_Mod_blit 44 = .ok (.iload 5, 2) := by decide +kernel
theorem d_Mod_blit_46 : decode b_Mod_blit 46 = .ok (.iload 6, 2) := by decide +kernel
theorem d_Mod_blit_48 : decode b_Mod_blit 48 = .ok (.invokestatic 83, 3) := by decide +kernel
theorem d_Mod_blit_51 : decode b_Mod_blit 51 = .ok (.ifCond .eq 16, 3) := by decide +kernel
theorem d_Mod_blit_54 : decode b_Mod_blit 54 = .ok (.iload_n 3, 1) := by decide +kernel
theorem d_Mod_blit_55 : decode b_Mod_blit 55 = .ok (.iload 4, 2) := by decide +kernel
theorem d_Mod_blit_57 : decode b_Mod_blit 57 = .ok (.iload 5, 2) := by decide +kernel
theorem d_Mod_blit_59 : decode b_Mod_blit 59 = .ok (.iload 6, 2) := by decide +kernel
theorem d_Mod_blit_61 : decode b_Mod_blit 61 = .ok (.invokestatic 83, 3) := by decide +kernel
theorem d_Mod_blit_64 : decode b_Mod_blit 64 = .ok (.ifCond .ne 5, 3) := by decide +kernel
theorem d_Mod_blit_67 : decode b_Mod_blit 67 = .ok (.iconst 0, 1) := by decide +kernel
theorem d_Mod_blit_68 : decode b_Mod_blit 68 = .ok (.ireturn, 1) := by decide +kernel
theorem d_Mod_blit_69 : decode b_Mod_blit 69 = .ok (.aload_n 0, 1) := by decide +kernel
theorem d_Mod_blit_70 : decode b_Mod_blit 70 = .ok (.bipush 8, 2) := by decide +kernel
theorem d_Mod_blit_72 : decode b_Mod_blit 72 = .ok (.iconst 0, 1) := by decide +kernel
theorem d_Mod_blit_73 : decode b_Mod_blit 73 = .ok (.invokevirtual 91, 3) := by decide +kernel
theorem d_Mod_blit_76 : decode b_Mod_blit 76 = .ok (.iconst 0, 1) := by decide +kernel
theorem d_Mod_blit_77 : decode b_Mod_blit 77 = .ok (.istore 7, 2) := by decide +kernel
theorem d_Mod_blit_79 : decode b_Mod_blit 79 = .ok (.iload 7, 2) := by decide +kernel
theorem d_Mod_blit_81 : decode b_Mod_blit 81 = .ok (.iload 5, 2) := by decide +kernel
theorem d_Mod_blit_83 : decode b_Mod_blit 83 = .ok (.iload 6, 2) := by decide +kernel
theorem d_Mod_blit_85 : decode b_Mod_blit 85 = .ok (.imul, 1) := by decide +kernel
theorem d_Mod_blit_86 : decode b_Mod_blit 86 = .ok (.if_icmp .ge 58, 3) := by decide +kernel
theorem d_Mod_blit_89 : decode b_Mod_blit 89 = .ok (.aload_n 0, 1) := by decide +kernel
theorem d_Mod_blit_90 : decode b_Mod_blit 90 = .ok (.getfield 7, 3) := by decide +kernel
theorem d_Mod_blit_93 : decode b_Mod_blit 93 = .ok (.bipush 64, 2) := by decide +kernel
theorem d_Mod_blit_95 : decode b_Mod_blit 95 = .ok (.iload 4, 2) := by decide +kernel
theorem d_Mod_blit_97 : decode b_Mod_blit 97 = .ok (.iload 7, 2) := by decide +kernel
theorem d_Mod_blit_99 : decode b_Mod_blit 99 = .ok (.iload 5, 2) := by decide +kernel
theorem d_Mod_blit_101 : decode b_Mod_blit 101 = .ok (.idiv, 1) := by decide +kernel
theorem d_Mod_blit_102 : decode b_Mod_blit 102 = .ok (.iadd, 1) := by decide +kernel
theorem d_Mod_blit_103 : decode b_Mod_blit 103 = .ok (.imul, 1) := by decide +kernel
theorem d_Mod_blit_104 : decode b_Mod_blit 104 = .ok (.iload_n 3, 1) := by decide +kernel
theorem d_Mod_blit_105 : decode b_Mod_blit 105 = .ok (.iadd, 1) := by decide +kernel
theorem d_Mod_blit_106 : decode b_Mod_blit 106 = .ok (.iload 7, 2) := by decide +kernel
theorem d_Mod_blit_108 : decode b_Mod_blit 108 = .ok (.iload 5, 2) := by decide +kernel
theorem d_Mod_blit_110 : decode b_Mod_blit 110 = .ok (.irem, 1) := by decide +kernel
theorem d_Mod_blit_111 : decode b_Mod_blit 111 = .ok (.iadd, 1) := by decide +kernel
theorem d_Mod_blit_112 : decode b_Mod_blit 112 = .ok (.aload_n 0, 1) := by decide +kernel
theorem d_Mod_blit_113 : decode b_Mod_blit 113 = .ok (.getfield 7, 3) := by decide +kernel
theorem d_Mod_blit_116 : decode b_Mod_blit 116 = .ok (.sipush 24576, 3) := by decide +kernel
theorem d_Mod_blit_119 : decode b_Mod_blit 119 = .ok (.iload_n 1, 1) := by decide +kernel
theorem d_Mod_blit_120 : decode b_Mod_blit 120 = .ok (.iadd, 1) := by decide +kernel
theorem d_Mod_blit_121 : decode b_Mod_blit 121 = .ok (.bipush 64, 2) := by decide +kernel
theorem d_Mod_blit_123 : decode b_Mod_blit 123 = .ok (.iload 7, 2) := by decide +kernel
theorem d_Mod_blit_125 : decode b_Mod_blit 125 = .ok (.iload 5, 2) := by decide +kernel
theorem d_Mod_blit_127 : decode b_Mod_blit 127 = .ok (.idiv, 1) := by decide +kernel
theorem d_Mod_blit_128 : decode b_Mod_blit 128 = .ok (.imul, 1) := by decide +kernel
theorem d_Mod_blit_129 : decode b_Mod_blit 129 = .ok (.iadd, 1) := by decide +kernel
end
section
theorem d_Mod_blit_130 : decode b_Mod_blit 130 = .ok (.iload 7, 2) := by decide +kernel
theorem d_Mod_blit_132 : decode b_Mod_blit 132 = .ok (.iload 5, 2) := by decide +kernel
theorem d_Mod_blit_134 : decode b_Mod_blit 134 = .ok (.irem, 1) := by decide +kernel
theorem d_Mod_blit_135 : decode b_Mod_blit 135 = .ok (.iadd, 1) := by decide +kernel
theorem d_Mod_blit_136 : decode b_Mod_blit 136 = .ok (.iaload, 1) := by decide +kernel
theorem d_Mod_blit_137 : decode b_Mod_blit 137 = .ok (.iastore, 1) := by decide +kernel
theorem d_Mod_blit_138 : decode b_Mod_blit 138 = .ok (.iinc 7 1, 3) := by decide +kernel
theorem d_Mod_blit_141 : decode b_Mod_blit 141 = .ok (.goto (-62), 3) := by decide +kernel
theorem d_Mod_blit_144 : decode b_Mod_blit 144 = .ok (.iconst 1, 1) := by decide +kernel
theorem d_Mod_blit_145 : decode b_Mod_blit 145 = .ok (.ireturn, 1) := by decide +kernel
theorem d_Mod_shade_0 : decode b_Mod_shade 0 = .ok (.aload_n 0, 1) := by decide +kernel
theorem d_Mod_shade_1 : decode b_Mod_shade 1 = .ok (.iconst 0, 1) := by decide +kernel
theorem d_Mod_shade_2 : decode b_Mod_shade 2 = .ok (.putfield 74, 3) := by decide +kernel
theorem d_Mod_shade_5 : decode b_Mod_shade 5 = .ok (.iload_n 1, 1) := by decide +kernel
theorem d_Mod_shade_6 : decode b_Mod_shade 6 = .ok (.ifCond .lt 26, 3) := by decide +kernel
theorem d_Mod_shade_9 : decode b_Mod_shade 9 = .ok (.iload_n 1, 1) := by decide +kernel
theorem d_Mod_shade_10 : decode b_Mod_shade 10 = .ok (.bipush 48, 2) := by decide +kernel
theorem d_Mod_shade_12 : decode b_Mod_shade 12 = .ok (.if_icmp .ge 20, 3) := by decide +kernel
theorem d_Mod_shade_15 : decode b_Mod_shade 15 = .ok (.iload_n 2, 1) := by decide +kernel
theorem d_Mod_shade_16 : decode b_Mod_shade 16 = .ok (.ifCond .lt 16, 3) := by decide +kernel
theorem d_Mod_shade_19 : decode b_Mod_shade 19 = .ok (.iload_n 2, 1) := by decide +kernel
theorem d_Mod_shade_20 : decode b_Mod_shade 20 = .ok (.bipush 7, 2) := by decide +kernel
theorem d_Mod_shade_22 : decode b_Mod_shade 22 = .ok (.if_icmp .gt 10, 3) := by decide +kernel
theorem d_Mod_shade_25 : decode b_Mod_shade 25 = .ok (.iload_n 3, 1) := by decide +kernel
theorem d_Mod_shade_26 : decode b_Mod_shade 26 = .ok (.invokestatic 87, 3) := by decide +kernel
theorem d_Mod_shade_29 : decode b_Mod_shade 29 = .ok (.ifCond .ne 5, 3) := by decide +kernel
theorem d_Mod_shade_32 : decode b_Mod_shade 32 = .ok (.iconst 0, 1) := by decide +kernel
theorem d_Mod_shade_33 : decode b_Mod_shade 33 = .ok (.ireturn, 1) := by decide +kernel
theorem d_Mod_shade_34 : decode b_Mod_shade 34 = .ok (.iconst 0, 1) := by decide +kernel
theorem d_Mod_shade_35 : decode b_Mod_shade 35 = .ok (.istore 5, 2) := by decide +kernel
theorem d_Mod_shade_37 : decode b_Mod_shade 37 = .ok (.iload 5, 2) := by decide +kernel
theorem d_Mod_shade_39 : decode b_Mod_shade 39 = .ok (.bipush 8, 2) := by decide +kernel
theorem d_Mod_shade_41 : decode b_Mod_shade 41 = .ok (.if_icmp .ge 36, 3) := by decide +kernel
theorem d_Mod_shade_44 : decode b_Mod_shade 44 = .ok (.aload_n 0, 1) := by decide +kernel
theorem d_Mod_shade_45 : decode b_Mod_shade 45 = .ok (.getfield 7, 3) := by decide +kernel
theorem d_Mod_shade_48 : decode b_Mod_shade 48 = .ok (.iconst 0, 1) := by decide +kernel
theorem d_Mod_shade_49 : decode b_Mod_shade 49 = .ok (.iload_n 1, 1) := by decide +kernel
theorem d_Mod_shade_50 : decode b_Mod_shade 50 = .ok (.bipush 8, 2) := by decide +kernel
theorem d_Mod_shade_52 : decode b_Mod_shade 52 = .ok (.iload_n 2, 1) := by decide +kernel
theorem d_Mod_shade_53 : decode b_Mod_shade 53 = .ok (.imul, 1) := by decide +kernel
theorem d_Mod_shade_54 : decode b_Mod_shade 54 = .ok (.iload 5, 2) := by decide +kernel
theorem d_Mod_shade_56 : decode b_Mod_shade 56 = .ok (.iadd, 1) := by decide +kernel
theorem d_Mod_shade_57 : decode b_Mod_shade 57 = .ok (.invokestatic 78, 3) := by decide +kernel
theorem d_Mod_shade_60 : decode b_Mod_shade 60 = .ok (.iload_n 3, 1) := by decide +kernel
theorem d_Mod_shade_61 : decode b_Mod_shade 61 = .ok (.iload 5, 2) := by decide +kernel
theorem d_Mod_shade_63 : decode b_Mod_shade 63 = .ok (.iload 4, 2) := by decide +kernel
theorem d_Mod_shade_65 : decode b_Mod_shade 65 = .ok (.imul, 1) := by decide +kernel
theorem d_Mod_shade_66 : decode b_Mod_shade 66 = .ok (.iadd, 1) := by decide +kernel
theorem d_Mod_shade_67 : decode b_Mod_shade 67 = .ok (.ldc 95, 2) := by decide +kernel
theorem d_Mod_shade_69 : decode b_Mod_shade 69 = .ok (.iand, 1) := by decide +kernel
theorem d_Mod_shade_70 : decode b_Mod_shade 70 = .ok (.iastore, 1) := by decide +kernel
theorem d_Mod_shade_71 : decode b_Mod_shade 71 = .ok (.iinc 5 1, 3) := by decide +kernel
theorem d_Mod_shade_74 : decode b_Mod_shade 74 = .ok (.goto (-37), 3) := by decide +kernel
theorem d_Mod_shade_77 : decode b_Mod_shade 77 = .ok (.iconst 1, 1) := by decide +kernel
theorem d_Mod_shade_78 : decode b_Mod_shade 78 = .ok (.ireturn, 1) := by decide +kernel
theorem d_Mod_frame_0 : decode b_Mod_frame 0 = .ok (.aload_n 0, 1) := by decide +kernel
theorem d_Mod_frame_1 : decode b_Mod_frame 1 = .ok (.iconst 0, 1) := by decide +kernel
theorem d_Mod_frame_2 : decode b_Mod_frame 2 = .ok (.putfield 74, 3) := by decide +kernel
theorem d_Mod_frame_5 : decode b_Mod_frame 5 = .ok (.aload_n 0, 1) := by decide +kernel
theorem d_Mod_frame_6 : decode b_Mod_frame 6 = .ok (.iconst 1, 1) := by decide +kernel
theorem d_Mod_frame_7 : decode b_Mod_frame 7 = .ok (.iconst 0, 1) := by decide +kernel
theorem d_Mod_frame_8 : decode b_Mod_frame 8 = .ok (.invokevirtual 91, 3) := by decide +kernel
theorem d_Mod_frame_11 : decode b_Mod_frame 11 = .ok (.aload_n 0, 1) := by decide +kernel
theorem d_Mod_frame_12 : decode b_Mod_frame 12 = .ok (.dup, 1) := by decide +kernel
theorem d_Mod_frame_13 : decode b_Mod_frame 13 = .ok (.getfield 96, 3) := by decide +kernel
theorem d_Mod_frame_16 : decode b_Mod_frame 16 = .ok (.iconst 1, 1) := by decide +kernel
theorem d_Mod_frame_17 : decode b_Mod_frame 17 = .ok (.iadd, 1) := by decide +kernel
theorem d_Mod_frame_18 : decode b_Mod_frame 18 = .ok (.putfield 96, 3) := by decide +kernel
theorem d_Mod_frame_21 : decode b_Mod_frame 21 = .ok (.aload_n 0, 1) := by decide +kernel
theorem d_Mod_frame_22 : decode b_Mod_frame 22 = .ok (.getfield 96, 3) := by decide +kernel
theorem d_Mod_frame_25 : decode b_Mod_frame 25 = .ok (.ireturn, 1) := by decide +kernel
theorem d_Mod_join_0 : decode b_Mod_join 0 = .ok (.aload_n 0, 1) := by decide +kernel
theorem d_Mod_join_1 : decode b_Mod_join 1 = .ok (.iconst 0, 1) := by decide +kernel
theorem d_Mod_join_2 : decode b_Mod_join 2 = .ok (.putfield 74, 3) := by decide +kernel
theorem d_Mod_join_5 : decode b_Mod_join 5 = .ok (.iload_n 1, 1) := by decide +kernel
theorem d_Mod_join_6 : decode b_Mod_join 6 = .ok (.invokestatic 99, 3) := by decide +kernel
theorem d_Mod_join_9 : decode b_Mod_join 9 = .ok (.ifCond .eq 12, 3) := by decide +kernel
theorem d_Mod_join_12 : decode b_Mod_join 12 = .ok (.aload_n 0, 1) := by decide +kernel
theorem d_Mod_join_13 : decode b_Mod_join 13 = .ok (.getfield 23, 3) := by decide +kernel
theorem d_Mod_join_16 : decode b_Mod_join 16 = .ok (.iload_n 1, 1) := by decide +kernel
theorem d_Mod_join_17 : decode b_Mod_join 17 = .ok (.baload, 1) := by decide +kernel
theorem d_Mod_join_18 : decode b_Mod_join 18 = .ok (.ifCond .eq 5, 3) := by decide +kernel
theorem d_Mod_join_21 : decode b_Mod_join 21 = .ok (.iconst 0, 1) := by decide +kernel
theorem d_Mod_join_22 : decode b_Mod_join 22 = .ok (.ireturn, 1) := by decide +kernel
theorem d_Mod_join_23 : decode b_Mod_join 23 = .ok (.aload_n 0, 1) := by decide +kernel
theorem d_Mod_join_24 : decode b_Mod_join 24 = .ok (.getfield 23, 3) := by decide +kernel
theorem d_Mod_join_27 : decode b_Mod_join 27 = .ok (.iload_n 1, 1) := by decide +kernel
theorem d_Mod_join_28 : decode b_Mod_join 28 = .ok (.iconst 1, 1) := by decide +kernel
theorem d_Mod_join_29 : decode b_Mod_join 29 = .ok (.bastore, 1) := by decide +kernel
theorem d_Mod_join_30 : decode b_Mod_join 30 = .ok (.aload_n 0, 1) := by decide +kernel
theorem d_Mod_join_31 : decode b_Mod_join 31 = .ok (.getfield 35, 3) := by decide +kernel
theorem d_Mod_join_34 : decode b_Mod_join 34 = .ok (.iload_n 1, 1) := by decide +kernel
theorem d_Mod_join_35 : decode b_Mod_join 35 = .ok (.dup2, 1) := by decide +kernel
theorem d_Mod_join_36 : decode b_Mod_join 36 = .ok (.iaload, 1) := by decide +kernel
theorem d_Mod_join_37 : decode b_Mod_join 37 = .ok (.iconst 1, 1) := by decide +kernel
theorem d_Mod_join_38 : decode b_Mod_join 38 = .ok (.iadd, 1) := by decide +kernel
theorem d_Mod_join_39 : decode b_Mod_join 39 = .ok (.iastore, 1) := by decide +kernel
theorem d_Mod_join_40 : decode b_Mod_join 40 = .ok (.aload_n 0, 1) := by decide +kernel
theorem d_Mod_join_41 : decode b_Mod_join 41 = .ok (.getfield 16, 3) := by decide +kernel
theorem d_Mod_join_44 : decode b_Mod_join 44 = .ok (.iload_n 1, 1) := by decide +kernel
theorem d_Mod_join_45 : decode b_Mod_join 45 = .ok (.iconst 0, 1) := by decide +kernel
theorem d_Mod_join_46 : decode b_Mod_join 46 = .ok (.iastore, 1) := by decide +kernel
theorem d_Mod_join_47 : decode b_Mod_join 47 = .ok (.aload_n 0, 1) := by decide +kernel
theorem d_Mod_join_48 : decode b_Mod_join 48 = .ok (.getfield 16, 3) := by decide +kernel
theorem d_Mod_join_51 : decode b_Mod_join 51 = .ok (.iconst 3, 1) := by decide +kernel
theorem d_Mod_join_52 : decode b_Mod_join 52 = .ok (.iload_n 1, 1) := by decide +kernel
theorem d_Mod_join_53 : decode b_Mod_join 53 = .ok (.iadd, 1) := by decide +kernel
theorem d_Mod_join_54 : decode b_Mod_join 54 = .ok (.iconst 0, 1) := by decide +kernel
theorem d_Mod_join_55 : decode b_Mod_join 55 = .ok (.iastore, 1) := by decide +kernel
theorem d_Mod_join_56 : decode b_Mod_join 56 = .ok (.iconst 0, 1) := by decide +kernel
theorem d_Mod_join_57 : decode b_Mod_join 57 = .ok (.istore_n 2, 1) := by decide +kernel
theorem d_Mod_join_58 : decode b_Mod_join 58 = .ok (.iload_n 2, 1) := by decide +kernel
theorem d_Mod_join_59 : decode b_Mod_join 59 = .ok (.bipush 16, 2) := by decide +kernel
theorem d_Mod_join_61 : decode b_Mod_join 61 = .ok (.if_icmp .ge 36, 3) := by decide +kernel
theorem d_Mod_join_64 : decode b_Mod_join 64 = .ok (.aload_n 0, 1) := by decide +kernel
theorem d_Mod_join_65 : decode b_Mod_join 65 = .ok (.getfield 19, 3) := by decide +kernel
theorem d_Mod_join_68 : decode b_Mod_join 68 = .ok (.bipush 16, 2) := by decide +kernel
theorem d_Mod_join_70 : decode b_Mod_join 70 = .ok (.iload_n 1, 1) := by decide +kernel
theorem d_Mod_join_71 : decode b_Mod_join 71 = .ok (.imul, 1) := by decide +kernel
theorem d_Mod_join_72 : decode b_Mod_join 72 = .ok (.iload_n 2, 1) := by decide +kernel
theorem d_Mod_join_73 : decode b_Mod_join 73 = .ok (.iadd, 1) := by decide +kernel
theorem d_Mod_join_74 : decode b_Mod_join 74 = .ok (.iconst 0, 1) := by decide +kernel
theorem d_Mod_join_75 : decode b_Mod_join 75 = .ok (.bastore, 1) := by decide +kernel
theorem d_Mod_join_76 : decode b_Mod_join 76 = .ok (.aload_n 0, 1) := by decide +kernel
theorem d_Mod_join_77 : decode b_Mod_join 77 = .ok (.getfield 19, 3) := by decide +kernel
theorem d_Mod_join_80 : decode b_Mod_join 80 = .ok (.bipush 48, 2) := by decide +kernel
theorem d_Mod_join_82 : decode b_Mod_join 82 = .ok (.bipush 16, 2) := by decide +kernel
theorem d_Mod_join_84 : decode b_Mod_join 84 = .ok (.iload_n 1, 1) := by decide +kernel
theorem d_Mod_join_85 : decode b_Mod_join 85 = .ok (.imul, 1) := by decide +kernel
theorem d_Mod_join_86 : decode b_Mod_join 86 = .ok (.iadd, 1) := by decide +kernel
theorem d_Mod_join_87 : decode b_Mod_join 87 = .ok (.iload_n 2, 1) := by decide +kernel
theorem d_Mod_join_88 : decode b_Mod_join 88 = .ok (.iadd, 1) := by decide +kernel
theorem d_Mod_join_89 : decode b_Mod_join 89 = .ok (.iconst 0, 1) := by decide +kernel
theorem d_Mod_join_90 : decode b_Mod_join 90 = .ok (.bastore, 1) := by decide +kernel
theorem d_Mod_join_91 : decode b_Mod_join 91 = .ok (.iinc 2 1, 3) := by decide +kernel
theorem d_Mod_join_94 : decode b_Mod_join 94 = .ok (.goto (-36), 3) := by decide +kernel
theorem d_Mod_join_97 : decode b_Mod_join 97 = .ok (.aload_n 0, 1) := by decide +kernel
theorem d_Mod_join_98 : decode b_Mod_join 98 = .ok (.iconst 5, 1) := by decide +kernel
theorem d_Mod_join_99 : decode b_Mod_join 99 = .ok (.iload_n 1, 1) := by decide +kernel
theorem d_Mod_join_100 : decode b_Mod_join 100 = .ok (.iadd, 1) := by decide +kernel
theorem d_Mod_join_101 : decode b_Mod_join 101 = .ok (.iconst 2, 1) := by decide +kernel
theorem d_Mod_join_102 : decode b_Mod_join 102 = .ok (.iload_n 1, 1) := by decide +kernel
theorem d_Mod_join_103 : decode b_Mod_join 103 = .ok (.iadd, 1) := by decide +kernel
theorem d_Mod_join_104 : decode b_Mod_join 104 = .ok (.invokevirtual 91, 3) := by decide +kernel
theorem d_Mod_join_107 : decode b_Mod_join 107 = .ok (.aload_n 0, 1) := by decide +kernel
theorem d_Mod_join_108 : decode b_Mod_join 108 = .ok (.getfield 29, 3) := by decide +kernel
theorem d_Mod_join_111 : decode b_Mod_join 111 = .ok (.iload_n 1, 1) := by decide +kernel
theorem d_Mod_join_112 : decode b_Mod_join 112 = .ok (.aload_n 0, 1) := by decide +kernel
theorem d_Mod_join_113 : decode b_Mod_join 113 = .ok (.getfield 26, 3) := by decide +kernel
theorem d_Mod_join_116 : decode b_Mod_join 116 = .ok (.iload_n 1, 1) := by decide +kernel
theorem d_Mod_join_117 : decode b_Mod_join 117 = .ok (.iaload, 1) := by decide +kernel
theorem d_Mod_join_118 : decode b_Mod_join 118 = .ok (.iastore, 1) := by decide +kernel
theorem d_Mod_join_119 : decode b_Mod_join 119 = .ok (.aload_n 0, 1) := by decide +kernel
theorem d_Mod_join_120 : decode b_Mod_join 120 = .ok (.getfield 44, 3) := by decide +kernel
theorem d_Mod_join_123 : decode b_Mod_join 123 = .ok (.iload_n 1, 1) := by decide +kernel
theorem d_Mod_join_124 : decode b_Mod_join 124 = .ok (.iconst 0, 1) := by decide +kernel
theorem d_Mod_join_125 : decode b_Mod_join 125 = .ok (.iastore, 1) := by decide +kernel
theorem d_Mod_join_126 : decode b_Mod_join 126 = .ok (.aload_n 0, 1) := by decide +kernel
theorem d_Mod_join_127 : decode b_Mod_join 127 = .ok (.getfield 47, 3) := by decide +kernel
theorem d_Mod_join_130 : decode b_Mod_join 130 = .ok (.iload_n 1, 1) := by decide +kernel
theorem d_Mod_join_131 : decode b_Mod_join 131 = .ok (.iconst 0, 1) := by decide +kernel
theorem d_Mod_join_132 : decode b_Mod_join 132 = .ok (.iastore, 1) := by decide +kernel
theorem d_Mod_join_133 : decode b_Mod_join 133 = .ok (.iconst 1, 1) := by decide +kernel
theorem d_Mod_join_134 : decode b_Mod_join 134 = .ok (.ireturn, 1) := by decide +kernel
theorem d_Mod_leave_0 : decode b_Mod_leave 0 = .ok (.aload_n 0, 1) := by decide +kernel
theorem d_Mod_leave_1 : decode b_Mod_leave 1 = .ok (.getfield 23, 3) := by decide +kernel
theorem d_Mod_leave_4 : decode b_Mod_leave 4 = .ok (.iload_n 1, 1) := by decide +kernel
theorem d_Mod_leave_5 : decode b_Mod_leave 5 = .ok (.iconst 0, 1) := by decide +kernel
theorem d_Mod_leave_6 : decode b_Mod_leave 6 = .ok (.bastore, 1) := by decide +kernel
theorem d_Mod_leave_7 : decode b_Mod_leave 7 = .ok (.aload_n 0, 1) := by decide +kernel
theorem d_Mod_leave_8 : decode b_Mod_leave 8 = .ok (.getfield 44, 3) := by decide +kernel
theorem d_Mod_leave_11 : decode b_Mod_leave 11 = .ok (.iload_n 1, 1) := by decide +kernel
theorem d_Mod_leave_12 : decode b_Mod_leave 12 = .ok (.iconst 0, 1) := by decide +kernel
theorem d_Mod_leave_13 : decode b_Mod_leave 13 = .ok (.iastore, 1) := by decide +kernel
theorem d_Mod_leave_14 : decode b_Mod_leave 14 = .ok (.aload_n 0, 1) := by decide +kernel
theorem d_Mod_leave_15 : decode b_Mod_leave 15 = .ok (.getfield 47, 3) := by decide +kernel
theorem d_Mod_leave_18 : decode b_Mod_leave 18 = .ok (.iload_n 1, 1) := by decide +kernel
theorem d_Mod_leave_19 : decode b_Mod_leave 19 = .ok (.iconst 0, 1) := by decide +kernel
theorem d_Mod_leave_20 : decode b_Mod_leave 20 = .ok (.iastore, 1) := by decide +kernel
theorem d_Mod_leave_21 : decode b_Mod_leave 21 = .ok (.aload_n 0, 1) := by decide +kernel
theorem d_Mod_leave_22 : decode b_Mod_leave 22 = .ok (.getfield 53, 3) := by decide +kernel
theorem d_Mod_leave_25 : decode b_Mod_leave 25 = .ok (.iload_n 1, 1) := by decide +kernel
theorem d_Mod_leave_26 : decode b_Mod_leave 26 = .ok (.iconst 0, 1) := by decide +kernel
theorem d_Mod_leave_27 : decode b_Mod_leave 27 = .ok (.iastore, 1) := by decide +kernel
theorem d_Mod_leave_28 : decode b_Mod_leave 28 = .ok (.aload_n 0, 1) := by decide +kernel
theorem d_Mod_leave_29 : decode b_Mod_leave 29 = .ok (.getfield 32, 3) := by decide +kernel
theorem d_Mod_leave_32 : decode b_Mod_leave 32 = .ok (.iload_n 1, 1) := by decide +kernel
theorem d_Mod_leave_33 : decode b_Mod_leave 33 = .ok (.iconst 0, 1) := by decide +kernel
theorem d_Mod_leave_34 : decode b_Mod_leave 34 = .ok (.iastore, 1) := by decide +kernel
theorem d_Mod_leave_35 : decode b_Mod_leave 35 = .ok (.return_, 1) := by decide +kernel
theorem d_Mod_cut_0 : decode b_Mod_cut 0 = .ok (.aload_n 0, 1) := by decide +kernel
theorem d_Mod_cut_1 : decode b_Mod_cut 1 = .ok (.iconst 0, 1) := by decide +kernel
theorem d_Mod_cut_2 : decode b_Mod_cut 2 = .ok (.putfield 74, 3) := by decide +kernel
theorem d_Mod_cut_5 : decode b_Mod_cut 5 = .ok (.iload_n 1, 1) := by decide +kernel
theorem d_Mod_cut_6 : decode b_Mod_cut 6 = .ok (.invokestatic 99, 3) := by decide +kernel
theorem d_Mod_cut_9 : decode b_Mod_cut 9 = .ok (.ifCond .eq 16, 3) := by decide +kernel
theorem d_Mod_cut_12 : decode b_Mod_cut 12 = .ok (.aload_n 0, 1) := by decide +kernel
theorem d_Mod_cut_13 : decode b_Mod_cut 13 = .ok (.getfield 23, 3) := by decide +kernel
theorem d_Mod_cut_16 : decode b_Mod_cut 16 = .ok (.iload_n 1, 1) := by decide +kernel
theorem d_Mod_cut_17 : decode b_Mod_cut 17 = .ok (.baload, 1) := by decide +kernel
theorem d_Mod_cut_18 : decode b_Mod_cut 18 = .ok (.ifCond .eq 7, 3) := by decide +kernel
theorem d_Mod_cut_21 : decode b_Mod_cut 21 = .ok (.iconst 1, 1) := by decide +kernel
theorem d_Mod_cut_22 : decode b_Mod_cut 22 = .ok (.goto 4, 3) := by decide +kernel
theorem d_Mod_cut_25 : decode b_Mod_cut 25 = .ok (.iconst 0, 1) := by decide +kernel
theorem d_Mod_cut_26 : decode b_Mod_cut 26 = .ok (.istore_n 2, 1) := by decide +kernel
theorem d_Mod_cut_27 : decode b_Mod_cut 27 = .ok (.iload_n 2, 1) := by decide +kernel
theorem d_Mod_cut_28 : decode b_Mod_cut 28 = .ok (.ifCond .eq 8, 3) := by decide +kernel
theorem d_Mod_cut_31 : decode b_Mod_cut 31 = .ok (.aload_n 0, 1) := by decide +kernel
theorem d_Mod_cut_32 : decode b_Mod_cut 32 = .ok (.iload_n 1, 1) := by decide +kernel
theorem d_Mod_cut_33 : decode b_Mod_cut 33 = .ok (.invokevirtual 102, 3) := by decide +kernel
theorem d_Mod_cut_36 : decode b_Mod_cut 36 = .ok (.iload_n 2, 1) := by decide +kernel
theorem d_Mod_cut_37 : decode b_Mod_cut 37 = .ok (.ireturn, 1) := by decide +kernel
theorem d_Mod_credit_0 : decode b_Mod_credit 0 = .ok (.aload_n 0, 1) := by decide +kernel
theorem d_Mod_credit_1 : decode b_Mod_credit 1 = .ok (.iload_n 1, 1) := by decide +kernel
theorem d_Mod_credit_2 : decode b_Mod_credit 2 = .ok (.invokestatic 99, 3) := by decide +kernel
theorem d_Mod_credit_5 : decode b_Mod_credit 5 = .ok (.ifCond .eq 14, 3) := by decide +kernel
theorem d_Mod_credit_8 : decode b_Mod_credit 8 = .ok (.iload_n 2, 1) := by decide +kernel
theorem d_Mod_credit_9 : decode b_Mod_credit 9 = .ok (.iconst 1, 1) := by decide +kernel
theorem d_Mod_credit_10 : decode b_Mod_credit 10 = .ok (.if_icmp .lt 9, 3) := by decide +kernel
theorem d_Mod_credit_13 : decode b_Mod_credit 13 = .ok (.iload_n 2, 1) := by decide +kernel
theorem d_Mod_credit_14 : decode b_Mod_credit 14 = .ok (.ldc 106, 2) := by decide +kernel
theorem d_Mod_credit_16 : decode b_Mod_credit 16 = .ok (.if_icmp .le 7, 3) := by decide +kernel
theorem d_Mod_credit_19 : decode b_Mod_credit 19 = .ok (.iconst 1, 1) := by decide +kernel
theorem d_Mod_credit_20 : decode b_Mod_credit 20 = .ok (.goto 30, 3) := by decide +kernel
theorem d_Mod_credit_23 : decode b_Mod_credit 23 = .ok (.aload_n 0, 1) := by decide +kernel
theorem d_Mod_credit_24 : decode b_Mod_credit 24 = .ok (.getfield 23, 3) := by decide +kernel
theorem d_Mod_credit_27 : decode b_Mod_credit 27 = .ok (.iload_n 1, 1) := by decide +kernel
theorem d_Mod_credit_28 : decode b_Mod_credit 28 = .ok (.baload, 1) := by decide +kernel
theorem d_Mod_credit_29 : decode b_Mod_credit 29 = .ok (.ifCond .eq 16, 3) := by decide +kernel
theorem d_Mod_credit_32 : decode b_Mod_credit 32 = .ok (.aload_n 0, 1) := by decide +kernel
theorem d_Mod_credit_33 : decode b_Mod_credit 33 = .ok (.getfield 32, 3) := by decide +kernel
theorem d_Mod_credit_36 : decode b_Mod_credit 36 = .ok (.iload_n 1, 1) := by decide +kernel
theorem d_Mod_credit_37 : decode b_Mod_credit 37 = .ok (.iaload, 1) := by decide +kernel
theorem d_Mod_credit_38 : decode b_Mod_credit 38 = .ok (.iload_n 2, 1) := by decide +kernel
theorem d_Mod_credit_39 : decode b_Mod_credit 39 = .ok (.iadd, 1) := by decide +kernel
theorem d_Mod_credit_40 : decode b_Mod_credit 40 = .ok (.ldc 106, 2) := by decide +kernel
theorem d_Mod_credit_42 : decode b_Mod_credit 42 = .ok (.if_icmp .le 7, 3) := by decide +kernel
theorem d_Mod_credit_45 : decode b_Mod_credit 45 = .ok (.iconst 2, 1) := by decide +kernel
theorem d_Mod_credit_46 : decode b_Mod_credit 46 = .ok (.goto 4, 3) := by decide +kernel
theorem d_Mod_credit_49 : decode b_Mod_credit 49 = .ok (.iconst 0, 1) := by decide +kernel
theorem d_Mod_credit_50 : decode b_Mod_credit 50 = .ok (.putfield 74, 3) := by decide +kernel
theorem d_Mod_credit_53 : decode b_Mod_credit 53 = .ok (.aload_n 0, 1) := by decide +kernel
theorem d_Mod_credit_54 : decode b_Mod_credit 54 = .ok (.getfield 74, 3) := by decide +kernel
theorem d_Mod_credit_57 : decode b_Mod_credit 57 = .ok (.ifCond .le 5, 3) := by decide +kernel
theorem d_Mod_credit_60 : decode b_Mod_credit 60 = .ok (.iconst 0, 1) := by decide +kernel
theorem d_Mod_credit_61 : decode b_Mod_credit 61 = .ok (.ireturn, 1) := by decide +kernel
theorem d_Mod_credit_62 : decode b_Mod_credit 62 = .ok (.aload_n 0, 1) := by decide +kernel
theorem d_Mod_credit_63 : decode b_Mod_credit 63 = .ok (.getfield 32, 3) := by decide +kernel
theorem d_Mod_credit_66 : decode b_Mod_credit 66 = .ok (.iload_n 1, 1) := by decide +kernel
theorem d_Mod_credit_67 : decode b_Mod_credit 67 = .ok (.dup2, 1) := by decide +kernel
theorem d_Mod_credit_68 : decode b_Mod_credit 68 = .ok (.iaload, 1) := by decide +kernel
theorem d_Mod_credit_69 : decode b_Mod_credit 69 = .ok (.iload_n 2, 1) := by decide +kernel
theorem d_Mod_credit_70 : decode b_Mod_credit 70 = .ok (.iadd, 1) := by decide +kernel
theorem d_Mod_credit_71 : decode b_Mod_credit 71 = .ok (.iastore, 1) := by decide +kernel
theorem d_Mod_credit_72 : decode b_Mod_credit 72 = .ok (.aload_n 0, 1) := by decide +kernel
theorem d_Mod_credit_73 : decode b_Mod_credit 73 = .ok (.getfield 32, 3) := by decide +kernel
theorem d_Mod_credit_76 : decode b_Mod_credit 76 = .ok (.iload_n 1, 1) := by decide +kernel
theorem d_Mod_credit_77 : decode b_Mod_credit 77 = .ok (.iaload, 1) := by decide +kernel
theorem d_Mod_credit_78 : decode b_Mod_credit 78 = .ok (.ireturn, 1) := by decide +kernel
theorem d_Mod_put_0 : decode b_Mod_put 0 = .ok (.aload_n 0, 1) := by decide +kernel
theorem d_Mod_put_1 : decode b_Mod_put 1 = .ok (.getfield 68, 3) := by decide +kernel
theorem d_Mod_put_4 : decode b_Mod_put 4 = .ok (.aload_n 0, 1) := by decide +kernel
theorem d_Mod_put_5 : decode b_Mod_put 5 = .ok (.getfield 107, 3) := by decide +kernel
theorem d_Mod_put_8 : decode b_Mod_put 8 = .ok (.iload_n 1, 1) := by decide +kernel
theorem d_Mod_put_9 : decode b_Mod_put 9 = .ok (.sipush 255, 3) := by decide +kernel
theorem d_Mod_put_12 : decode b_Mod_put 12 = .ok (.iand, 1) := by decide +kernel
theorem d_Mod_put_13 : decode b_Mod_put 13 = .ok (.iastore, 1) := by decide +kernel
theorem d_Mod_put_14 : decode b_Mod_put 14 = .ok (.aload_n 0, 1) := by decide +kernel
theorem d_Mod_put_15 : decode b_Mod_put 15 = .ok (.dup, 1) := by decide +kernel
theorem d_Mod_put_16 : decode b_Mod_put 16 = .ok (.getfield 107, 3) := by decide +kernel
theorem d_Mod_put_19 : decode b_Mod_put 19 = .ok (.iconst 1, 1) := by decide +kernel
theorem d_Mod_put_20 : decode b_Mod_put 20 = .ok (.iadd, 1) := by decide +kernel
theorem d_Mod_put_21 : decode b_Mod_put 21 = .ok (.putfield 107, 3) := by decide +kernel
theorem d_Mod_put_24 : decode b_Mod_put 24 = .ok (.return_, 1) := by decide +kernel
theorem d_Mod_putTwo_0 : decode b_Mod_putTwo 0 = .ok (.aload_n 0, 1) := by decide +kernel
theorem d_Mod_putTwo_1 : decode b_Mod_putTwo 1 = .ok (.iload_n 1, 1) := by decide +kernel
theorem d_Mod_putTwo_2 : decode b_Mod_putTwo 2 = .ok (.bipush 8, 2) := by decide +kernel
theorem d_Mod_putTwo_4 : decode b_Mod_putTwo 4 = .ok (.ishr, 1) := by decide +kernel
theorem d_Mod_putTwo_5 : decode b_Mod_putTwo 5 = .ok (.invokevirtual 110, 3) := by decide +kernel
theorem d_Mod_putTwo_8 : decode b_Mod_putTwo 8 = .ok (.aload_n 0, 1) := by decide +kernel
theorem d_Mod_putTwo_9 : decode b_Mod_putTwo 9 = .ok (.iload_n 1, 1) := by decide +kernel
theorem d_Mod_putTwo_10 : decode b_Mod_putTwo 10 = .ok (.invokevirtual 110, 3) := by decide +kernel
theorem d_Mod_putTwo_13 : decode b_Mod_putTwo 13 = .ok (.return_, 1) := by decide +kernel
theorem d_Mod_findColours_0 : decode b_Mod_findColours 0 = .ok (.aload_n 0, 1) := by decide +kernel
theorem d_Mod_findColours_1 : decode b_Mod_findColours 1 = .ok (.iconst 0, 1) := by decide +kernel
theorem d_Mod_findColours_2 : decode b_Mod_findColours 2 = .ok (.putfield 113, 3) := by decide +kernel
theorem d_Mod_findColours_5 : decode b_Mod_findColours 5 = .ok (.iconst 0, 1) := by decide +kernel
theorem d_Mod_findColours_6 : decode b_Mod_findColours 6 = .ok (.istore_n 1, 1) := by decide +kernel
theorem d_Mod_findColours_7 : decode b_Mod_findColours 7 = .ok (.iload_n 1, 1) := by decide +kernel
theorem d_Mod_findColours_8 : decode b_Mod_findColours 8 = .ok (.bipush 64, 2) := by decide +kernel
theorem d_Mod_findColours_10 : decode b_Mod_findColours 10 = .ok (.if_icmp .ge 54, 3) := by decide +kernel
theorem d_Mod_findColours_13 : decode b_Mod_findColours 13 = .ok (.aload_n 0, 1) := by decide +kernel
theorem d_Mod_findColours_14 : decode b_Mod_findColours 14 = .ok (.aload_n 0, 1) := by decide +kernel
theorem d_Mod_findColours_15 : decode b_Mod_findColours 15 = .ok (.getfield 65, 3) := by decide +kernel
theorem d_Mod_findColours_18 : decode b_Mod_findColours 18 = .ok (.iload_n 1, 1) := by decide +kernel
theorem d_Mod_findColours_19 : decode b_Mod_findColours 19 = .ok (.iaload, 1) := by decide +kernel
theorem d_Mod_findColours_20 : decode b_Mod_findColours 20 = .ok (.invokevirtual 116, 3) := by decide +kernel
theorem d_Mod_findColours_23 : decode b_Mod_findColours 23 = .ok (.aload_n 0, 1) := by decide +kernel
theorem d_Mod_findColours_24 : decode b_Mod_findColours 24 = .ok (.getfield 113, 3) := by decide +kernel
theorem d_Mod_findColours_27 : decode b_Mod_findColours 27 = .ok (.if_icmp .ge 6, 3) := by decide +kernel
theorem d_Mod_findColours_30 : decode b_Mod_findColours 30 = .ok (.goto 28, 3) := by decide +kernel
theorem d_Mod_findColours_33 : decode b_Mod_findColours 33 = .ok (.aload_n 0, 1) := by decide +kernel
theorem d_Mod_findColours_34 : decode b_Mod_findColours 34 = .ok (.getfield 71, 3) := by decide +kernel
theorem d_Mod_findColours_37 : decode b_Mod_findColours 37 = .ok (.aload_n 0, 1) := by decide +kernel
theorem d_Mod_findColours_38 : decode b_Mod_findColours 38 = .ok (.getfield 113, 3) := by decide +kernel
theorem d_Mod_findColours_41 : decode b_Mod_findColours 41 = .ok (.aload_n 0, 1) := by decide +kernel
theorem d_Mod_findColours_42 : decode b_Mod_findColours 42 = .ok (.getfield 65, 3) := by decide +kernel
theorem d_Mod_findColours_45 : decode b_Mod_findColours 45 = .ok (.iload_n 1, 1) := by decide +kernel
theorem d_Mod_findColours_46 : decode b_Mod_findColours 46 = .ok (.iaload, 1) := by decide +kernel
theorem d_Mod_findColours_47 : decode b_Mod_findColours 47 = .ok (.iastore, 1) := by decide +kernel
theorem d_Mod_findColours_48 : decode b_Mod_findColours 48 = .ok (.aload_n 0, 1) := by decide +kernel
theorem d_Mod_findColours_49 : decode b_Mod_findColours 49 = .ok (.dup, 1) := by decide +kernel
theorem d_Mod_findColours_50 : decode b_Mod_findColours 50 = .ok (.getfield 113, 3) := by decide +kernel
theorem d_Mod_findColours_53 : decode b_Mod_findColours 53 = .ok (.iconst 1, 1) := by decide +kernel
theorem d_Mod_findColours_54 : decode b_Mod_findColours 54 = .ok (.iadd, 1) := by decide +kernel
theorem d_Mod_findColours_55 : decode b_Mod_findColours 55 = .ok (.putfield 113, 3) := by decide +kernel
theorem d_Mod_findColours_58 : decode b_Mod_findColours 58 = .ok (.iinc 1 1, 3) := by decide +kernel
theorem d_Mod_findColours_61 : decode b_Mod_findColours 61 = .ok (.goto (-54), 3) := by decide +kernel
theorem d_Mod_findColours_64 : decode b_Mod_findColours 64 = .ok (.return_, 1) := by decide +kernel
theorem d_Mod_numberOf_0 : decode b_Mod_numberOf 0 = .ok (.iconst 0, 1) := by decide +kernel
theorem d_Mod_numberOf_1 : decode b_Mod_numberOf 1 = .ok (.istore_n 2, 1) := by decide +kernel
theorem d_Mod_numberOf_2 : decode b_Mod_numberOf 2 = .ok (.iload_n 2, 1) := by decide +kernel
theorem d_Mod_numberOf_3 : decode b_Mod_numberOf 3 = .ok (.aload_n 0, 1) := by decide +kernel
theorem d_Mod_numberOf_4 : decode b_Mod_numberOf 4 = .ok (.getfield 113, 3) := by decide +kernel
theorem d_Mod_numberOf_7 : decode b_Mod_numberOf 7 = .ok (.if_icmp .ge 19, 3) := by decide +kernel
theorem d_Mod_numberOf_10 : decode b_Mod_numberOf 10 = .ok (.aload_n 0, 1) := by decide +kernel
theorem d_Mod_numberOf_11 : decode b_Mod_numberOf 11 = .ok (.getfield 71, 3) := by decide +kernel
theorem d_Mod_numberOf_14 : decode b_Mod_numberOf 14 = .ok (.iload_n 2, 1) := by decide +kernel
theorem d_Mod_numberOf_15 : decode b_Mod_numberOf 15 = .ok (.iaload, 1) := by decide +kernel
theorem d_Mod_numberOf_16 : decode b_Mod_numberOf 16 = .ok (.iload_n 1, 1) := by decide +kernel
theorem d_Mod_numberOf_17 : decode b_Mod_numberOf 17 = .ok (.if_icmp .eq 9, 3) := by decide +kernel
theorem d_Mod_numberOf_20 : decode b_Mod_numberOf 20 = .ok (.iinc 2 1, 3) := by decide +kernel
theorem d_Mod_numberOf_23 : decode b_Mod_numberOf 23 = .ok (.goto (-21), 3) := by decide +kernel
theorem d_Mod_numberOf_26 : decode b_Mod_numberOf 26 = .ok (.iload_n 2, 1) := by decide +kernel
theorem d_Mod_numberOf_27 : decode b_Mod_numberOf 27 = .ok (.ireturn, 1) := by decide +kernel
theorem d_Mod_likeTile_0 : decode b_Mod_likeTile 0 = .ok (.iconst 0, 1) := by decide +kernel
theorem d_Mod_likeTile_1 : decode b_Mod_likeTile 1 = .ok (.istore_n 2, 1) := by decide +kernel
theorem d_Mod_likeTile_2 : decode b_Mod_likeTile 2 = .ok (.iload_n 2, 1) := by decide +kernel
theorem d_Mod_likeTile_3 : decode b_Mod_likeTile 3 = .ok (.bipush 48, 2) := by decide +kernel
theorem d_Mod_likeTile_5 : decode b_Mod_likeTile 5 = .ok (.if_icmp .ge 21, 3) := by decide +kernel
theorem d_Mod_likeTile_8 : decode b_Mod_likeTile 8 = .ok (.aload_n 0, 1) := by decide +kernel
theorem d_Mod_likeTile_9 : decode b_Mod_likeTile 9 = .ok (.bipush 9, 2) := by decide +kernel
theorem d_Mod_likeTile_11 : decode b_Mod_likeTile 11 = .ok (.iload_n 2, 1) := by decide +kernel
theorem d_Mod_likeTile_12 : decode b_Mod_likeTile 12 = .ok (.iconst 1, 1) := by decide +kernel
theorem d_Mod_likeTile_13 : decode b_Mod_likeTile 13 = .ok (.iload_n 1, 1) := by decide +kernel
theorem d_Mod_likeTile_14 : decode b_Mod_likeTile 14 = .ok (.invokevirtual 120, 3) := by decide +kernel
theorem d_Mod_likeTile_17 : decode b_Mod_likeTile 17 = .ok (.ifCond .ne 9, 3) := by decide +kernel
theorem d_Mod_likeTile_20 : decode b_Mod_likeTile 20 = .ok (.iinc 2 1, 3) := by decide +kernel
theorem d_Mod_likeTile_23 : decode b_Mod_likeTile 23 = .ok (.goto (-21), 3) := by decide +kernel
theorem d_Mod_likeTile_26 : decode b_Mod_likeTile 26 = .ok (.iload_n 2, 1) := by decide +kernel
theorem d_Mod_likeTile_27 : decode b_Mod_likeTile 27 = .ok (.bipush 48, 2) := by decide +kernel
theorem d_Mod_likeTile_29 : decode b_Mod_likeTile 29 = .ok (.if_icmp .ge 7, 3) := by decide +kernel
theorem d_Mod_likeTile_32 : decode b_Mod_likeTile 32 = .ok (.iload_n 2, 1) := by decide +kernel
theorem d_Mod_likeTile_33 : decode b_Mod_likeTile 33 = .ok (.goto 4, 3) := by decide +kernel
theorem d_Mod_likeTile_36 : decode b_Mod_likeTile 36 = .ok (.iconst (-1), 1) := by decide +kernel
theorem d_Mod_likeTile_37 : decode b_Mod_likeTile 37 = .ok (.ireturn, 1) := by decide +kernel
theorem d_Mod_likeEntry_0 : decode b_Mod_likeEntry 0 = .ok (.iconst 0, 1) := by decide +kernel
theorem d_Mod_likeEntry_1 : decode b_Mod_likeEntry 1 = .ok (.istore_n 2, 1) := by decide +kernel
theorem d_Mod_likeEntry_2 : decode b_Mod_likeEntry 2 = .ok (.iload_n 2, 1) := by decide +kernel
theorem d_Mod_likeEntry_3 : decode b_Mod_likeEntry 3 = .ok (.bipush 16, 2) := by decide +kernel
theorem d_Mod_likeEntry_5 : decode b_Mod_likeEntry 5 = .ok (.if_icmp .ge 81, 3) := by decide +kernel
theorem d_Mod_likeEntry_8 : decode b_Mod_likeEntry 8 = .ok (.aload_n 0, 1) := by decide +kernel
theorem d_Mod_likeEntry_9 : decode b_Mod_likeEntry 9 = .ok (.getfield 19, 3) := by decide +kernel
theorem d_Mod_likeEntry_12 : decode b_Mod_likeEntry 12 = .ok (.bipush 16, 2) := by decide +kernel
theorem d_Mod_likeEntry_14 : decode b_Mod_likeEntry 14 = .ok (.iload_n 1, 1) := by decide +kernel
theorem d_Mod_likeEntry_15 : decode b_Mod_likeEntry 15 = .ok (.imul, 1) := by decide +kernel
theorem d_Mod_likeEntry_16 : decode b_Mod_likeEntry 16 = .ok (.iload_n 2, 1) := by decide +kernel
theorem d_Mod_likeEntry_17 : decode b_Mod_likeEntry 17 = .ok (.iadd, 1) := by decide +kernel
theorem d_Mod_likeEntry_18 : decode b_Mod_likeEntry 18 = .ok (.baload, 1) := by decide +kernel
theorem d_Mod_likeEntry_19 : decode b_Mod_likeEntry 19 = .ok (.istore_n 3, 1) := by decide +kernel
theorem d_Mod_likeEntry_20 : decode b_Mod_likeEntry 20 = .ok (.iconst 0, 1) := by decide +kernel
theorem d_Mod_likeEntry_21 : decode b_Mod_likeEntry 21 = .ok (.istore 4, 2) := by decide +kernel
theorem d_Mod_likeEntry_23 : decode b_Mod_likeEntry 23 = .ok (.iload 4, 2) := by decide +kernel
theorem d_Mod_likeEntry_25 : decode b_Mod_likeEntry 25 = .ok (.bipush 64, 2) := by decide +kernel
theorem d_Mod_likeEntry_27 : decode b_Mod_likeEntry 27 = .ok (.if_icmp .ge 47, 3) := by decide +kernel
theorem d_Mod_likeEntry_30 : decode b_Mod_likeEntry 30 = .ok (.iload_n 3, 1) := by decide +kernel
theorem d_Mod_likeEntry_31 : decode b_Mod_likeEntry 31 = .ok (.ifCond .eq 43, 3) := by decide +kernel
theorem d_Mod_likeEntry_34 : decode b_Mod_likeEntry 34 = .ok (.aload_n 0, 1) := by decide +kernel
theorem d_Mod_likeEntry_35 : decode b_Mod_likeEntry 35 = .ok (.getfield 13, 3) := by decide +kernel
theorem d_Mod_likeEntry_38 : decode b_Mod_likeEntry 38 = .ok (.sipush 1024, 3) := by decide +kernel
theorem d_Mod_likeEntry_41 : decode b_Mod_likeEntry 41 = .ok (.iload_n 1, 1) := by decide +kernel
theorem d_Mod_likeEntry_42 : decode b_Mod_likeEntry 42 = .ok (.imul, 1) := by decide +kernel
theorem d_Mod_likeEntry_43 : decode b_Mod_likeEntry 43 = .ok (.bipush 64, 2) := by decide +kernel
theorem d_Mod_likeEntry_45 : decode b_Mod_likeEntry 45 = .ok (.iload_n 2, 1) := by decide +kernel
theorem d_Mod_likeEntry_46 : decode b_Mod_likeEntry 46 = .ok (.imul, 1) := by decide +kernel
theorem d_Mod_likeEntry_47 : decode b_Mod_likeEntry 47 = .ok (.iadd, 1) := by decide +kernel
theorem d_Mod_likeEntry_48 : decode b_Mod_likeEntry 48 = .ok (.iload 4, 2) := by decide +kernel
theorem d_Mod_likeEntry_50 : decode b_Mod_likeEntry 50 = .ok (.iadd, 1) := by decide +kernel
theorem d_Mod_likeEntry_51 : decode b_Mod_likeEntry 51 = .ok (.iaload, 1) := by decide +kernel
theorem d_Mod_likeEntry_52 : decode b_Mod_likeEntry 52 = .ok (.aload_n 0, 1) := by decide +kernel
theorem d_Mod_likeEntry_53 : decode b_Mod_likeEntry 53 = .ok (.getfield 65, 3) := by decide +kernel
theorem d_Mod_likeEntry_56 : decode b_Mod_likeEntry 56 = .ok (.iload 4, 2) := by decide +kernel
theorem d_Mod_likeEntry_58 : decode b_Mod_likeEntry 58 = .ok (.iaload, 1) := by decide +kernel
theorem d_Mod_likeEntry_59 : decode b_Mod_likeEntry 59 = .ok (.if_icmp .ne 7, 3) := by decide +kernel
theorem d_Mod_likeEntry_62 : decode b_Mod_likeEntry 62 = .ok (.iconst 1, 1) := by decide +kernel
theorem d_Mod_likeEntry_63 : decode b_Mod_likeEntry 63 = .ok (.goto 4, 3) := by decide +kernel
theorem d_Mod_likeEntry_66 : decode b_Mod_likeEntry 66 = .ok (.iconst 0, 1) := by decide +kernel
theorem d_Mod_likeEntry_67 : decode b_Mod_likeEntry 67 = .ok (.istore_n 3, 1) := by decide +kernel
theorem d_Mod_likeEntry_68 : decode b_Mod_likeEntry 68 = .ok (.iinc 4 1, 3) := by decide +kernel
theorem d_Mod_likeEntry_71 : decode b_Mod_likeEntry 71 = .ok (.goto (-48), 3) := by decide +kernel
theorem d_Mod_likeEntry_74 : decode b_Mod_likeEntry 74 = .ok (.iload_n 3, 1) := by decide +kernel
theorem d_Mod_likeEntry_75 : decode b_Mod_likeEntry 75 = .ok (.ifCond .eq 5, 3) := by decide +kernel
theorem d_Mod_likeEntry_78 : decode b_Mod_likeEntry 78 = .ok (.iload_n 2, 1) := by decide +kernel
theorem d_Mod_likeEntry_79 : decode b_Mod_likeEntry 79 = .ok (.ireturn, 1) := by decide +kernel
theorem d_Mod_likeEntry_80 : decode b_Mod_likeEntry 80 = .ok (.iinc 2 1, 3) := by decide +kernel
theorem d_Mod_likeEntry_83 : decode b_Mod_likeEntry 83 = .ok (.goto (-81), 3) := by decide +kernel
theorem d_Mod_likeEntry_86 : decode b_Mod_likeEntry 86 = .ok (.iconst (-1), 1) := by decide +kernel
theorem d_Mod_likeEntry_87 : decode b_Mod_likeEntry 87 = .ok (.ireturn, 1) := by decide +kernel
theorem d_Mod_putBits_0 : decode b_Mod_putBits 0 = .ok (.iconst 0, 1) := by decide +kernel
theorem d_Mod_putBits_1 : decode b_Mod_putBits 1 = .ok (.istore_n 2, 1) := by decide +kernel
theorem d_Mod_putBits_2 : decode b_Mod_putBits 2 = .ok (.iconst 0, 1) := by decide +kernel
theorem d_Mod_putBits_3 : decode b_Mod_putBits 3 = .ok (.istore_n 3, 1) := by decide +kernel
theorem d_Mod_putBits_4 : decode b_Mod_putBits 4 = .ok (.iload_n 3, 1) := by decide +kernel
theorem d_Mod_putBits_5 : decode b_Mod_putBits 5 = .ok (.bipush 64, 2) := by decide +kernel
theorem d_Mod_putBits_7 : decode b_Mod_putBits 7 = .ok (.if_icmp .ge 45, 3) := by decide +kernel
theorem d_Mod_putBits_10 : decode b_Mod_putBits 10 = .ok (.iload_n 2, 1) := by decide +kernel
theorem d_Mod_putBits_11 : decode b_Mod_putBits 11 = .ok (.iload_n 1, 1) := by decide +kernel
theorem d_Mod_putBits_12 : decode b_Mod_putBits 12 = .ok (.ishl, 1) := by decide +kernel
theorem d_Mod_putBits_13 : decode b_Mod_putBits 13 = .ok (.aload_n 0, 1) := by decide +kernel
theorem d_Mod_putBits_14 : decode b_Mod_putBits 14 = .ok (.aload_n 0, 1) := by decide +kernel
theorem d_Mod_putBits_15 : decode b_Mod_putBits 15 = .ok (.getfield 65, 3) := by decide +kernel
theorem d_Mod_putBits_18 : decode b_Mod_putBits 18 = .ok (.iload_n 3, 1) := by decide +kernel
theorem d_Mod_putBits_19 : decode b_Mod_putBits 19 = .ok (.iaload, 1) := by decide +kernel
theorem d_Mod_putBits_20 : decode b_Mod_putBits 20 = .ok (.invokevirtual 116, 3) := by decide +kernel
theorem d_Mod_putBits_23 : decode b_Mod_putBits 23 = .ok (.iadd, 1) := by decide +kernel
theorem d_Mod_putBits_24 : decode b_Mod_putBits 24 = .ok (.istore_n 2, 1) := by decide +kernel
theorem d_Mod_putBits_25 : decode b_Mod_putBits 25 = .ok (.iload_n 3, 1) := by decide +kernel
theorem d_Mod_putBits_26 : decode b_Mod_putBits 26 = .ok (.iconst 1, 1) := by decide +kernel
theorem d_Mod_putBits_27 : decode b_Mod_putBits 27 = .ok (.iadd, 1) := by decide +kernel
theorem d_Mod_putBits_28 : decode b_Mod_putBits 28 = .ok (.iload_n 1, 1) := by decide +kernel
theorem d_Mod_putBits_29 : decode b_Mod_putBits 29 = .ok (.imul, 1) := by decide +kernel
theorem d_Mod_putBits_30 : decode b_Mod_putBits 30 = .ok (.bipush 8, 2) := by decide +kernel
theorem d_Mod_putBits_32 : decode b_Mod_putBits 32 = .ok (.irem, 1) := by decide +kernel
theorem d_Mod_putBits_33 : decode b_Mod_putBits 33 = .ok (.ifCond .le 6, 3) := by decide +kernel
theorem d_Mod_putBits_36 : decode b_Mod_putBits 36 = .ok (.goto 10, 3) := by decide +kernel
theorem d_Mod_putBits_39 : decode b_Mod_putBits 39 = .ok (.aload_n 0, 1) := by decide +kernel
theorem d_Mod_putBits_40 : decode b_Mod_putBits 40 = .ok (.iload_n 2, 1) := by decide +kernel
theorem d_Mod_putBits_41 : decode b_Mod_putBits 41 = .ok (.invokevirtual 110, 3) := by decide +kernel
theorem d_Mod_putBits_44 : decode b_Mod_putBits 44 = .ok (.iconst 0, 1) := by decide +kernel
theorem d_Mod_putBits_45 : decode b_Mod_putBits 45 = .ok (.istore_n 2, 1) := by decide +kernel
theorem d_Mod_putBits_46 : decode b_Mod_putBits 46 = .ok (.iinc 3 1, 3) := by decide +kernel
theorem d_Mod_putBits_49 : decode b_Mod_putBits 49 = .ok (.goto (-45), 3) := by decide +kernel
theorem d_Mod_putBits_52 : decode b_Mod_putBits 52 = .ok (.return_, 1) := by decide +kernel
theorem d_Mod_putRuns_0 : decode b_Mod_putRuns 0 = .ok (.aload_n 0, 1) := by decide +kernel
theorem d_Mod_putRuns_1 : decode b_Mod_putRuns 1 = .ok (.getfield 107, 3) := by decide +kernel
theorem d_Mod_putRuns_4 : decode b_Mod_putRuns 4 = .ok (.istore_n 1, 1) := by decide +kernel
theorem d_Mod_putRuns_5 : decode b_Mod_putRuns 5 = .ok (.iconst 0, 1) := by decide +kernel
theorem d_Mod_putRuns_6 : decode b_Mod_putRuns 6 = .ok (.istore_n 2, 1) := by decide +kernel
theorem d_Mod_putRuns_7 : decode b_Mod_putRuns 7 = .ok (.aload_n 0, 1) := by decide +kernel
theorem d_Mod_putRuns_8 : decode b_Mod_putRuns 8 = .ok (.iconst 0, 1) := by decide +kernel
theorem d_Mod_putRuns_9 : decode b_Mod_putRuns 9 = .ok (.invokevirtual 110, 3) := by decide +kernel
theorem d_Mod_putRuns_12 : decode b_Mod_putRuns 12 = .ok (.iconst 0, 1) := by decide +kernel
theorem d_Mod_putRuns_13 : decode b_Mod_putRuns 13 = .ok (.istore_n 3, 1) := by decide +kernel
theorem d_Mod_putRuns_14 : decode b_Mod_putRuns 14 = .ok (.iconst 1, 1) := by decide +kernel
theorem d_Mod_putRuns_15 : decode b_Mod_putRuns 15 = .ok (.istore 4, 2) := by decide +kernel
theorem d_Mod_putRuns_17 : decode b_Mod_putRuns 17 = .ok (.iload 4, 2) := by decide +kernel
theorem d_Mod_putRuns_19 : decode b_Mod_putRuns 19 = .ok (.bipush 64, 2) := by decide +kernel
theorem d_Mod_putRuns_21 : decode b_Mod_putRuns 21 = .ok (.if_icmp .gt 59, 3) := by decide +kernel
theorem d_Mod_putRuns_24 : decode b_Mod_putRuns 24 = .ok (.iload 4, 2) := by decide +kernel
theorem d_Mod_putRuns_26 : decode b_Mod_putRuns 26 = .ok (.bipush 64, 2) := by decide +kernel
theorem d_Mod_putRuns_28 : decode b_Mod_putRuns 28 = .ok (.if_icmp .ge 22, 3) := by decide +kernel
theorem d_Mod_putRuns_31 : decode b_Mod_putRuns 31 = .ok (.aload_n 0, 1) := by decide +kernel
theorem d_Mod_putRuns_32 : decode b_Mod_putRuns 32 = .ok (.getfield 65, 3) := by decide +kernel
theorem d_Mod_putRuns_35 : decode b_Mod_putRuns 35 = .ok (.iload 4, 2) := by decide +kernel
theorem d_Mod_putRuns_37 : decode b_Mod_putRuns 37 = .ok (.iaload, 1) := by decide +kernel
theorem d_Mod_putRuns_38 : decode b_Mod_putRuns 38 = .ok (.aload_n 0, 1) := by decide +kernel
theorem d_Mod_putRuns_39 : decode b_Mod_putRuns 39 = .ok (.getfield 65, 3) := by decide +kernel
theorem d_Mod_putRuns_42 : decode b_Mod_putRuns 42 = .ok (.iload_n 3, 1) := by decide +kernel
theorem d_Mod_putRuns_43 : decode b_Mod_putRuns 43 = .ok (.iaload, 1) := by decide +kernel
theorem d_Mod_putRuns_44 : decode b_Mod_putRuns 44 = .ok (.if_icmp .ne 6, 3) := by decide +kernel
theorem d_Mod_putRuns_47 : decode b_Mod_putRuns 47 = .ok (.goto 27, 3) := by decide +kernel
theorem d_Mod_putRuns_50 : decode b_Mod_putRuns 50 = .ok (.aload_n 0, 1) := by decide +kernel
theorem d_Mod_putRuns_51 : decode b_Mod_putRuns 51 = .ok (.iload 4, 2) := by decide +kernel
theorem d_Mod_putRuns_53 : decode b_Mod_putRuns 53 = .ok (.iload_n 3, 1) := by decide +kernel
theorem d_Mod_putRuns_54 : decode b_Mod_putRuns 54 = .ok (.isub, 1) := by decide +kernel
theorem d_Mod_putRuns_55 : decode b_Mod_putRuns 55 = .ok (.invokevirtual 110, 3) := by decide +kernel
theorem d_Mod_putRuns_58 : decode b_Mod_putRuns 58 = .ok (.aload_n 0, 1) := by decide +kernel
theorem d_Mod_putRuns_59 : decode b_Mod_putRuns 59 = .ok (.aload_n 0, 1) := by decide +kernel
theorem d_Mod_putRuns_60 : decode b_Mod_putRuns 60 = .ok (.getfield 65, 3) := by decide +kernel
theorem d_Mod_putRuns_63 : decode b_Mod_putRuns 63 = .ok (.iload_n 3, 1) := by decide +kernel
theorem d_Mod_putRuns_64 : decode b_Mod_putRuns 64 = .ok (.iaload, 1) := by decide +kernel
theorem d_Mod_putRuns_65 : decode b_Mod_putRuns 65 = .ok (.invokevirtual 123, 3) := by decide +kernel
theorem d_Mod_putRuns_68 : decode b_Mod_putRuns 68 = .ok (.iload 4, 2) := by decide +kernel
theorem d_Mod_putRuns_70 : decode b_Mod_putRuns 70 = .ok (.istore_n 3, 1) := by decide +kernel
theorem d_Mod_putRuns_71 : decode b_Mod_putRuns 71 = .ok (.iinc 2 1, 3) := by decide +kernel
theorem d_Mod_putRuns_74 : decode b_Mod_putRuns 74 = .ok (.iinc 4 1, 3) := by decide +kernel
theorem d_Mod_putRuns_77 : decode b_Mod_putRuns 77 = .ok (.goto (-60), 3) := by decide +kernel
theorem d_Mod_putRuns_80 : decode b_Mod_putRuns 80 = .ok (.aload_n 0, 1) := by decide +kernel
theorem d_Mod_putRuns_81 : decode b_Mod_putRuns 81 = .ok (.getfield 68, 3) := by decide +kernel
theorem d_Mod_putRuns_84 : decode b_Mod_putRuns 84 = .ok (.iload_n 1, 1) := by decide +kernel
theorem d_Mod_putRuns_85 : decode b_Mod_putRuns 85 = .ok (.iload_n 2, 1) := by decide +kernel
theorem d_Mod_putRuns_86 : decode b_Mod_putRuns 86 = .ok (.iastore, 1) := by decide +kernel
theorem d_Mod_putRuns_87 : decode b_Mod_putRuns 87 = .ok (.return_, 1) := by decide +kernel
theorem d_Mod_write_0 : decode b_Mod_write 0 = .ok (.aload_n 0, 1) := by decide +kernel
theorem d_Mod_write_1 : decode b_Mod_write 1 = .ok (.iconst 0, 1) := by decide +kernel
theorem d_Mod_write_2 : decode b_Mod_write 2 = .ok (.putfield 107, 3) := by decide +kernel
theorem d_Mod_write_5 : decode b_Mod_write 5 = .ok (.aload_n 0, 1) := by decide +kernel
theorem d_Mod_write_6 : decode b_Mod_write 6 = .ok (.iload_n 1, 1) := by decide +kernel
theorem d_Mod_write_7 : decode b_Mod_write 7 = .ok (.invokevirtual 110, 3) := by decide +kernel
theorem d_Mod_write_10 : decode b_Mod_write 10 = .ok (.aload_n 0, 1) := by decide +kernel
theorem d_Mod_write_11 : decode b_Mod_write 11 = .ok (.iload_n 3, 1) := by decide +kernel
theorem d_Mod_write_12 : decode b_Mod_write 12 = .ok (.invokevirtual 110, 3) := by decide +kernel
theorem d_Mod_write_15 : decode b_Mod_write 15 = .ok (.iload_n 1, 1) := by decide +kernel
theorem d_Mod_write_16 : decode b_Mod_write 16 = .ok (.iconst 1, 1) := by decide +kernel
theorem d_Mod_write_17 : decode b_Mod_write 17 = .ok (.if_icmp .ne 11, 3) := by decide +kernel
theorem d_Mod_write_20 : decode b_Mod_write 20 = .ok (.aload_n 0, 1) := by decide +kernel
theorem d_Mod_write_21 : decode b_Mod_write 21 = .ok (.iload_n 3, 1) := by decide +kernel
theorem d_Mod_write_22 : decode b_Mod_write 22 = .ok (.invokevirtual 126, 3) := by decide +kernel
theorem d_Mod_write_25 : decode b_Mod_write 25 = .ok (.goto 17, 3) := by decide +kernel
theorem d_Mod_write_28 : decode b_Mod_write 28 = .ok (.iload_n 1, 1) := by decide +kernel
theorem d_Mod_write_29 : decode b_Mod_write 29 = .ok (.iconst 2, 1) := by decide +kernel
theorem d_Mod_write_30 : decode b_Mod_write 30 = .ok (.if_icmp .ne 11, 3) := by decide +kernel
theorem d_Mod_write_33 : decode b_Mod_write 33 = .ok (.aload_n 0, 1) := by decide +kernel
theorem d_Mod_write_34 : decode b_Mod_write 34 = .ok (.iload_n 2, 1) := by decide +kernel
theorem d_Mod_write_35 : decode b_Mod_write 35 = .ok (.invokevirtual 129, 3) := by decide +kernel
theorem d_Mod_write_38 : decode b_Mod_write 38 = .ok (.goto 4, 3) := by decide +kernel
theorem d_Mod_write_41 : decode b_Mod_write 41 = .ok (.iconst 0, 1) := by decide +kernel
theorem d_Mod_write_42 : decode b_Mod_write 42 = .ok (.istore 4, 2) := by decide +kernel
theorem d_Mod_write_44 : decode b_Mod_write 44 = .ok (.iload_n 1, 1) := by decide +kernel
theorem d_Mod_write_45 : decode b_Mod_write 45 = .ok (.ifCond .ne 19, 3) := by decide +kernel
theorem d_Mod_write_48 : decode b_Mod_write 48 = .ok (.aload_n 0, 1) := by decide +kernel
theorem d_Mod_write_49 : decode b_Mod_write 49 = .ok (.getfield 113, 3) := by decide +kernel
theorem d_Mod_write_52 : decode b_Mod_write 52 = .ok (.iconst 1, 1) := by decide +kernel
theorem d_Mod_write_53 : decode b_Mod_write 53 = .ok (.if_icmp .ne 7, 3) := by decide +kernel
theorem d_Mod_write_56 : decode b_Mod_write 56 = .ok (.iconst 1, 1) := by decide +kernel
theorem d_Mod_write_57 : decode b_Mod_write 57 = .ok (.goto 73, 3) := by decide +kernel
theorem d_Mod_write_60 : decode b_Mod_write 60 = .ok (.iconst 0, 1) := by decide +kernel
theorem d_Mod_write_61 : decode b_Mod_write 61 = .ok (.goto 69, 3) := by decide +kernel
theorem d_Mod_write_64 : decode b_Mod_write 64 = .ok (.iload_n 1, 1) := by decide +kernel
theorem d_Mod_write_65 : decode b_Mod_write 65 = .ok (.iconst 3, 1) := by decide +kernel
theorem d_Mod_write_66 : decode b_Mod_write 66 = .ok (.if_icmp .ge 17, 3) := by decide +kernel
theorem d_Mod_write_69 : decode b_Mod_write 69 = .ok (.iload 4, 2) := by decide +kernel
theorem d_Mod_write_71 : decode b_Mod_write 71 = .ok (.iconst (-1), 1) := by decide +kernel
theorem d_Mod_write_72 : decode b_Mod_write 72 = .ok (.if_icmp .eq 7, 3) := by decide +kernel
theorem d_Mod_write_75 : decode b_Mod_write 75 = .ok (.iconst 1, 1) := by decide +kernel
theorem d_Mod_write_76 : decode b_Mod_write 76 = .ok (.goto 54, 3) := by decide +kernel
theorem d_Mod_write_79 : decode b_Mod_write 79 = .ok (.iconst 0, 1) := by decide +kernel
theorem d_Mod_write_80 : decode b_Mod_write 80 = .ok (.goto 50, 3) := by decide +kernel
theorem d_Mod_write_83 : decode b_Mod_write 83 = .ok (.iload_n 1, 1) := by decide +kernel
theorem d_Mod_write_84 : decode b_Mod_write 84 = .ok (.iconst 3, 1) := by decide +kernel
theorem d_Mod_write_85 : decode b_Mod_write 85 = .ok (.if_icmp .ne 19, 3) := by decide +kernel
theorem d_Mod_write_88 : decode b_Mod_write 88 = .ok (.aload_n 0, 1) := by decide +kernel
theorem d_Mod_write_89 : decode b_Mod_write 89 = .ok (.getfield 113, 3) := by decide +kernel
theorem d_Mod_write_92 : decode b_Mod_write 92 = .ok (.iconst 2, 1) := by decide +kernel
theorem d_Mod_write_93 : decode b_Mod_write 93 = .ok (.if_icmp .ne 7, 3) := by decide +kernel
theorem d_Mod_write_96 : decode b_Mod_write 96 = .ok (.iconst 1, 1) := by decide +kernel
theorem d_Mod_write_97 : decode b_Mod_write 97 = .ok (.goto 33, 3) := by decide +kernel
theorem d_Mod_write_100 : decode b_Mod_write 100 = .ok (.iconst 0, 1) := by decide +kernel
theorem d_Mod_write_101 : decode b_Mod_write 101 = .ok (.goto 29, 3) := by decide +kernel
theorem d_Mod_write_104 : decode b_Mod_write 104 = .ok (.iload_n 1, 1) := by decide +kernel
theorem d_Mod_write_105 : decode b_Mod_write 105 = .ok (.iconst 4, 1) := by decide +kernel
theorem d_Mod_write_106 : decode b_Mod_write 106 = .ok (.if_icmp .ne 19, 3) := by decide +kernel
theorem d_Mod_write_109 : decode b_Mod_write 109 = .ok (.aload_n 0, 1) := by decide +kernel
theorem d_Mod_write_110 : decode b_Mod_write 110 = .ok (.getfield 113, 3) := by decide +kernel
theorem d_Mod_write_113 : decode b_Mod_write 113 = .ok (.iconst 3, 1) := by decide +kernel
theorem d_Mod_write_114 : decode b_Mod_write 114 = .ok (.if_icmp .eq 11, 3) := by decide +kernel
theorem d_Mod_write_117 : decode b_Mod_write 117 = .ok (.aload_n 0, 1) := by decide +kernel
theorem d_Mod_write_118 : decode b_Mod_write 118 = .ok (.getfield 113, 3) := by decide +kernel
theorem d_Mod_write_121 : decode b_Mod_write 121 = .ok (.iconst 4, 1) := by decide +kernel
theorem d_Mod_write_122 : decode b_Mod_write 122 = .ok (.if_icmp .ne 7, 3) := by decide +kernel
theorem d_Mod_write_125 : decode b_Mod_write 125 = .ok (.iconst 1, 1) := by decide +kernel
theorem d_Mod_write_126 : decode b_Mod_write 126 = .ok (.goto 4, 3) := by decide +kernel
theorem d_Mod_write_129 : decode b_Mod_write 129 = .ok (.iconst 0, 1) := by decide +kernel
theorem d_Mod_write_130 : decode b_Mod_write 130 = .ok (.istore 5, 2) := by decide +kernel
theorem d_Mod_write_132 : decode b_Mod_write 132 = .ok (.iload 5, 2) := by decide +kernel
theorem d_Mod_write_134 : decode b_Mod_write 134 = .ok (.ifCond .ne 5, 3) := by decide +kernel
theorem d_Mod_write_137 : decode b_Mod_write 137 = .ok (.iconst 0, 1) := by decide +kernel
theorem d_Mod_write_138 : decode b_Mod_write 138 = .ok (.ireturn, 1) := by decide +kernel
theorem d_Mod_write_139 : decode b_Mod_write 139 = .ok (.iload_n 1, 1) := by decide +kernel
theorem d_Mod_write_140 : decode b_Mod_write 140 = .ok (.ifCond .ne 13, 3) := by decide +kernel
theorem d_Mod_write_143 : decode b_Mod_write 143 = .ok (.aload_n 0, 1) := by decide +kernel
theorem d_Mod_write_144 : decode b_Mod_write 144 = .ok (.aload_n 0, 1) := by decide +kernel
theorem d_Mod_write_145 : decode b_Mod_write 145 = .ok (.getfield 65, 3) := by decide +kernel
theorem d_Mod_write_148 : decode b_Mod_write 148 = .ok (.iconst 0, 1) := by decide +kernel
theorem d_Mod_write_149 : decode b_Mod_write 149 = .ok (.iaload, 1) := by decide +kernel
theorem d_Mod_write_150 : decode b_Mod_write 150 = .ok (.invokevirtual 123, 3) := by decide +kernel
theorem d_Mod_write_153 : decode b_Mod_write 153 = .ok (.iload_n 1, 1) := by decide +kernel
theorem d_Mod_write_154 : decode b_Mod_write 154 = .ok (.iconst 1, 1) := by decide +kernel
theorem d_Mod_write_155 : decode b_Mod_write 155 = .ok (.if_icmp .eq 8, 3) := by decide +kernel
theorem d_Mod_write_158 : decode b_Mod_write 158 = .ok (.iload_n 1, 1) := by decide +kernel
theorem d_Mod_write_159 : decode b_Mod_write 159 = .ok (.iconst 2, 1) := by decide +kernel
theorem d_Mod_write_160 : decode b_Mod_write 160 = .ok (.if_icmp .ne 9, 3) := by decide +kernel
theorem d_Mod_write_163 : decode b_Mod_write 163 = .ok (.aload_n 0, 1) := by decide +kernel
theorem d_Mod_write_164 : decode b_Mod_write 164 = .ok (.iload 4, 2) := by decide +kernel
theorem d_Mod_write_166 : decode b_Mod_write 166 = .ok (.invokevirtual 110, 3) := by decide +kernel
theorem d_Mod_write_169 : decode b_Mod_write 169 = .ok (.iload_n 1, 1) := by decide +kernel
theorem d_Mod_write_170 : decode b_Mod_write 170 = .ok (.iconst 4, 1) := by decide +kernel
theorem d_Mod_write_171 : decode b_Mod_write 171 = .ok (.if_icmp .ne 11, 3) := by decide +kernel
theorem d_Mod_write_174 : decode b_Mod_write 174 = .ok (.aload_n 0, 1) := by decide +kernel
theorem d_Mod_write_175 : decode b_Mod_write 175 = .ok (.aload_n 0, 1) := by decide +kernel
theorem d_Mod_write_176 : decode b_Mod_write 176 = .ok (.getfield 113, 3) := by decide +kernel
theorem d_Mod_write_179 : decode b_Mod_write 179 = .ok (.invokevirtual 110, 3) := by decide +kernel
theorem d_Mod_write_182 : decode b_Mod_write 182 = .ok (.iload_n 1, 1) := by decide +kernel
theorem d_Mod_write_183 : decode b_Mod_write 183 = .ok (.iconst 3, 1) := by decide +kernel
theorem d_Mod_write_184 : decode b_Mod_write 184 = .ok (.if_icmp .eq 8, 3) := by decide +kernel
theorem d_Mod_write_187 : decode b_Mod_write 187 = .ok (.iload_n 1, 1) := by decide +kernel
theorem d_Mod_write_188 : decode b_Mod_write 188 = .ok (.iconst 4, 1) := by decide +kernel
theorem d_Mod_write_189 : decode b_Mod_write 189 = .ok (.if_icmp .ne 46, 3) := by decide +kernel
theorem d_Mod_write_192 : decode b_Mod_write 192 = .ok (.iconst 0, 1) := by decide +kernel
theorem d_Mod_write_193 : decode b_Mod_write 193 = .ok (.istore 6, 2) := by decide +kernel
theorem d_Mod_write_195 : decode b_Mod_write 195 = .ok (.iload 6, 2) := by decide +kernel
theorem d_Mod_write_197 : decode b_Mod_write 197 = .ok (.aload_n 0, 1) := by decide +kernel
theorem d_Mod_write_198 : decode b_Mod_write 198 = .ok (.getfield 113, 3) := by decide +kernel
theorem d_Mod_write_201 : decode b_Mod_write 201 = .ok (.if_icmp .ge 20, 3) := by decide +kernel
theorem d_Mod_write_204 : decode b_Mod_write 204 = .ok (.aload_n 0, 1) := by decide +kernel
theorem d_Mod_write_205 : decode b_Mod_write 205 = .ok (.aload_n 0, 1) := by decide +kernel
theorem d_Mod_write_206 : decode b_Mod_write 206 = .ok (.getfield 71, 3) := by decide +kernel
theorem d_Mod_write_209 : decode b_Mod_write 209 = .ok (.iload 6, 2) := by decide +kernel
theorem d_Mod_write_211 : decode b_Mod_write 211 = .ok (.iaload, 1) := by decide +kernel
theorem d_Mod_write_212 : decode b_Mod_write 212 = .ok (.invokevirtual 123, 3) := by decide +kernel
theorem d_Mod_write_215 : decode b_Mod_write 215 = .ok (.iinc 6 1, 3) := by decide +kernel
theorem d_Mod_write_218 : decode b_Mod_write 218 = .ok (.goto (-23), 3) := by decide +kernel
theorem d_Mod_write_221 : decode b_Mod_write 221 = .ok (.aload_n 0, 1) := by decide +kernel
theorem d_Mod_write_222 : decode b_Mod_write 222 = .ok (.iload_n 1, 1) := by decide +kernel
theorem d_Mod_write_223 : decode b_Mod_write 223 = .ok (.iconst 3, 1) := by decide +kernel
theorem d_Mod_write_224 : decode b_Mod_write 224 = .ok (.if_icmp .ne 7, 3) := by decide +kernel
theorem d_Mod_write_227 : decode b_Mod_write 227 = .ok (.iconst 1, 1) := by decide +kernel
theorem d_Mod_write_228 : decode b_Mod_write 228 = .ok (.goto 4, 3) := by decide +kernel
theorem d_Mod_write_231 : decode b_Mod_write 231 = .ok (.iconst 2, 1) := by decide +kernel
theorem d_Mod_write_232 : decode b_Mod_write 232 = .ok (.invokevirtual 132, 3) := by decide +kernel
theorem d_Mod_write_235 : decode b_Mod_write 235 = .ok (.iload_n 1, 1) := by decide +kernel
theorem d_Mod_write_236 : decode b_Mod_write 236 = .ok (.iconst 5, 1) := by decide +kernel
theorem d_Mod_write_237 : decode b_Mod_write 237 = .ok (.if_icmp .ne 7, 3) := by decide +kernel
theorem d_Mod_write_240 : decode b_Mod_write 240 = .ok (.aload_n 0, 1) := by decide +kernel
theorem d_Mod_write_241 : decode b_Mod_write 241 = .ok (.invokevirtual 135, 3) := by decide +kernel
theorem d_Mod_write_244 : decode b_Mod_write 244 = .ok (.iload_n 1, 1) := by decide +kernel
theorem d_Mod_write_245 : decode b_Mod_write 245 = .ok (.bipush 6, 2) := by decide +kernel
theorem d_Mod_write_247 : decode b_Mod_write 247 = .ok (.if_icmp .ne 30, 3) := by decide +kernel
theorem d_Mod_write_250 : decode b_Mod_write 250 = .ok (.iconst 0, 1) := by decide +kernel
theorem d_Mod_write_251 : decode b_Mod_write 251 = .ok (.istore 6, 2) := by decide +kernel
theorem d_Mod_write_253 : decode b_Mod_write 253 = .ok (.iload 6, 2) := by decide +kernel
theorem d_Mod_write_255 : decode b_Mod_write 255 = .ok (.bipush 64, 2) := by decide +kernel
theorem d_Mod_write_257 : decode b_Mod_write 257 = .ok (.if_icmp .ge 20, 3) := by decide +kernel
theorem d_Mod_write_260 : decode b_Mod_write 260 = .ok (.aload_n 0, 1) := by decide +kernel
theorem d_Mod_write_261 : decode b_Mod_write 261 = .ok (.aload_n 0, 1) := by decide +kernel
theorem d_Mod_write_262 : decode b_Mod_write 262 = .ok (.getfield 65, 3) := by decide +kernel
theorem d_Mod_write_265 : decode b_Mod_write 265 = .ok (.iload 6, 2) := by decide +kernel
theorem d_Mod_write_267 : decode b_Mod_write 267 = .ok (.iaload, 1) := by decide +kernel
theorem d_Mod_write_268 : decode b_Mod_write 268 = .ok (.invokevirtual 123, 3) := by decide +kernel
theorem d_Mod_write_271 : decode b_Mod_write 271 = .ok (.iinc 6 1, 3) := by decide +kernel
theorem d_Mod_write_274 : decode b_Mod_write 274 = .ok (.goto (-21), 3) := by decide +kernel
theorem d_Mod_write_277 : decode b_Mod_write 277 = .ok (.iconst 1, 1) := by decide +kernel
theorem d_Mod_write_278 : decode b_Mod_write 278 = .ok (.ireturn, 1) := by decide +kernel
theorem d_Mod_keep_0 : decode b_Mod_keep 0 = .ok (.iconst 0, 1) := by decide +kernel
theorem d_Mod_keep_1 : decode b_Mod_keep 1 = .ok (.istore_n 2, 1) := by decide +kernel
theorem d_Mod_keep_2 : decode b_Mod_keep 2 = .ok (.iload_n 2, 1) := by decide +kernel
theorem d_Mod_keep_3 : decode b_Mod_keep 3 = .ok (.bipush 64, 2) := by decide +kernel
theorem d_Mod_keep_5 : decode b_Mod_keep 5 = .ok (.if_icmp .ge 37, 3) := by decide +kernel
theorem d_Mod_keep_8 : decode b_Mod_keep 8 = .ok (.aload_n 0, 1) := by decide +kernel
theorem d_Mod_keep_9 : decode b_Mod_keep 9 = .ok (.getfield 13, 3) := by decide +kernel
theorem d_Mod_keep_12 : decode b_Mod_keep 12 = .ok (.sipush 1024, 3) := by decide +kernel
theorem d_Mod_keep_15 : decode b_Mod_keep 15 = .ok (.iload_n 1, 1) := by decide +kernel
theorem d_Mod_keep_16 : decode b_Mod_keep 16 = .ok (.imul, 1) := by decide +kernel
theorem d_Mod_keep_17 : decode b_Mod_keep 17 = .ok (.bipush 64, 2) := by decide +kernel
theorem d_Mod_keep_19 : decode b_Mod_keep 19 = .ok (.aload_n 0, 1) := by decide +kernel
theorem d_Mod_keep_20 : decode b_Mod_keep 20 = .ok (.getfield 16, 3) := by decide +kernel
theorem d_Mod_keep_23 : decode b_Mod_keep 23 = .ok (.iload_n 1, 1) := by decide +kernel
theorem d_Mod_keep_24 : decode b_Mod_keep 24 = .ok (.iaload, 1) := by decide +kernel
theorem d_Mod_keep_25 : decode b_Mod_keep 25 = .ok (.imul, 1) := by decide +kernel
theorem d_Mod_keep_26 : decode b_Mod_keep 26 = .ok (.iadd, 1) := by decide +kernel
theorem d_Mod_keep_27 : decode b_Mod_keep 27 = .ok (.iload_n 2, 1) := by decide +kernel
theorem d_Mod_keep_28 : decode b_Mod_keep 28 = .ok (.iadd, 1) := by decide +kernel
theorem d_Mod_keep_29 : decode b_Mod_keep 29 = .ok (.aload_n 0, 1) := by decide +kernel
theorem d_Mod_keep_30 : decode b_Mod_keep 30 = .ok (.getfield 65, 3) := by decide +kernel
theorem d_Mod_keep_33 : decode b_Mod_keep 33 = .ok (.iload_n 2, 1) := by decide +kernel
theorem d_Mod_keep_34 : decode b_Mod_keep 34 = .ok (.iaload, 1) := by decide +kernel
theorem d_Mod_keep_35 : decode b_Mod_keep 35 = .ok (.iastore, 1) := by decide +kernel
theorem d_Mod_keep_36 : decode b_Mod_keep 36 = .ok (.iinc 2 1, 3) := by decide +kernel
theorem d_Mod_keep_39 : decode b_Mod_keep 39 = .ok (.goto (-37), 3) := by decide +kernel
theorem d_Mod_keep_42 : decode b_Mod_keep 42 = .ok (.aload_n 0, 1) := by decide +kernel
theorem d_Mod_keep_43 : decode b_Mod_keep 43 = .ok (.getfield 19, 3) := by decide +kernel
theorem d_Mod_keep_46 : decode b_Mod_keep 46 = .ok (.bipush 16, 2) := by decide +kernel
theorem d_Mod_keep_48 : decode b_Mod_keep 48 = .ok (.iload_n 1, 1) := by decide +kernel
theorem d_Mod_keep_49 : decode b_Mod_keep 49 = .ok (.imul, 1) := by decide +kernel
theorem d_Mod_keep_50 : decode b_Mod_keep 50 = .ok (.aload_n 0, 1) := by decide +kernel
theorem d_Mod_keep_51 : decode b_Mod_keep 51 = .ok (.getfield 16, 3) := by decide +kernel
theorem d_Mod_keep_54 : decode b_Mod_keep 54 = .ok (.iload_n 1, 1) := by decide +kernel
theorem d_Mod_keep_55 : decode b_Mod_keep 55 = .ok (.iaload, 1) := by decide +kernel
theorem d_Mod_keep_56 : decode b_Mod_keep 56 = .ok (.iadd, 1) := by decide +kernel
theorem d_Mod_keep_57 : decode b_Mod_keep 57 = .ok (.iconst 1, 1) := by decide +kernel
theorem d_Mod_keep_58 : decode b_Mod_keep 58 = .ok (.bastore, 1) := by decide +kernel
theorem d_Mod_keep_59 : decode b_Mod_keep 59 = .ok (.aload_n 0, 1) := by decide +kernel
theorem d_Mod_keep_60 : decode b_Mod_keep 60 = .ok (.getfield 16, 3) := by decide +kernel
theorem d_Mod_keep_63 : decode b_Mod_keep 63 = .ok (.iload_n 1, 1) := by decide +kernel
theorem d_Mod_keep_64 : decode b_Mod_keep 64 = .ok (.aload_n 0, 1) := by decide +kernel
theorem d_Mod_keep_65 : decode b_Mod_keep 65 = .ok (.getfield 16, 3) := by decide +kernel
theorem d_Mod_keep_68 : decode b_Mod_keep 68 = .ok (.iload_n 1, 1) := by decide +kernel
theorem d_Mod_keep_69 : decode b_Mod_keep 69 = .ok (.iaload, 1) := by decide +kernel
theorem d_Mod_keep_70 : decode b_Mod_keep 70 = .ok (.iconst 1, 1) := by decide +kernel
theorem d_Mod_keep_71 : decode b_Mod_keep 71 = .ok (.iadd, 1) := by decide +kernel
theorem d_Mod_keep_72 : decode b_Mod_keep 72 = .ok (.bipush 16, 2) := by decide +kernel
theorem d_Mod_keep_74 : decode b_Mod_keep 74 = .ok (.irem, 1) := by decide +kernel
theorem d_Mod_keep_75 : decode b_Mod_keep 75 = .ok (.iastore, 1) := by decide +kernel
theorem d_Mod_keep_76 : decode b_Mod_keep 76 = .ok (.return_, 1) := by decide +kernel
theorem d_Mod_send_0 : decode b_Mod_send 0 = .ok (.aload_n 0, 1) := by decide +kernel
theorem d_Mod_send_1 : decode b_Mod_send 1 = .ok (.getfield 41, 3) := by decide +kernel
theorem d_Mod_send_4 : decode b_Mod_send 4 = .ok (.sipush 6247, 3) := by decide +kernel
theorem d_Mod_send_7 : decode b_Mod_send 7 = .ok (.iload_n 1, 1) := by decide +kernel
theorem d_Mod_send_8 : decode b_Mod_send 8 = .ok (.imul, 1) := by decide +kernel
theorem d_Mod_send_9 : decode b_Mod_send 9 = .ok (.aload_n 0, 1) := by decide +kernel
theorem d_Mod_send_10 : decode b_Mod_send 10 = .ok (.getfield 44, 3) := by decide +kernel
theorem d_Mod_send_13 : decode b_Mod_send 13 = .ok (.iload_n 1, 1) := by decide +kernel
theorem d_Mod_send_14 : decode b_Mod_send 14 = .ok (.iaload, 1) := by decide +kernel
theorem d_Mod_send_15 : decode b_Mod_send 15 = .ok (.iadd, 1) := by decide +kernel
theorem d_Mod_send_16 : decode b_Mod_send 16 = .ok (.iload_n 2, 1) := by decide +kernel
theorem d_Mod_send_17 : decode b_Mod_send 17 = .ok (.sipush 255, 3) := by decide +kernel
theorem d_Mod_send_20 : decode b_Mod_send 20 = .ok (.iand, 1) := by decide +kernel
theorem d_Mod_send_21 : decode b_Mod_send 21 = .ok (.iastore, 1) := by decide +kernel
theorem d_Mod_send_22 : decode b_Mod_send 22 = .ok (.aload_n 0, 1) := by decide +kernel
theorem d_Mod_send_23 : decode b_Mod_send 23 = .ok (.getfield 44, 3) := by decide +kernel
theorem d_Mod_send_26 : decode b_Mod_send 26 = .ok (.iload_n 1, 1) := by decide +kernel
theorem d_Mod_send_27 : decode b_Mod_send 27 = .ok (.dup2, 1) := by decide +kernel
theorem d_Mod_send_28 : decode b_Mod_send 28 = .ok (.iaload, 1) := by decide +kernel
theorem d_Mod_send_29 : decode b_Mod_send 29 = .ok (.iconst 1, 1) := by decide +kernel
theorem d_Mod_send_30 : decode b_Mod_send 30 = .ok (.iadd, 1) := by decide +kernel
theorem d_Mod_send_31 : decode b_Mod_send 31 = .ok (.iastore, 1) := by decide +kernel
theorem d_Mod_send_32 : decode b_Mod_send 32 = .ok (.return_, 1) := by decide +kernel
theorem d_Mod_compose_0 : decode b_Mod_compose 0 = .ok (.aload_n 0, 1) := by decide +kernel
theorem d_Mod_compose_1 : decode b_Mod_compose 1 = .ok (.bipush 9, 2) := by decide +kernel
theorem d_Mod_compose_3 : decode b_Mod_compose 3 = .ok (.iconst 5, 1) := by decide +kernel
theorem d_Mod_compose_4 : decode b_Mod_compose 4 = .ok (.iload_n 1, 1) := by decide +kernel
theorem d_Mod_compose_5 : decode b_Mod_compose 5 = .ok (.iadd, 1) := by decide +kernel
theorem d_Mod_compose_6 : decode b_Mod_compose 6 = .ok (.invokevirtual 91, 3) := by decide +kernel
theorem d_Mod_compose_9 : decode b_Mod_compose 9 = .ok (.aload_n 0, 1) := by decide +kernel
theorem d_Mod_compose_10 : decode b_Mod_compose 10 = .ok (.getfield 47, 3) := by decide +kernel
theorem d_Mod_compose_13 : decode b_Mod_compose 13 = .ok (.iload_n 1, 1) := by decide +kernel
theorem d_Mod_compose_14 : decode b_Mod_compose 14 = .ok (.iconst 0, 1) := by decide +kernel
theorem d_Mod_compose_15 : decode b_Mod_compose 15 = .ok (.iastore, 1) := by decide +kernel
theorem d_Mod_compose_16 : decode b_Mod_compose 16 = .ok (.aload_n 0, 1) := by decide +kernel
theorem d_Mod_compose_17 : decode b_Mod_compose 17 = .ok (.getfield 44, 3) := by decide +kernel
theorem d_Mod_compose_20 : decode b_Mod_compose 20 = .ok (.iload_n 1, 1) := by decide +kernel
theorem d_Mod_compose_21 : decode b_Mod_compose 21 = .ok (.iconst 3, 1) := by decide +kernel
theorem d_Mod_compose_22 : decode b_Mod_compose 22 = .ok (.iastore, 1) := by decide +kernel
theorem d_Mod_compose_23 : decode b_Mod_compose 23 = .ok (.aload_n 0, 1) := by decide +kernel
theorem d_Mod_compose_24 : decode b_Mod_compose 24 = .ok (.iload_n 1, 1) := by decide +kernel
theorem d_Mod_compose_25 : decode b_Mod_compose 25 = .ok (.aload_n 0, 1) := by decide +kernel
theorem d_Mod_compose_26 : decode b_Mod_compose 26 = .ok (.getfield 96, 3) := by decide +kernel
theorem d_Mod_compose_29 : decode b_Mod_compose 29 = .ok (.bipush 8, 2) := by decide +kernel
theorem d_Mod_compose_31 : decode b_Mod_compose 31 = .ok (.ishr, 1) := by decide +kernel
theorem d_Mod_compose_32 : decode b_Mod_compose 32 = .ok (.invokevirtual 138, 3) := by decide +kernel
theorem d_Mod_compose_35 : decode b_Mod_compose 35 = .ok (.aload_n 0, 1) := by decide +kernel
theorem d_Mod_compose_36 : decode b_Mod_compose 36 = .ok (.iload_n 1, 1) := by decide +kernel
theorem d_Mod_compose_37 : decode b_Mod_compose 37 = .ok (.aload_n 0, 1) := by decide +kernel
theorem d_Mod_compose_38 : decode b_Mod_compose 38 = .ok (.getfield 96, 3) := by decide +kernel
theorem d_Mod_compose_41 : decode b_Mod_compose 41 = .ok (.invokevirtual 138, 3) := by decide +kernel
theorem d_Mod_compose_44 : decode b_Mod_compose 44 = .ok (.iconst 0, 1) := by decide +kernel
theorem d_Mod_compose_45 : decode b_Mod_compose 45 = .ok (.istore_n 2, 1) := by decide +kernel
theorem d_Mod_compose_46 : decode b_Mod_compose 46 = .ok (.iload_n 2, 1) := by decide +kernel
theorem d_Mod_compose_47 : decode b_Mod_compose 47 = .ok (.bipush 48, 2) := by decide +kernel
theorem d_Mod_compose_49 : decode b_Mod_compose 49 = .ok (.if_icmp .ge 182, 3) := by decide +kernel
theorem d_Mod_compose_52 : decode b_Mod_compose 52 = .ok (.aload_n 0, 1) := by decide +kernel
theorem d_Mod_compose_53 : decode b_Mod_compose 53 = .ok (.iconst 5, 1) := by decide +kernel
theorem d_Mod_compose_54 : decode b_Mod_compose 54 = .ok (.iload_n 1, 1) := by decide +kernel
theorem d_Mod_compose_55 : decode b_Mod_compose 55 = .ok (.iadd, 1) := by decide +kernel
theorem d_Mod_compose_56 : decode b_Mod_compose 56 = .ok (.iload_n 2, 1) := by decide +kernel
theorem d_Mod_compose_57 : decode b_Mod_compose 57 = .ok (.iconst 1, 1) := by decide +kernel
theorem d_Mod_compose_58 : decode b_Mod_compose 58 = .ok (.iload_n 2, 1) := by decide +kernel
theorem d_Mod_compose_59 : decode b_Mod_compose 59 = .ok (.invokevirtual 120, 3) := by decide +kernel
theorem d_Mod_compose_62 : decode b_Mod_compose 62 = .ok (.ifCond .eq 6, 3) := by decide +kernel
theorem d_Mod_compose_65 : decode b_Mod_compose 65 = .ok (.goto 160, 3) := by decide +kernel
theorem d_Mod_compose_68 : decode b_Mod_compose 68 = .ok (.iconst 0, 1) := by decide +kernel
theorem d_Mod_compose_69 : decode b_Mod_compose 69 = .ok (.istore_n 3, 1) := by decide +kernel
theorem d_Mod_compose_70 : decode b_Mod_compose 70 = .ok (.iload_n 3, 1) := by decide +kernel
theorem d_Mod_compose_71 : decode b_Mod_compose 71 = .ok (.bipush 64, 2) := by decide +kernel
theorem d_Mod_compose_73 : decode b_Mod_compose 73 = .ok (.if_icmp .ge 26, 3) := by decide +kernel
theorem d_Mod_compose_76 : decode b_Mod_compose 76 = .ok (.aload_n 0, 1) := by decide +kernel
theorem d_Mod_compose_77 : decode b_Mod_compose 77 = .ok (.getfield 65, 3) := by decide +kernel
theorem d_Mod_compose_80 : decode b_Mod_compose 80 = .ok (.iload_n 3, 1) := by decide +kernel
theorem d_Mod_compose_81 : decode b_Mod_compose 81 = .ok (.aload_n 0, 1) := by decide +kernel
theorem d_Mod_compose_82 : decode b_Mod_compose 82 = .ok (.getfield 7, 3) := by decide +kernel
theorem d_Mod_compose_85 : decode b_Mod_compose 85 = .ok (.iconst 1, 1) := by decide +kernel
theorem d_Mod_compose_86 : decode b_Mod_compose 86 = .ok (.iload_n 2, 1) := by decide +kernel
theorem d_Mod_compose_87 : decode b_Mod_compose 87 = .ok (.iload_n 3, 1) := by decide +kernel
theorem d_Mod_compose_88 : decode b_Mod_compose 88 = .ok (.invokestatic 78, 3) := by decide +kernel
theorem d_Mod_compose_91 : decode b_Mod_compose 91 = .ok (.iaload, 1) := by decide +kernel
theorem d_Mod_compose_92 : decode b_Mod_compose 92 = .ok (.iastore, 1) := by decide +kernel
theorem d_Mod_compose_93 : decode b_Mod_compose 93 = .ok (.iinc 3 1, 3) := by decide +kernel
theorem d_Mod_compose_96 : decode b_Mod_compose 96 = .ok (.goto (-26), 3) := by decide +kernel
theorem d_Mod_compose_99 : decode b_Mod_compose 99 = .ok (.aload_n 0, 1) := by decide +kernel
theorem d_Mod_compose_100 : decode b_Mod_compose 100 = .ok (.invokevirtual 141, 3) := by decide +kernel
theorem d_Mod_compose_103 : decode b_Mod_compose 103 = .ok (.bipush 6, 2) := by decide +kernel
theorem d_Mod_compose_105 : decode b_Mod_compose 105 = .ok (.istore_n 3, 1) := by decide +kernel
theorem d_Mod_compose_106 : decode b_Mod_compose 106 = .ok (.sipush 1000, 3) := by decide +kernel
theorem d_Mod_compose_109 : decode b_Mod_compose 109 = .ok (.istore 4, 2) := by decide +kernel
theorem d_Mod_compose_111 : decode b_Mod_compose 111 = .ok (.iconst 0, 1) := by decide +kernel
theorem d_Mod_compose_112 : decode b_Mod_compose 112 = .ok (.istore 5, 2) := by decide +kernel
theorem d_Mod_compose_114 : decode b_Mod_compose 114 = .ok (.iload 5, 2) := by decide +kernel
theorem d_Mod_compose_116 : decode b_Mod_compose 116 = .ok (.bipush 7, 2) := by decide +kernel
theorem d_Mod_compose_118 : decode b_Mod_compose 118 = .ok (.if_icmp .ge 41, 3) := by decide +kernel
theorem d_Mod_compose_121 : decode b_Mod_compose 121 = .ok (.aload_n 0, 1) := by decide +kernel
theorem d_Mod_compose_122 : decode b_Mod_compose 122 = .ok (.iload 5, 2) := by decide +kernel
theorem d_Mod_compose_124 : decode b_Mod_compose 124 = .ok (.iload_n 1, 1) := by decide +kernel
theorem d_Mod_compose_125 : decode b_Mod_compose 125 = .ok (.iload_n 2, 1) := by decide +kernel
theorem d_Mod_compose_126 : decode b_Mod_compose 126 = .ok (.invokevirtual 144, 3) := by decide +kernel
theorem d_Mod_compose_129 : decode b_Mod_compose 129 = .ok (.ifCond .eq 24, 3) := by decide +kernel
theorem d_Mod_compose_132 : decode b_Mod_compose 132 = .ok (.aload_n 0, 1) := by decide +kernel
theorem d_Mod_compose_133 : decode b_Mod_compose 133 = .ok (.getfield 107, 3) := by decide +kernel
theorem d_Mod_compose_136 : decode b_Mod_compose 136 = .ok (.iload 4, 2) := by decide +kernel
theorem d_Mod_compose_138 : decode b_Mod_compose 138 = .ok (.if_icmp .lt 6, 3) := by decide +kernel
theorem d_Mod_compose_141 : decode b_Mod_compose 141 = .ok (.goto 12, 3) := by decide +kernel
theorem d_Mod_compose_144 : decode b_Mod_compose 144 = .ok (.iload 5, 2) := by decide +kernel
theorem d_Mod_compose_146 : decode b_Mod_compose 146 = .ok (.istore_n 3, 1) := by decide +kernel
theorem d_Mod_compose_147 : decode b_Mod_compose 147 = .ok (.aload_n 0, 1) := by decide +kernel
theorem d_Mod_compose_148 : decode b_Mod_compose 148 = .ok (.getfield 107, 3) := by decide +kernel
theorem d_Mod_compose_151 : decode b_Mod_compose 151 = .ok (.istore 4, 2) := by decide +kernel
theorem d_Mod_compose_153 : decode b_Mod_compose 153 = .ok (.iinc 5 1, 3) := by decide +kernel
theorem d_Mod_compose_156 : decode b_Mod_compose 156 = .ok (.goto (-42), 3) := by decide +kernel
theorem d_Mod_compose_159 : decode b_Mod_compose 159 = .ok (.aload_n 0, 1) := by decide +kernel
theorem d_Mod_compose_160 : decode b_Mod_compose 160 = .ok (.iload_n 3, 1) := by decide +kernel
theorem d_Mod_compose_161 : decode b_Mod_compose 161 = .ok (.iload_n 1, 1) := by decide +kernel
theorem d_Mod_compose_162 : decode b_Mod_compose 162 = .ok (.iload_n 2, 1) := by decide +kernel
theorem d_Mod_compose_163 : decode b_Mod_compose 163 = .ok (.invokevirtual 144, 3) := by decide +kernel
theorem d_Mod_compose_166 : decode b_Mod_compose 166 = .ok (.pop, 1) := by decide +kernel
theorem d_Mod_compose_167 : decode b_Mod_compose 167 = .ok (.iconst 0, 1) := by decide +kernel
theorem d_Mod_compose_168 : decode b_Mod_compose 168 = .ok (.istore 5, 2) := by decide +kernel
theorem d_Mod_compose_170 : decode b_Mod_compose 170 = .ok (.iload 5, 2) := by decide +kernel
theorem d_Mod_compose_172 : decode b_Mod_compose 172 = .ok (.aload_n 0, 1) := by decide +kernel
theorem d_Mod_compose_173 : decode b_Mod_compose 173 = .ok (.getfield 107, 3) := by decide +kernel
theorem d_Mod_compose_176 : decode b_Mod_compose 176 = .ok (.if_icmp .ge 21, 3) := by decide +kernel
theorem d_Mod_compose_179 : decode b_Mod_compose 179 = .ok (.aload_n 0, 1) := by decide +kernel
theorem d_Mod_compose_180 : decode b_Mod_compose 180 = .ok (.iload_n 1, 1) := by decide +kernel
theorem d_Mod_compose_181 : decode b_Mod_compose 181 = .ok (.aload_n 0, 1) := by decide +kernel
theorem d_Mod_compose_182 : decode b_Mod_compose 182 = .ok (.getfield 68, 3) := by decide +kernel
theorem d_Mod_compose_185 : decode b_Mod_compose 185 = .ok (.iload 5, 2) := by decide +kernel
theorem d_Mod_compose_187 : decode b_Mod_compose 187 = .ok (.iaload, 1) := by decide +kernel
theorem d_Mod_compose_188 : decode b_Mod_compose 188 = .ok (.invokevirtual 138, 3) := by decide +kernel
theorem d_Mod_compose_191 : decode b_Mod_compose 191 = .ok (.iinc 5 1, 3) := by decide +kernel
theorem d_Mod_compose_194 : decode b_Mod_compose 194 = .ok (.goto (-24), 3) := by decide +kernel
theorem d_Mod_compose_197 : decode b_Mod_compose 197 = .ok (.aload_n 0, 1) := by decide +kernel
theorem d_Mod_compose_198 : decode b_Mod_compose 198 = .ok (.getfield 38, 3) := by decide +kernel
theorem d_Mod_compose_201 : decode b_Mod_compose 201 = .ok (.bipush 7, 2) := by decide +kernel
theorem d_Mod_compose_203 : decode b_Mod_compose 203 = .ok (.iload_n 1, 1) := by decide +kernel
theorem d_Mod_compose_204 : decode b_Mod_compose 204 = .ok (.imul, 1) := by decide +kernel
theorem d_Mod_compose_205 : decode b_Mod_compose 205 = .ok (.iload_n 3, 1) := by decide +kernel
theorem d_Mod_compose_206 : decode b_Mod_compose 206 = .ok (.iadd, 1) := by decide +kernel
theorem d_Mod_compose_207 : decode b_Mod_compose 207 = .ok (.dup2, 1) := by decide +kernel
theorem d_Mod_compose_208 : decode b_Mod_compose 208 = .ok (.iaload, 1) := by decide +kernel
theorem d_Mod_compose_209 : decode b_Mod_compose 209 = .ok (.aload_n 0, 1) := by decide +kernel
theorem d_Mod_compose_210 : decode b_Mod_compose 210 = .ok (.getfield 107, 3) := by decide +kernel
theorem d_Mod_compose_213 : decode b_Mod_compose 213 = .ok (.iadd, 1) := by decide +kernel
theorem d_Mod_compose_214 : decode b_Mod_compose 214 = .ok (.iastore, 1) := by decide +kernel
theorem d_Mod_compose_215 : decode b_Mod_compose 215 = .ok (.iload_n 3, 1) := by decide +kernel
theorem d_Mod_compose_216 : decode b_Mod_compose 216 = .ok (.iconst 2, 1) := by decide +kernel
theorem d_Mod_compose_217 : decode b_Mod_compose 217 = .ok (.if_icmp .le 8, 3) := by decide +kernel
theorem d_Mod_compose_220 : decode b_Mod_compose 220 = .ok (.aload_n 0, 1) := by decide +kernel
theorem d_Mod_compose_221 : decode b_Mod_compose 221 = .ok (.iload_n 1, 1) := by decide +kernel
theorem d_Mod_compose_222 : decode b_Mod_compose 222 = .ok (.invokevirtual 148, 3) := by decide +kernel
theorem d_Mod_compose_225 : decode b_Mod_compose 225 = .ok (.iinc 2 1, 3) := by decide +kernel
theorem d_Mod_compose_228 : decode b_Mod_compose 228 = .ok (.goto (-182), 3) := by decide +kernel
theorem d_Mod_compose_231 : decode b_Mod_compose 231 = .ok (.iconst 0, 1) := by decide +kernel
theorem d_Mod_compose_232 : decode b_Mod_compose 232 = .ok (.istore_n 2, 1) := by decide +kernel
theorem d_Mod_compose_233 : decode b_Mod_compose 233 = .ok (.iconst 3, 1) := by decide +kernel
theorem d_Mod_compose_234 : decode b_Mod_compose 234 = .ok (.istore_n 3, 1) := by decide +kernel
theorem d_Mod_compose_235 : decode b_Mod_compose 235 = .ok (.iload_n 3, 1) := by decide +kernel
theorem d_Mod_compose_236 : decode b_Mod_compose 236 = .ok (.aload_n 0, 1) := by decide +kernel
theorem d_Mod_compose_237 : decode b_Mod_compose 237 = .ok (.getfield 44, 3) := by decide +kernel
theorem d_Mod_compose_240 : decode b_Mod_compose 240 = .ok (.iload_n 1, 1) := by decide +kernel
theorem d_Mod_compose_241 : decode b_Mod_compose 241 = .ok (.iaload, 1) := by decide +kernel
theorem d_Mod_compose_242 : decode b_Mod_compose 242 = .ok (.if_icmp .ge 24, 3) := by decide +kernel
theorem d_Mod_compose_245 : decode b_Mod_compose 245 = .ok (.iload_n 2, 1) := by decide +kernel
theorem d_Mod_compose_246 : decode b_Mod_compose 246 = .ok (.aload_n 0, 1) := by decide +kernel
theorem d_Mod_compose_247 : decode b_Mod_compose 247 = .ok (.getfield 41, 3) := by decide +kernel
theorem d_Mod_compose_250 : decode b_Mod_compose 250 = .ok (.sipush 6247, 3) := by decide +kernel
theorem d_Mod_compose_253 : decode b_Mod_compose 253 = .ok (.iload_n 1, 1) := by decide +kernel
theorem d_Mod_compose_254 : decode b_Mod_compose 254 = .ok (.imul, 1) := by decide +kernel
theorem d_Mod_compose_255 : decode b_Mod_compose 255 = .ok (.iload_n 3, 1) := by decide +kernel
theorem d_Mod_compose_256 : decode b_Mod_compose 256 = .ok (.iadd, 1) := by decide +kernel
theorem d_Mod_compose_257 : decode b_Mod_compose 257 = .ok (.iaload, 1) := by decide +kernel
theorem d_Mod_compose_258 : decode b_Mod_compose 258 = .ok (.iadd, 1) := by decide +kernel
theorem d_Mod_compose_259 : decode b_Mod_compose 259 = .ok (.istore_n 2, 1) := by decide +kernel
theorem d_Mod_compose_260 : decode b_Mod_compose 260 = .ok (.iinc 3 1, 3) := by decide +kernel
theorem d_Mod_compose_263 : decode b_Mod_compose 263 = .ok (.goto (-28), 3) := by decide +kernel
theorem d_Mod_compose_266 : decode b_Mod_compose 266 = .ok (.aload_n 0, 1) := by decide +kernel
theorem d_Mod_compose_267 : decode b_Mod_compose 267 = .ok (.iload_n 1, 1) := by decide +kernel
theorem d_Mod_compose_268 : decode b_Mod_compose 268 = .ok (.iload_n 2, 1) := by decide +kernel
theorem d_Mod_compose_269 : decode b_Mod_compose 269 = .ok (.bipush 8, 2) := by decide +kernel
theorem d_Mod_compose_271 : decode b_Mod_compose 271 = .ok (.ishr, 1) := by decide +kernel
theorem d_Mod_compose_272 : decode b_Mod_compose 272 = .ok (.invokevirtual 138, 3) := by decide +kernel
theorem d_Mod_compose_275 : decode b_Mod_compose 275 = .ok (.aload_n 0, 1) := by decide +kernel
theorem d_Mod_compose_276 : decode b_Mod_compose 276 = .ok (.iload_n 1, 1) := by decide +kernel
theorem d_Mod_compose_277 : decode b_Mod_compose 277 = .ok (.iload_n 2, 1) := by decide +kernel
theorem d_Mod_compose_278 : decode b_Mod_compose 278 = .ok (.invokevirtual 138, 3) := by decide +kernel
theorem d_Mod_compose_281 : decode b_Mod_compose 281 = .ok (.aload_n 0, 1) := by decide +kernel
theorem d_Mod_compose_282 : decode b_Mod_compose 282 = .ok (.getfield 44, 3) := by decide +kernel
theorem d_Mod_compose_285 : decode b_Mod_compose 285 = .ok (.iload_n 1, 1) := by decide +kernel
theorem d_Mod_compose_286 : decode b_Mod_compose 286 = .ok (.iaload, 1) := by decide +kernel
theorem d_Mod_compose_287 : decode b_Mod_compose 287 = .ok (.iconst 3, 1) := by decide +kernel
theorem d_Mod_compose_288 : decode b_Mod_compose 288 = .ok (.isub, 1) := by decide +kernel
theorem d_Mod_compose_289 : decode b_Mod_compose 289 = .ok (.istore_n 3, 1) := by decide +kernel
theorem d_Mod_compose_290 : decode b_Mod_compose 290 = .ok (.aload_n 0, 1) := by decide +kernel
theorem d_Mod_compose_291 : decode b_Mod_compose 291 = .ok (.getfield 41, 3) := by decide +kernel
theorem d_Mod_compose_294 : decode b_Mod_compose 294 = .ok (.sipush 6247, 3) := by decide +kernel
theorem d_Mod_compose_297 : decode b_Mod_compose 297 = .ok (.iload_n 1, 1) := by decide +kernel
theorem d_Mod_compose_298 : decode b_Mod_compose 298 = .ok (.imul, 1) := by decide +kernel
theorem d_Mod_compose_299 : decode b_Mod_compose 299 = .ok (.iload_n 3, 1) := by decide +kernel
theorem d_Mod_compose_300 : decode b_Mod_compose 300 = .ok (.ldc 82, 2) := by decide +kernel
theorem d_Mod_compose_302 : decode b_Mod_compose 302 = .ok (.idiv, 1) := by decide +kernel
theorem d_Mod_compose_303 : decode b_Mod_compose 303 = .ok (.iastore, 1) := by decide +kernel
theorem d_Mod_compose_304 : decode b_Mod_compose 304 = .ok (.aload_n 0, 1) := by decide +kernel
theorem d_Mod_compose_305 : decode b_Mod_compose 305 = .ok (.getfield 41, 3) := by decide +kernel
theorem d_Mod_compose_308 : decode b_Mod_compose 308 = .ok (.sipush 6247, 3) := by decide +kernel
theorem d_Mod_compose_311 : decode b_Mod_compose 311 = .ok (.iload_n 1, 1) := by decide +kernel
theorem d_Mod_compose_312 : decode b_Mod_compose 312 = .ok (.imul, 1) := by decide +kernel
theorem d_Mod_compose_313 : decode b_Mod_compose 313 = .ok (.iconst 1, 1) := by decide +kernel
theorem d_Mod_compose_314 : decode b_Mod_compose 314 = .ok (.iadd, 1) := by decide +kernel
theorem d_Mod_compose_315 : decode b_Mod_compose 315 = .ok (.iload_n 3, 1) := by decide +kernel
theorem d_Mod_compose_316 : decode b_Mod_compose 316 = .ok (.sipush 256, 3) := by decide +kernel
theorem d_Mod_compose_319 : decode b_Mod_compose 319 = .ok (.idiv, 1) := by decide +kernel
theorem d_Mod_compose_320 : decode b_Mod_compose 320 = .ok (.sipush 256, 3) := by decide +kernel
theorem d_Mod_compose_323 : decode b_Mod_compose 323 = .ok (.irem, 1) := by decide +kernel
theorem d_Mod_compose_324 : decode b_Mod_compose 324 = .ok (.iastore, 1) := by decide +kernel
theorem d_Mod_compose_325 : decode b_Mod_compose 325 = .ok (.aload_n 0, 1) := by decide +kernel
theorem d_Mod_compose_326 : decode b_Mod_compose 326 = .ok (.getfield 41, 3) := by decide +kernel
theorem d_Mod_compose_329 : decode b_Mod_compose 329 = .ok (.sipush 6247, 3) := by decide +kernel
theorem d_Mod_compose_332 : decode b_Mod_compose 332 = .ok (.iload_n 1, 1) := by decide +kernel
theorem d_Mod_compose_333 : decode b_Mod_compose 333 = .ok (.imul, 1) := by decide +kernel
theorem d_Mod_compose_334 : decode b_Mod_compose 334 = .ok (.iconst 2, 1) := by decide +kernel
theorem d_Mod_compose_335 : decode b_Mod_compose 335 = .ok (.iadd, 1) := by decide +kernel
theorem d_Mod_compose_336 : decode b_Mod_compose 336 = .ok (.iload_n 3, 1) := by decide +kernel
theorem d_Mod_compose_337 : decode b_Mod_compose 337 = .ok (.sipush 256, 3) := by decide +kernel
theorem d_Mod_compose_340 : decode b_Mod_compose 340 = .ok (.irem, 1) := by decide +kernel
theorem d_Mod_compose_341 : decode b_Mod_compose 341 = .ok (.iastore, 1) := by decide +kernel
theorem d_Mod_compose_342 : decode b_Mod_compose 342 = .ok (.aload_n 0, 1) := by decide +kernel
theorem d_Mod_compose_343 : decode b_Mod_compose 343 = .ok (.iconst 5, 1) := by decide +kernel
theorem d_Mod_compose_344 : decode b_Mod_compose 344 = .ok (.iload_n 1, 1) := by decide +kernel
theorem d_Mod_compose_345 : decode b_Mod_compose 345 = .ok (.iadd, 1) := by decide +kernel
theorem d_Mod_compose_346 : decode b_Mod_compose 346 = .ok (.iconst 1, 1) := by decide +kernel
theorem d_Mod_compose_347 : decode b_Mod_compose 347 = .ok (.invokevirtual 91, 3) := by decide +kernel
theorem d_Mod_compose_350 : decode b_Mod_compose 350 = .ok (.aload_n 0, 1) := by decide +kernel
theorem d_Mod_compose_351 : decode b_Mod_compose 351 = .ok (.getfield 29, 3) := by decide +kernel
theorem d_Mod_compose_354 : decode b_Mod_compose 354 = .ok (.iload_n 1, 1) := by decide +kernel
theorem d_Mod_compose_355 : decode b_Mod_compose 355 = .ok (.aload_n 0, 1) := by decide +kernel
theorem d_Mod_compose_356 : decode b_Mod_compose 356 = .ok (.getfield 96, 3) := by decide +kernel
theorem d_Mod_compose_359 : decode b_Mod_compose 359 = .ok (.iastore, 1) := by decide +kernel
theorem d_Mod_compose_360 : decode b_Mod_compose 360 = .ok (.return_, 1) := by decide +kernel
theorem d_Mod_get_0 : decode b_Mod_get 0 = .ok (.aload_n 0, 1) := by decide +kernel
theorem d_Mod_get_1 : decode b_Mod_get 1 = .ok (.getfield 151, 3) := by decide +kernel
theorem d_Mod_get_4 : decode b_Mod_get 4 = .ok (.aload_n 0, 1) := by decide +kernel
theorem d_Mod_get_5 : decode b_Mod_get 5 = .ok (.getfield 154, 3) := by decide +kernel
theorem d_Mod_get_8 : decode b_Mod_get 8 = .ok (.if_icmp .ge 21, 3) := by decide +kernel
theorem d_Mod_get_11 : decode b_Mod_get 11 = .ok (.aload_n 0, 1) := by decide +kernel
theorem d_Mod_get_12 : decode b_Mod_get 12 = .ok (.getfield 50, 3) := by decide +kernel
theorem d_Mod_get_15 : decode b_Mod_get 15 = .ok (.sipush 6247, 3) := by decide +kernel
theorem d_Mod_get_18 : decode b_Mod_get 18 = .ok (.iload_n 1, 1) := by decide +kernel
theorem d_Mod_get_19 : decode b_Mod_get 19 = .ok (.imul, 1) := by decide +kernel
theorem d_Mod_get_20 : decode b_Mod_get 20 = .ok (.aload_n 0, 1) := by decide +kernel
theorem d_Mod_get_21 : decode b_Mod_get 21 = .ok (.getfield 151, 3) := by decide +kernel
theorem d_Mod_get_24 : decode b_Mod_get 24 = .ok (.iadd, 1) := by decide +kernel
theorem d_Mod_get_25 : decode b_Mod_get 25 = .ok (.iaload, 1) := by decide +kernel
theorem d_Mod_get_26 : decode b_Mod_get 26 = .ok (.goto 4, 3) := by decide +kernel
theorem d_Mod_get_29 : decode b_Mod_get 29 = .ok (.iconst 0, 1) := by decide +kernel
theorem d_Mod_get_30 : decode b_Mod_get 30 = .ok (.istore_n 2, 1) := by decide +kernel
theorem d_Mod_get_31 : decode b_Mod_get 31 = .ok (.aload_n 0, 1) := by decide +kernel
theorem d_Mod_get_32 : decode b_Mod_get 32 = .ok (.dup, 1) := by decide +kernel
theorem d_Mod_get_33 : decode b_Mod_get 33 = .ok (.getfield 151, 3) := by decide +kernel
theorem d_Mod_get_36 : decode b_Mod_get 36 = .ok (.iconst 1, 1) := by decide +kernel
theorem d_Mod_get_37 : decode b_Mod_get 37 = .ok (.iadd, 1) := by decide +kernel
theorem d_Mod_get_38 : decode b_Mod_get 38 = .ok (.putfield 151, 3) := by decide +kernel
theorem d_Mod_get_41 : decode b_Mod_get 41 = .ok (.iload_n 2, 1) := by decide +kernel
theorem d_Mod_get_42 : decode b_Mod_get 42 = .ok (.ireturn, 1) := by decide +kernel
theorem d_Mod_getTwo_0 : decode b_Mod_getTwo 0 = .ok (.aload_n 0, 1) := by decide +kernel
theorem d_Mod_getTwo_1 : decode b_Mod_getTwo 1 = .ok (.iload_n 1, 1) := by decide +kernel
theorem d_Mod_getTwo_2 : decode b_Mod_getTwo 2 = .ok (.invokevirtual 157, 3) := by decide +kernel
theorem d_Mod_getTwo_5 : decode b_Mod_getTwo 5 = .ok (.istore_n 2, 1) := by decide +kernel
theorem d_Mod_getTwo_6 : decode b_Mod_getTwo 6 = .ok (.sipush 256, 3) := by decide +kernel
theorem d_Mod_getTwo_9 : decode b_Mod_getTwo 9 = .ok (.iload_n 2, 1) := by decide +kernel
theorem d_Mod_getTwo_10 : decode b_Mod_getTwo 10 = .ok (.imul, 1) := by decide +kernel
theorem d_Mod_getTwo_11 : decode b_Mod_getTwo 11 = .ok (.aload_n 0, 1) := by decide +kernel
theorem d_Mod_getTwo_12 : decode b_Mod_getTwo 12 = .ok (.iload_n 1, 1) := by decide +kernel
theorem d_Mod_getTwo_13 : decode b_Mod_getTwo 13 = .ok (.invokevirtual 157, 3) := by decide +kernel
theorem d_Mod_getTwo_16 : decode b_Mod_getTwo 16 = .ok (.iadd, 1) := by decide +kernel
theorem d_Mod_getTwo_17 : decode b_Mod_getTwo 17 = .ok (.ireturn, 1) := by decide +kernel
theorem d_Mod_read_0 : decode b_Mod_read 0 = .ok (.iload_n 2, 1) := by decide +kernel
theorem d_Mod_read_1 : decode b_Mod_read 1 = .ok (.iconst 4, 1) := by decide +kernel
theorem d_Mod_read_2 : decode b_Mod_read 2 = .ok (.if_icmp .ne 11, 3) := by decide +kernel
theorem d_Mod_read_5 : decode b_Mod_read 5 = .ok (.aload_n 0, 1) := by decide +kernel
theorem d_Mod_read_6 : decode b_Mod_read 6 = .ok (.iload_n 1, 1) := by decide +kernel
theorem d_Mod_read_7 : decode b_Mod_read 7 = .ok (.invokevirtual 157, 3) := by decide +kernel
theorem d_Mod_read_10 : decode b_Mod_read 10 = .ok (.goto 13, 3) := by decide +kernel
theorem d_Mod_read_13 : decode b_Mod_read 13 = .ok (.iload_n 2, 1) := by decide +kernel
theorem d_Mod_read_14 : decode b_Mod_read 14 = .ok (.iconst 3, 1) := by decide +kernel
theorem d_Mod_read_15 : decode b_Mod_read 15 = .ok (.if_icmp .ne 7, 3) := by decide +kernel
theorem d_Mod_read_18 : decode b_Mod_read 18 = .ok (.iconst 2, 1) := by decide +kernel
theorem d_Mod_read_19 : decode b_Mod_read 19 = .ok (.goto 4, 3) := by decide +kernel
theorem d_Mod_read_22 : decode b_Mod_read 22 = .ok (.iconst 1, 1) := by decide +kernel
theorem d_Mod_read_23 : decode b_Mod_read 23 = .ok (.istore_n 3, 1) := by decide +kernel
theorem d_Mod_read_24 : decode b_Mod_read 24 = .ok (.iload_n 2, 1) := by decide +kernel
theorem d_Mod_read_25 : decode b_Mod_read 25 = .ok (.iconst 4, 1) := by decide +kernel
theorem d_Mod_read_26 : decode b_Mod_read 26 = .ok (.if_icmp .ne 15, 3) := by decide +kernel
theorem d_Mod_read_29 : decode b_Mod_read 29 = .ok (.iload_n 3, 1) := by decide +kernel
theorem d_Mod_read_30 : decode b_Mod_read 30 = .ok (.iconst 3, 1) := by decide +kernel
theorem d_Mod_read_31 : decode b_Mod_read 31 = .ok (.if_icmp .eq 10, 3) := by decide +kernel
theorem d_Mod_read_34 : decode b_Mod_read 34 = .ok (.iload_n 3, 1) := by decide +kernel
theorem d_Mod_read_35 : decode b_Mod_read 35 = .ok (.iconst 4, 1) := by decide +kernel
theorem d_Mod_read_36 : decode b_Mod_read 36 = .ok (.if_icmp .eq 5, 3) := by decide +kernel
theorem d_Mod_read_39 : decode b_Mod_read 39 = .ok (.iconst 0, 1) := by decide +kernel
theorem d_Mod_read_40 : decode b_Mod_read 40 = .ok (.ireturn, 1) := by decide +kernel
theorem d_Mod_read_41 : decode b_Mod_read 41 = .ok (.iload_n 2, 1) := by decide +kernel
theorem d_Mod_read_42 : decode b_Mod_read 42 = .ok (.ifCond .eq 13, 3) := by decide +kernel
theorem d_Mod_read_45 : decode b_Mod_read 45 = .ok (.iload_n 2, 1) := by decide +kernel
theorem d_Mod_read_46 : decode b_Mod_read 46 = .ok (.iconst 3, 1) := by decide +kernel
theorem d_Mod_read_47 : decode b_Mod_read 47 = .ok (.if_icmp .eq 8, 3) := by decide +kernel
theorem d_Mod_read_50 : decode b_Mod_read 50 = .ok (.iload_n 2, 1) := by decide +kernel
theorem d_Mod_read_51 : decode b_Mod_read 51 = .ok (.iconst 4, 1) := by decide +kernel
theorem d_Mod_read_52 : decode b_Mod_read 52 = .ok (.if_icmp .ne 30, 3) := by decide +kernel
theorem d_Mod_read_55 : decode b_Mod_read 55 = .ok (.iconst 0, 1) := by decide +kernel
theorem d_Mod_read_56 : decode b_Mod_read 56 = .ok (.istore 4, 2) := by decide +kernel
theorem d_Mod_read_58 : decode b_Mod_read 58 = .ok (.iload 4, 2) := by decide +kernel
theorem d_Mod_read_60 : decode b_Mod_read 60 = .ok (.iload_n 3, 1) := by decide +kernel
theorem d_Mod_read_61 : decode b_Mod_read 61 = .ok (.if_icmp .ge 21, 3) := by decide +kernel
theorem d_Mod_read_64 : decode b_Mod_read 64 = .ok (.aload_n 0, 1) := by decide +kernel
theorem d_Mod_read_65 : decode b_Mod_read 65 = .ok (.getfield 71, 3) := by decide +kernel
theorem d_Mod_read_68 : decode b_Mod_read 68 = .ok (.iload 4, 2) := by decide +kernel
theorem d_Mod_read_70 : decode b_Mod_read 70 = .ok (.aload_n 0, 1) := by decide +kernel
theorem d_Mod_read_71 : decode b_Mod_read 71 = .ok (.iload_n 1, 1) := by decide +kernel
theorem d_Mod_read_72 : decode b_Mod_read 72 = .ok (.invokevirtual 160, 3) := by decide +kernel
theorem d_Mod_read_75 : decode b_Mod_read 75 = .ok (.iastore, 1) := by decide +kernel
theorem d_Mod_read_76 : decode b_Mod_read 76 = .ok (.iinc 4 1, 3) := by decide +kernel
theorem d_Mod_read_79 : decode b_Mod_read 79 = .ok (.goto (-21), 3) := by decide +kernel
theorem d_Mod_read_82 : decode b_Mod_read 82 = .ok (.iload_n 2, 1) := by decide +kernel
theorem d_Mod_read_83 : decode b_Mod_read 83 = .ok (.iconst 1, 1) := by decide +kernel
theorem d_Mod_read_84 : decode b_Mod_read 84 = .ok (.if_icmp .eq 8, 3) := by decide +kernel
theorem d_Mod_read_87 : decode b_Mod_read 87 = .ok (.iload_n 2, 1) := by decide +kernel
theorem d_Mod_read_88 : decode b_Mod_read 88 = .ok (.iconst 2, 1) := by decide +kernel
theorem d_Mod_read_89 : decode b_Mod_read 89 = .ok (.if_icmp .ne 15, 3) := by decide +kernel
theorem d_Mod_read_92 : decode b_Mod_read 92 = .ok (.aload_n 0, 1) := by decide +kernel
theorem d_Mod_read_93 : decode b_Mod_read 93 = .ok (.iload_n 1, 1) := by decide +kernel
theorem d_Mod_read_94 : decode b_Mod_read 94 = .ok (.iload_n 2, 1) := by decide +kernel
theorem d_Mod_read_95 : decode b_Mod_read 95 = .ok (.aload_n 0, 1) := by decide +kernel
theorem d_Mod_read_96 : decode b_Mod_read 96 = .ok (.iload_n 1, 1) := by decide +kernel
theorem d_Mod_read_97 : decode b_Mod_read 97 = .ok (.invokevirtual 157, 3) := by decide +kernel
theorem d_Mod_read_100 : decode b_Mod_read 100 = .ok (.invokevirtual 163, 3) := by decide +kernel
theorem d_Mod_read_103 : decode b_Mod_read 103 = .ok (.ireturn, 1) := by decide +kernel
theorem d_Mod_read_104 : decode b_Mod_read 104 = .ok (.iload_n 2, 1) := by decide +kernel
theorem d_Mod_read_105 : decode b_Mod_read 105 = .ok (.iconst 5, 1) := by decide +kernel
theorem d_Mod_read_106 : decode b_Mod_read 106 = .ok (.if_icmp .ne 9, 3) := by decide +kernel
theorem d_Mod_read_109 : decode b_Mod_read 109 = .ok (.aload_n 0, 1) := by decide +kernel
theorem d_Mod_read_110 : decode b_Mod_read 110 = .ok (.iload_n 1, 1) := by decide +kernel
theorem d_Mod_read_111 : decode b_Mod_read 111 = .ok (.invokevirtual 166, 3) := by decide +kernel
theorem d_Mod_read_114 : decode b_Mod_read 114 = .ok (.ireturn, 1) := by decide +kernel
theorem d_Mod_read_115 : decode b_Mod_read 115 = .ok (.iconst 0, 1) := by decide +kernel
theorem d_Mod_read_116 : decode b_Mod_read 116 = .ok (.istore 4, 2) := by decide +kernel
theorem d_Mod_read_118 : decode b_Mod_read 118 = .ok (.iconst 1, 1) := by decide +kernel
theorem d_Mod_read_119 : decode b_Mod_read 119 = .ok (.istore 5, 2) := by decide +kernel
theorem d_Mod_read_121 : decode b_Mod_read 121 = .ok (.iconst 0, 1) := by decide +kernel
theorem d_Mod_read_122 : decode b_Mod_read 122 = .ok (.istore 6, 2) := by decide +kernel
theorem d_Mod_read_124 : decode b_Mod_read 124 = .ok (.iload 6, 2) := by decide +kernel
theorem d_Mod_read_126 : decode b_Mod_read 126 = .ok (.bipush 64, 2) := by decide +kernel
theorem d_Mod_read_128 : decode b_Mod_read 128 = .ok (.if_icmp .ge 133, 3) := by decide +kernel
theorem d_Mod_read_131 : decode b_Mod_read 131 = .ok (.iload_n 2, 1) := by decide +kernel
theorem d_Mod_read_132 : decode b_Mod_read 132 = .ok (.iconst 3, 1) := by decide +kernel
theorem d_Mod_read_133 : decode b_Mod_read 133 = .ok (.if_icmp .ne 11, 3) := by decide +kernel
theorem d_Mod_read_136 : decode b_Mod_read 136 = .ok (.iload 6, 2) := by decide +kernel
theorem d_Mod_read_138 : decode b_Mod_read 138 = .ok (.bipush 8, 2) := by decide +kernel
theorem d_Mod_read_140 : decode b_Mod_read 140 = .ok (.irem, 1) := by decide +kernel
theorem d_Mod_read_141 : decode b_Mod_read 141 = .ok (.ifCond .eq 15, 3) := by decide +kernel
theorem d_Mod_read_144 : decode b_Mod_read 144 = .ok (.iload_n 2, 1) := by decide +kernel
theorem d_Mod_read_145 : decode b_Mod_read 145 = .ok (.iconst 4, 1) := by decide +kernel
theorem d_Mod_read_146 : decode b_Mod_read 146 = .ok (.if_icmp .ne 17, 3) := by decide +kernel
theorem d_Mod_read_149 : decode b_Mod_read 149 = .ok (.iload 6, 2) := by decide +kernel
theorem d_Mod_read_151 : decode b_Mod_read 151 = .ok (.iconst 4, 1) := by decide +kernel
theorem d_Mod_read_152 : decode b_Mod_read 152 = .ok (.irem, 1) := by decide +kernel
theorem d_Mod_read_153 : decode b_Mod_read 153 = .ok (.ifCond .ne 10, 3) := by decide +kernel
theorem d_Mod_read_156 : decode b_Mod_read 156 = .ok (.aload_n 0, 1) := by decide +kernel
theorem d_Mod_read_157 : decode b_Mod_read 157 = .ok (.iload_n 1, 1) := by decide +kernel
theorem d_Mod_read_158 : decode b_Mod_read 158 = .ok (.invokevirtual 157, 3) := by decide +kernel
theorem d_Mod_read_161 : decode b_Mod_read 161 = .ok (.istore 4, 2) := by decide +kernel
theorem d_Mod_read_163 : decode b_Mod_read 163 = .ok (.iload_n 2, 1) := by decide +kernel
theorem d_Mod_read_164 : decode b_Mod_read 164 = .ok (.iconst 3, 1) := by decide +kernel
theorem d_Mod_read_165 : decode b_Mod_read 165 = .ok (.if_icmp .ne 19, 3) := by decide +kernel
theorem d_Mod_read_168 : decode b_Mod_read 168 = .ok (.iload 4, 2) := by decide +kernel
theorem d_Mod_read_170 : decode b_Mod_read 170 = .ok (.bipush 7, 2) := by decide +kernel
theorem d_Mod_read_172 : decode b_Mod_read 172 = .ok (.iload 6, 2) := by decide +kernel
theorem d_Mod_read_174 : decode b_Mod_read 174 = .ok (.bipush 8, 2) := by decide +kernel
theorem d_Mod_read_176 : decode b_Mod_read 176 = .ok (.irem, 1) := by decide +kernel
theorem d_Mod_read_177 : decode b_Mod_read 177 = .ok (.isub, 1) := by decide +kernel
theorem d_Mod_read_178 : decode b_Mod_read 178 = .ok (.ishr, 1) := by decide +kernel
theorem d_Mod_read_179 : decode b_Mod_read 179 = .ok (.iconst 1, 1) := by decide +kernel
theorem d_Mod_read_180 : decode b_Mod_read 180 = .ok (.iand, 1) := by decide +kernel
theorem d_Mod_read_181 : decode b_Mod_read 181 = .ok (.goto 26, 3) := by decide +kernel
theorem d_Mod_read_184 : decode b_Mod_read 184 = .ok (.iload_n 2, 1) := by decide +kernel
theorem d_Mod_read_185 : decode b_Mod_read 185 = .ok (.iconst 4, 1) := by decide +kernel
theorem d_Mod_read_186 : decode b_Mod_read 186 = .ok (.if_icmp .ne 20, 3) := by decide +kernel
theorem d_Mod_read_189 : decode b_Mod_read 189 = .ok (.iload 4, 2) := by decide +kernel
theorem d_Mod_read_191 : decode b_Mod_read 191 = .ok (.bipush 6, 2) := by decide +kernel
theorem d_Mod_read_193 : decode b_Mod_read 193 = .ok (.iconst 2, 1) := by decide +kernel
theorem d_Mod_read_194 : decode b_Mod_read 194 = .ok (.iload 6, 2) := by decide +kernel
theorem d_Mod_read_196 : decode b_Mod_read 196 = .ok (.iconst 4, 1) := by decide +kernel
theorem d_Mod_read_197 : decode b_Mod_read 197 = .ok (.irem, 1) := by decide +kernel
theorem d_Mod_read_198 : decode b_Mod_read 198 = .ok (.imul, 1) := by decide +kernel
theorem d_Mod_read_199 : decode b_Mod_read 199 = .ok (.isub, 1) := by decide +kernel
theorem d_Mod_read_200 : decode b_Mod_read 200 = .ok (.ishr, 1) := by decide +kernel
theorem d_Mod_read_201 : decode b_Mod_read 201 = .ok (.iconst 3, 1) := by decide +kernel
theorem d_Mod_read_202 : decode b_Mod_read 202 = .ok (.iand, 1) := by decide +kernel
theorem d_Mod_read_203 : decode b_Mod_read 203 = .ok (.goto 4, 3) := by decide +kernel
theorem d_Mod_read_206 : decode b_Mod_read 206 = .ok (.iconst 0, 1) := by decide +kernel
theorem d_Mod_read_207 : decode b_Mod_read 207 = .ok (.istore 7, 2) := by decide +kernel
theorem d_Mod_read_209 : decode b_Mod_read 209 = .ok (.iload 5, 2) := by decide +kernel
theorem d_Mod_read_211 : decode b_Mod_read 211 = .ok (.ifCond .eq 13, 3) := by decide +kernel
theorem d_Mod_read_214 : decode b_Mod_read 214 = .ok (.iload 7, 2) := by decide +kernel
theorem d_Mod_read_216 : decode b_Mod_read 216 = .ok (.iload_n 3, 1) := by decide +kernel
theorem d_Mod_read_217 : decode b_Mod_read 217 = .ok (.if_icmp .ge 7, 3) := by decide +kernel
theorem d_Mod_read_220 : decode b_Mod_read 220 = .ok (.iconst 1, 1) := by decide +kernel
theorem d_Mod_read_221 : decode b_Mod_read 221 = .ok (.goto 4, 3) := by decide +kernel
theorem d_Mod_read_224 : decode b_Mod_read 224 = .ok (.iconst 0, 1) := by decide +kernel
theorem d_Mod_read_225 : decode b_Mod_read 225 = .ok (.istore 5, 2) := by decide +kernel
theorem d_Mod_read_227 : decode b_Mod_read 227 = .ok (.aload_n 0, 1) := by decide +kernel
theorem d_Mod_read_228 : decode b_Mod_read 228 = .ok (.getfield 65, 3) := by decide +kernel
theorem d_Mod_read_231 : decode b_Mod_read 231 = .ok (.iload 6, 2) := by decide +kernel
theorem d_Mod_read_233 : decode b_Mod_read 233 = .ok (.iload_n 2, 1) := by decide +kernel
theorem d_Mod_read_234 : decode b_Mod_read 234 = .ok (.bipush 6, 2) := by decide +kernel
theorem d_Mod_read_236 : decode b_Mod_read 236 = .ok (.if_icmp .ne 11, 3) := by decide +kernel
theorem d_Mod_read_239 : decode b_Mod_read 239 = .ok (.aload_n 0, 1) := by decide +kernel
theorem d_Mod_read_240 : decode b_Mod_read 240 = .ok (.iload_n 1, 1) := by decide +kernel
theorem d_Mod_read_241 : decode b_Mod_read 241 = .ok (.invokevirtual 160, 3) := by decide +kernel
theorem d_Mod_read_244 : decode b_Mod_read 244 = .ok (.goto 10, 3) := by decide +kernel
theorem d_Mod_read_247 : decode b_Mod_read 247 = .ok (.aload_n 0, 1) := by decide +kernel
theorem d_Mod_read_248 : decode b_Mod_read 248 = .ok (.getfield 71, 3) := by decide +kernel
theorem d_Mod_read_251 : decode b_Mod_read 251 = .ok (.iload 7, 2) := by decide +kernel
theorem d_Mod_read_253 : decode b_Mod_read 253 = .ok (.iaload, 1) := by decide +kernel
theorem d_Mod_read_254 : decode b_Mod_read 254 = .ok (.iastore, 1) := by decide +kernel
theorem d_Mod_read_255 : decode b_Mod_read 255 = .ok (.iinc 6 1, 3) := by decide +kernel
theorem d_Mod_read_258 : decode b_Mod_read 258 = .ok (.goto (-134), 3) := by decide +kernel
theorem d_Mod_read_261 : decode b_Mod_read 261 = .ok (.iload 5, 2) := by decide +kernel
theorem d_Mod_read_263 : decode b_Mod_read 263 = .ok (.ifCond .eq 18, 3) := by decide +kernel
theorem d_Mod_read_266 : decode b_Mod_read 266 = .ok (.aload_n 0, 1) := by decide +kernel
theorem d_Mod_read_267 : decode b_Mod_read 267 = .ok (.getfield 151, 3) := by decide +kernel
theorem d_Mod_read_270 : decode b_Mod_read 270 = .ok (.aload_n 0, 1) := by decide +kernel
theorem d_Mod_read_271 : decode b_Mod_read 271 = .ok (.getfield 154, 3) := by decide +kernel
theorem d_Mod_read_274 : decode b_Mod_read 274 = .ok (.if_icmp .gt 7, 3) := by decide +kernel
theorem d_Mod_read_277 : decode b_Mod_read 277 = .ok (.iconst 1, 1) := by decide +kernel
theorem d_Mod_read_278 : decode b_Mod_read 278 = .ok (.goto 4, 3) := by decide +kernel
theorem d_Mod_read_281 : decode b_Mod_read 281 = .ok (.iconst 0, 1) := by decide +kernel
theorem d_Mod_read_282 : decode b_Mod_read 282 = .ok (.ireturn, 1) := by decide +kernel
theorem d_Mod_readLike_0 : decode b_Mod_readLike 0 = .ok (.aload_n 0, 1) := by decide +kernel
theorem d_Mod_readLike_1 : decode b_Mod_readLike 1 = .ok (.getfield 151, 3) := by decide +kernel
theorem d_Mod_readLike_4 : decode b_Mod_readLike 4 = .ok (.aload_n 0, 1) := by decide +kernel
theorem d_Mod_readLike_5 : decode b_Mod_readLike 5 = .ok (.getfield 154, 3) := by decide +kernel
theorem d_Mod_readLike_8 : decode b_Mod_readLike 8 = .ok (.if_icmp .gt 42, 3) := by decide +kernel
theorem d_Mod_readLike_11 : decode b_Mod_readLike 11 = .ok (.iload_n 2, 1) := by decide +kernel
theorem d_Mod_readLike_12 : decode b_Mod_readLike 12 = .ok (.iconst 1, 1) := by decide +kernel
theorem d_Mod_readLike_13 : decode b_Mod_readLike 13 = .ok (.if_icmp .ne 9, 3) := by decide +kernel
theorem d_Mod_readLike_16 : decode b_Mod_readLike 16 = .ok (.iload_n 3, 1) := by decide +kernel
theorem d_Mod_readLike_17 : decode b_Mod_readLike 17 = .ok (.bipush 48, 2) := by decide +kernel
theorem d_Mod_readLike_19 : decode b_Mod_readLike 19 = .ok (.if_icmp .ge 31, 3) := by decide +kernel
theorem d_Mod_readLike_22 : decode b_Mod_readLike 22 = .ok (.iload_n 2, 1) := by decide +kernel
theorem d_Mod_readLike_23 : decode b_Mod_readLike 23 = .ok (.iconst 2, 1) := by decide +kernel
theorem d_Mod_readLike_24 : decode b_Mod_readLike 24 = .ok (.if_icmp .ne 28, 3) := by decide +kernel
theorem d_Mod_readLike_27 : decode b_Mod_readLike 27 = .ok (.iload_n 3, 1) := by decide +kernel
theorem d_Mod_readLike_28 : decode b_Mod_readLike 28 = .ok (.bipush 15, 2) := by decide +kernel
theorem d_Mod_readLike_30 : decode b_Mod_readLike 30 = .ok (.if_icmp .gt 20, 3) := by decide +kernel
theorem d_Mod_readLike_33 : decode b_Mod_readLike 33 = .ok (.aload_n 0, 1) := by decide +kernel
theorem d_Mod_readLike_34 : decode b_Mod_readLike 34 = .ok (.getfield 19, 3) := by decide +kernel
theorem d_Mod_readLike_37 : decode b_Mod_readLike 37 = .ok (.bipush 48, 2) := by decide +kernel
theorem d_Mod_readLike_39 : decode b_Mod_readLike 39 = .ok (.bipush 16, 2) := by decide +kernel
theorem d_Mod_readLike_41 : decode b_Mod_readLike 41 = .ok (.iload_n 1, 1) := by decide +kernel
theorem d_Mod_readLike_42 : decode b_Mod_readLike 42 = .ok (.imul, 1) := by decide +kernel
theorem d_Mod_readLike_43 : decode b_Mod_readLike 43 = .ok (.iadd, 1) := by decide +kernel
theorem d_Mod_readLike_44 : decode b_Mod_readLike 44 = .ok (.iload_n 3, 1) := by decide +kernel
theorem d_Mod_readLike_45 : decode b_Mod_readLike 45 = .ok (.iadd, 1) := by decide +kernel
theorem d_Mod_readLike_46 : decode b_Mod_readLike 46 = .ok (.baload, 1) := by decide +kernel
theorem d_Mod_readLike_47 : decode b_Mod_readLike 47 = .ok (.ifCond .ne 5, 3) := by decide +kernel
theorem d_Mod_readLike_50 : decode b_Mod_readLike 50 = .ok (.iconst 0, 1) := by decide +kernel
theorem d_Mod_readLike_51 : decode b_Mod_readLike 51 = .ok (.ireturn, 1) := by decide +kernel
theorem d_Mod_readLike_52 : decode b_Mod_readLike 52 = .ok (.iconst 0, 1) := by decide +kernel
theorem d_Mod_readLike_53 : decode b_Mod_readLike 53 = .ok (.istore 4, 2) := by decide +kernel
theorem d_Mod_readLike_55 : decode b_Mod_readLike 55 = .ok (.iload 4, 2) := by decide +kernel
theorem d_Mod_readLike_57 : decode b_Mod_readLike 57 = .ok (.bipush 64, 2) := by decide +kernel
theorem d_Mod_readLike_59 : decode b_Mod_readLike 59 = .ok (.if_icmp .ge 58, 3) := by decide +kernel
theorem d_Mod_readLike_62 : decode b_Mod_readLike 62 = .ok (.aload_n 0, 1) := by decide +kernel
theorem d_Mod_readLike_63 : decode b_Mod_readLike 63 = .ok (.getfield 65, 3) := by decide +kernel
theorem d_Mod_readLike_66 : decode b_Mod_readLike 66 = .ok (.iload 4, 2) := by decide +kernel
theorem d_Mod_readLike_68 : decode b_Mod_readLike 68 = .ok (.iload_n 2, 1) := by decide +kernel
theorem d_Mod_readLike_69 : decode b_Mod_readLike 69 = .ok (.iconst 1, 1) := by decide +kernel
theorem d_Mod_readLike_70 : decode b_Mod_readLike 70 = .ok (.if_icmp .ne 20, 3) := by decide +kernel
theorem d_Mod_readLike_73 : decode b_Mod_readLike 73 = .ok (.aload_n 0, 1) := by decide +kernel
theorem d_Mod_readLike_74 : decode b_Mod_readLike 74 = .ok (.getfield 7, 3) := by decide +kernel
theorem d_Mod_readLike_77 : decode b_Mod_readLike 77 = .ok (.iconst 2, 1) := by decide +kernel
theorem d_Mod_readLike_78 : decode b_Mod_readLike 78 = .ok (.iload_n 1, 1) := by decide +kernel
theorem d_Mod_readLike_79 : decode b_Mod_readLike 79 = .ok (.iadd, 1) := by decide +kernel
theorem d_Mod_readLike_80 : decode b_Mod_readLike 80 = .ok (.iload_n 3, 1) := by decide +kernel
theorem d_Mod_readLike_81 : decode b_Mod_readLike 81 = .ok (.iload 4, 2) := by decide +kernel
theorem d_Mod_readLike_83 : decode b_Mod_readLike 83 = .ok (.invokestatic 78, 3) := by decide +kernel
theorem d_Mod_readLike_86 : decode b_Mod_readLike 86 = .ok (.iaload, 1) := by decide +kernel
theorem d_Mod_readLike_87 : decode b_Mod_readLike 87 = .ok (.goto 23, 3) := by decide +kernel
theorem d_Mod_readLike_90 : decode b_Mod_readLike 90 = .ok (.aload_n 0, 1) := by decide +kernel
theorem d_Mod_readLike_91 : decode b_Mod_readLike 91 = .ok (.getfield 13, 3) := by decide +kernel
theorem d_Mod_readLike_94 : decode b_Mod_readLike 94 = .ok (.sipush 1024, 3) := by decide +kernel
theorem d_Mod_readLike_97 : decode b_Mod_readLike 97 = .ok (.iconst 3, 1) := by decide +kernel
theorem d_Mod_readLike_98 : decode b_Mod_readLike 98 = .ok (.iload_n 1, 1) := by decide +kernel
theorem d_Mod_readLike_99 : decode b_Mod_readLike 99 = .ok (.iadd, 1) := by decide +kernel
theorem d_Mod_readLike_100 : decode b_Mod_readLike 100 = .ok (.imul, 1) := by decide +kernel
theorem d_Mod_readLike_101 : decode b_Mod_readLike 101 = .ok (.bipush 64, 2) := by decide +kernel
theorem d_Mod_readLike_103 : decode b_Mod_readLike 103 = .ok (.iload_n 3, 1) := by decide +kernel
theorem d_Mod_readLike_104 : decode b_Mod_readLike 104 = .ok (.imul, 1) := by decide +kernel
theorem d_Mod_readLike_105 : decode b_Mod_readLike 105 = .ok (.iadd, 1) := by decide +kernel
theorem d_Mod_readLike_106 : decode b_Mod_readLike 106 = .ok (.iload 4, 2) := by decide +kernel
theorem d_Mod_readLike_108 : decode b_Mod_readLike 108 = .ok (.iadd, 1) := by decide +kernel
theorem d_Mod_readLike_109 : decode b_Mod_readLike 109 = .ok (.iaload, 1) := by decide +kernel
theorem d_Mod_readLike_110 : decode b_Mod_readLike 110 = .ok (.iastore, 1) := by decide +kernel
end
section
theorem d_Mod_readLike_111 : decode b_Mod_readLike 111 = .ok (.iinc 4 1, 3) := by decide +kernel
theorem d_Mod_readLike_114 : decode b_Mod_readLike 114 = .ok (.goto (-59), 3) := by decide +kernel
theorem d_Mod_readLike_117 : decode b_Mod_readLike 117 = .ok (.iconst 1, 1) := by decide +kernel
theorem d_Mod_readLike_118 : decode b_Mod_readLike 118 = .ok (.ireturn, 1) := by decide +kernel
theorem d_Mod_readRuns_0 : decode b_Mod_readRuns 0 = .ok (.aload_n 0, 1) := by decide +kernel
theorem d_Mod_readRuns_1 : decode b_Mod_readRuns 1 = .ok (.iload_n 1, 1) := by decide +kernel
theorem d_Mod_readRuns_2 : decode b_Mod_readRuns 2 = .ok (.invokevirtual 157, 3) := by decide +kernel
theorem d_Mod_readRuns_5 : decode b_Mod_readRuns 5 = .ok (.istore_n 2, 1) := by decide +kernel
theorem d_Mod_readRuns_6 : decode b_Mod_readRuns 6 = .ok (.iconst 0, 1) := by decide +kernel
theorem d_Mod_readRuns_7 : decode b_Mod_readRuns 7 = .ok (.istore_n 3, 1) := by decide +kernel
theorem d_Mod_readRuns_8 : decode b_Mod_readRuns 8 = .ok (.iconst 0, 1) := by decide +kernel
theorem d_Mod_readRuns_9 : decode b_Mod_readRuns 9 = .ok (.istore 4, 2) := by decide +kernel
theorem d_Mod_readRuns_11 : decode b_Mod_readRuns 11 = .ok (.iload 4, 2) := by decide +kernel
theorem d_Mod_readRuns_13 : decode b_Mod_readRuns 13 = .ok (.iload_n 2, 1) := by decide +kernel
theorem d_Mod_readRuns_14 : decode b_Mod_readRuns 14 = .ok (.if_icmp .ge 82, 3) := by decide +kernel
theorem d_Mod_readRuns_17 : decode b_Mod_readRuns 17 = .ok (.aload_n 0, 1) := by decide +kernel
theorem d_Mod_readRuns_18 : decode b_Mod_readRuns 18 = .ok (.iload_n 1, 1) := by decide +kernel
theorem d_Mod_readRuns_19 : decode b_Mod_readRuns 19 = .ok (.invokevirtual 157, 3) := by decide +kernel
theorem d_Mod_readRuns_22 : decode b_Mod_readRuns 22 = .ok (.istore 5, 2) := by decide +kernel
theorem d_Mod_readRuns_24 : decode b_Mod_readRuns 24 = .ok (.aload_n 0, 1) := by decide +kernel
theorem d_Mod_readRuns_25 : decode b_Mod_readRuns 25 = .ok (.iload_n 1, 1) := by decide +kernel
theorem d_Mod_readRuns_26 : decode b_Mod_readRuns 26 = .ok (.invokevirtual 160, 3) := by decide +kernel
theorem d_Mod_readRuns_29 : decode b_Mod_readRuns 29 = .ok (.istore 6, 2) := by decide +kernel
theorem d_Mod_readRuns_31 : decode b_Mod_readRuns 31 = .ok (.iload 5, 2) := by decide +kernel
theorem d_Mod_readRuns_33 : decode b_Mod_readRuns 33 = .ok (.ifCond .eq 23, 3) := by decide +kernel
theorem d_Mod_readRuns_36 : decode b_Mod_readRuns 36 = .ok (.iload_n 3, 1) := by decide +kernel
theorem d_Mod_readRuns_37 : decode b_Mod_readRuns 37 = .ok (.iload 5, 2) := by decide +kernel
theorem d_Mod_readRuns_39 : decode b_Mod_readRuns 39 = .ok (.iadd, 1) := by decide +kernel
theorem d_Mod_readRuns_40 : decode b_Mod_readRuns 40 = .ok (.bipush 64, 2) := by decide +kernel
theorem d_Mod_readRuns_42 : decode b_Mod_readRuns 42 = .ok (.if_icmp .gt 14, 3) := by decide +kernel
theorem d_Mod_readRuns_45 : decode b_Mod_readRuns 45 = .ok (.aload_n 0, 1) := by decide +kernel
theorem d_Mod_readRuns_46 : decode b_Mod_readRuns 46 = .ok (.getfield 151, 3) := by decide +kernel
theorem d_Mod_readRuns_49 : decode b_Mod_readRuns 49 = .ok (.aload_n 0, 1) := by decide +kernel
theorem d_Mod_readRuns_50 : decode b_Mod_readRuns 50 = .ok (.getfield 154, 3) := by decide +kernel
theorem d_Mod_readRuns_53 : decode b_Mod_readRuns 53 = .ok (.if_icmp .le 5, 3) := by decide +kernel
theorem d_Mod_readRuns_56 : decode b_Mod_readRuns 56 = .ok (.iconst 0, 1) := by decide +kernel
theorem d_Mod_readRuns_57 : decode b_Mod_readRuns 57 = .ok (.ireturn, 1) := by decide +kernel
theorem d_Mod_readRuns_58 : decode b_Mod_readRuns 58 = .ok (.iconst 0, 1) := by decide +kernel
theorem d_Mod_readRuns_59 : decode b_Mod_readRuns 59 = .ok (.istore 7, 2) := by decide +kernel
theorem d_Mod_readRuns_61 : decode b_Mod_readRuns 61 = .ok (.iload 7, 2) := by decide +kernel
theorem d_Mod_readRuns_63 : decode b_Mod_readRuns 63 = .ok (.iload 5, 2) := by decide +kernel
theorem d_Mod_readRuns_65 : decode b_Mod_readRuns 65 = .ok (.if_icmp .ge 20, 3) := by decide +kernel
theorem d_Mod_readRuns_68 : decode b_Mod_readRuns 68 = .ok (.aload_n 0, 1) := by decide +kernel
theorem d_Mod_readRuns_69 : decode b_Mod_readRuns 69 = .ok (.getfield 65, 3) := by decide +kernel
theorem d_Mod_readRuns_72 : decode b_Mod_readRuns 72 = .ok (.iload_n 3, 1) := by decide +kernel
theorem d_Mod_readRuns_73 : decode b_Mod_readRuns 73 = .ok (.iload 7, 2) := by decide +kernel
theorem d_Mod_readRuns_75 : decode b_Mod_readRuns 75 = .ok (.iadd, 1) := by decide +kernel
theorem d_Mod_readRuns_76 : decode b_Mod_readRuns 76 = .ok (.iload 6, 2) := by decide +kernel
theorem d_Mod_readRuns_78 : decode b_Mod_readRuns 78 = .ok (.iastore, 1) := by decide +kernel
theorem d_Mod_readRuns_79 : decode b_Mod_readRuns 79 = .ok (.iinc 7 1, 3) := by decide +kernel
theorem d_Mod_readRuns_82 : decode b_Mod_readRuns 82 = .ok (.goto (-21), 3) := by decide +kernel
theorem d_Mod_readRuns_85 : decode b_Mod_readRuns 85 = .ok (.iload_n 3, 1) := by decide +kernel
theorem d_Mod_readRuns_86 : decode b_Mod_readRuns 86 = .ok (.iload 5, 2) := by decide +kernel
theorem d_Mod_readRuns_88 : decode b_Mod_readRuns 88 = .ok (.iadd, 1) := by decide +kernel
theorem d_Mod_readRuns_89 : decode b_Mod_readRuns 89 = .ok (.istore_n 3, 1) := by decide +kernel
theorem d_Mod_readRuns_90 : decode b_Mod_readRuns 90 = .ok (.iinc 4 1, 3) := by decide +kernel
theorem d_Mod_readRuns_93 : decode b_Mod_readRuns 93 = .ok (.goto (-82), 3) := by decide +kernel
theorem d_Mod_readRuns_96 : decode b_Mod_readRuns 96 = .ok (.iload_n 3, 1) := by decide +kernel
theorem d_Mod_readRuns_97 : decode b_Mod_readRuns 97 = .ok (.bipush 64, 2) := by decide +kernel
theorem d_Mod_readRuns_99 : decode b_Mod_readRuns 99 = .ok (.if_icmp .ne 18, 3) := by decide +kernel
theorem d_Mod_readRuns_102 : decode b_Mod_readRuns 102 = .ok (.aload_n 0, 1) := by decide +kernel
theorem d_Mod_readRuns_103 : decode b_Mod_readRuns 103 = .ok (.getfield 151, 3) := by decide +kernel
theorem d_Mod_readRuns_106 : decode b_Mod_readRuns 106 = .ok (.aload_n 0, 1) := by decide +kernel
theorem d_Mod_readRuns_107 : decode b_Mod_readRuns 107 = .ok (.getfield 154, 3) := by decide +kernel
theorem d_Mod_readRuns_110 : decode b_Mod_readRuns 110 = .ok (.if_icmp .gt 7, 3) := by decide +kernel
theorem d_Mod_readRuns_113 : decode b_Mod_readRuns 113 = .ok (.iconst 1, 1) := by decide +kernel
theorem d_Mod_readRuns_114 : decode b_Mod_readRuns 114 = .ok (.goto 4, 3) := by decide +kernel
theorem d_Mod_readRuns_117 : decode b_Mod_readRuns 117 = .ok (.iconst 0, 1) := by decide +kernel
theorem d_Mod_readRuns_118 : decode b_Mod_readRuns 118 = .ok (.ireturn, 1) := by decide +kernel
theorem d_Mod_whole_0 : decode b_Mod_whole 0 = .ok (.aload_n 0, 1) := by decide +kernel
theorem d_Mod_whole_1 : decode b_Mod_whole 1 = .ok (.aload_n 0, 1) := by decide +kernel
theorem d_Mod_whole_2 : decode b_Mod_whole 2 = .ok (.getfield 53, 3) := by decide +kernel
theorem d_Mod_whole_5 : decode b_Mod_whole 5 = .ok (.iload_n 1, 1) := by decide +kernel
theorem d_Mod_whole_6 : decode b_Mod_whole 6 = .ok (.iaload, 1) := by decide +kernel
theorem d_Mod_whole_7 : decode b_Mod_whole 7 = .ok (.iconst 2, 1) := by decide +kernel
theorem d_Mod_whole_8 : decode b_Mod_whole 8 = .ok (.isub, 1) := by decide +kernel
theorem d_Mod_whole_9 : decode b_Mod_whole 9 = .ok (.putfield 154, 3) := by decide +kernel
theorem d_Mod_whole_12 : decode b_Mod_whole 12 = .ok (.iconst 0, 1) := by decide +kernel
theorem d_Mod_whole_13 : decode b_Mod_whole 13 = .ok (.istore_n 2, 1) := by decide +kernel
theorem d_Mod_whole_14 : decode b_Mod_whole 14 = .ok (.iconst 3, 1) := by decide +kernel
theorem d_Mod_whole_15 : decode b_Mod_whole 15 = .ok (.istore_n 3, 1) := by decide +kernel
theorem d_Mod_whole_16 : decode b_Mod_whole 16 = .ok (.iload_n 3, 1) := by decide +kernel
theorem d_Mod_whole_17 : decode b_Mod_whole 17 = .ok (.aload_n 0, 1) := by decide +kernel
theorem d_Mod_whole_18 : decode b_Mod_whole 18 = .ok (.getfield 154, 3) := by decide +kernel
theorem d_Mod_whole_21 : decode b_Mod_whole 21 = .ok (.if_icmp .ge 24, 3) := by decide +kernel
theorem d_Mod_whole_24 : decode b_Mod_whole 24 = .ok (.iload_n 2, 1) := by decide +kernel
theorem d_Mod_whole_25 : decode b_Mod_whole 25 = .ok (.aload_n 0, 1) := by decide +kernel
theorem d_Mod_whole_26 : decode b_Mod_whole 26 = .ok (.getfield 50, 3) := by decide +kernel
theorem d_Mod_whole_29 : decode b_Mod_whole 29 = .ok (.sipush 6247, 3) := by decide +kernel
theorem d_Mod_whole_32 : decode b_Mod_whole 32 = .ok (.iload_n 1, 1) := by decide +kernel
theorem d_Mod_whole_33 : decode b_Mod_whole 33 = .ok (.imul, 1) := by decide +kernel
theorem d_Mod_whole_34 : decode b_Mod_whole 34 = .ok (.iload_n 3, 1) := by decide +kernel
theorem d_Mod_whole_35 : decode b_Mod_whole 35 = .ok (.iadd, 1) := by decide +kernel
theorem d_Mod_whole_36 : decode b_Mod_whole 36 = .ok (.iaload, 1) := by decide +kernel
theorem d_Mod_whole_37 : decode b_Mod_whole 37 = .ok (.iadd, 1) := by decide +kernel
theorem d_Mod_whole_38 : decode b_Mod_whole 38 = .ok (.istore_n 2, 1) := by decide +kernel
theorem d_Mod_whole_39 : decode b_Mod_whole 39 = .ok (.iinc 3 1, 3) := by decide +kernel
theorem d_Mod_whole_42 : decode b_Mod_whole 42 = .ok (.goto (-26), 3) := by decide +kernel
theorem d_Mod_whole_45 : decode b_Mod_whole 45 = .ok (.iload_n 2, 1) := by decide +kernel
theorem d_Mod_whole_46 : decode b_Mod_whole 46 = .ok (.ldc 82, 2) := by decide +kernel
theorem d_Mod_whole_48 : decode b_Mod_whole 48 = .ok (.irem, 1) := by decide +kernel
theorem d_Mod_whole_49 : decode b_Mod_whole 49 = .ok (.sipush 256, 3) := by decide +kernel
theorem d_Mod_whole_52 : decode b_Mod_whole 52 = .ok (.aload_n 0, 1) := by decide +kernel
theorem d_Mod_whole_53 : decode b_Mod_whole 53 = .ok (.getfield 50, 3) := by decide +kernel
theorem d_Mod_whole_56 : decode b_Mod_whole 56 = .ok (.sipush 6247, 3) := by decide +kernel
theorem d_Mod_whole_59 : decode b_Mod_whole 59 = .ok (.iload_n 1, 1) := by decide +kernel
theorem d_Mod_whole_60 : decode b_Mod_whole 60 = .ok (.imul, 1) := by decide +kernel
theorem d_Mod_whole_61 : decode b_Mod_whole 61 = .ok (.aload_n 0, 1) := by decide +kernel
theorem d_Mod_whole_62 : decode b_Mod_whole 62 = .ok (.getfield 154, 3) := by decide +kernel
theorem d_Mod_whole_65 : decode b_Mod_whole 65 = .ok (.iadd, 1) := by decide +kernel
theorem d_Mod_whole_66 : decode b_Mod_whole 66 = .ok (.iaload, 1) := by decide +kernel
theorem d_Mod_whole_67 : decode b_Mod_whole 67 = .ok (.imul, 1) := by decide +kernel
theorem d_Mod_whole_68 : decode b_Mod_whole 68 = .ok (.aload_n 0, 1) := by decide +kernel
theorem d_Mod_whole_69 : decode b_Mod_whole 69 = .ok (.getfield 50, 3) := by decide +kernel
theorem d_Mod_whole_72 : decode b_Mod_whole 72 = .ok (.sipush 6247, 3) := by decide +kernel
theorem d_Mod_whole_75 : decode b_Mod_whole 75 = .ok (.iload_n 1, 1) := by decide +kernel
theorem d_Mod_whole_76 : decode b_Mod_whole 76 = .ok (.imul, 1) := by decide +kernel
theorem d_Mod_whole_77 : decode b_Mod_whole 77 = .ok (.aload_n 0, 1) := by decide +kernel
theorem d_Mod_whole_78 : decode b_Mod_whole 78 = .ok (.getfield 154, 3) := by decide +kernel
theorem d_Mod_whole_81 : decode b_Mod_whole 81 = .ok (.iadd, 1) := by decide +kernel
theorem d_Mod_whole_82 : decode b_Mod_whole 82 = .ok (.iconst 1, 1) := by decide +kernel
theorem d_Mod_whole_83 : decode b_Mod_whole 83 = .ok (.iadd, 1) := by decide +kernel
theorem d_Mod_whole_84 : decode b_Mod_whole 84 = .ok (.iaload, 1) := by decide +kernel
theorem d_Mod_whole_85 : decode b_Mod_whole 85 = .ok (.iadd, 1) := by decide +kernel
theorem d_Mod_whole_86 : decode b_Mod_whole 86 = .ok (.if_icmp .eq 5, 3) := by decide +kernel
theorem d_Mod_whole_89 : decode b_Mod_whole 89 = .ok (.iconst 0, 1) := by decide +kernel
theorem d_Mod_whole_90 : decode b_Mod_whole 90 = .ok (.ireturn, 1) := by decide +kernel
theorem d_Mod_whole_91 : decode b_Mod_whole 91 = .ok (.aload_n 0, 1) := by decide +kernel
theorem d_Mod_whole_92 : decode b_Mod_whole 92 = .ok (.bipush 8, 2) := by decide +kernel
theorem d_Mod_whole_94 : decode b_Mod_whole 94 = .ok (.iconst 2, 1) := by decide +kernel
theorem d_Mod_whole_95 : decode b_Mod_whole 95 = .ok (.iload_n 1, 1) := by decide +kernel
theorem d_Mod_whole_96 : decode b_Mod_whole 96 = .ok (.iadd, 1) := by decide +kernel
theorem d_Mod_whole_97 : decode b_Mod_whole 97 = .ok (.invokevirtual 91, 3) := by decide +kernel
theorem d_Mod_whole_100 : decode b_Mod_whole 100 = .ok (.aload_n 0, 1) := by decide +kernel
theorem d_Mod_whole_101 : decode b_Mod_whole 101 = .ok (.iconst 3, 1) := by decide +kernel
theorem d_Mod_whole_102 : decode b_Mod_whole 102 = .ok (.putfield 151, 3) := by decide +kernel
theorem d_Mod_whole_105 : decode b_Mod_whole 105 = .ok (.aload_n 0, 1) := by decide +kernel
theorem d_Mod_whole_106 : decode b_Mod_whole 106 = .ok (.iload_n 1, 1) := by decide +kernel
theorem d_Mod_whole_107 : decode b_Mod_whole 107 = .ok (.invokevirtual 160, 3) := by decide +kernel
theorem d_Mod_whole_110 : decode b_Mod_whole 110 = .ok (.istore_n 3, 1) := by decide +kernel
theorem d_Mod_whole_111 : decode b_Mod_whole 111 = .ok (.aload_n 0, 1) := by decide +kernel
theorem d_Mod_whole_112 : decode b_Mod_whole 112 = .ok (.getfield 151, 3) := by decide +kernel
theorem d_Mod_whole_115 : decode b_Mod_whole 115 = .ok (.aload_n 0, 1) := by decide +kernel
theorem d_Mod_whole_116 : decode b_Mod_whole 116 = .ok (.getfield 154, 3) := by decide +kernel
theorem d_Mod_whole_119 : decode b_Mod_whole 119 = .ok (.if_icmp .ge 107, 3) := by decide +kernel
theorem d_Mod_whole_122 : decode b_Mod_whole 122 = .ok (.aload_n 0, 1) := by decide +kernel
theorem d_Mod_whole_123 : decode b_Mod_whole 123 = .ok (.iload_n 1, 1) := by decide +kernel
theorem d_Mod_whole_124 : decode b_Mod_whole 124 = .ok (.invokevirtual 157, 3) := by decide +kernel
theorem d_Mod_whole_127 : decode b_Mod_whole 127 = .ok (.istore 4, 2) := by decide +kernel
theorem d_Mod_whole_129 : decode b_Mod_whole 129 = .ok (.aload_n 0, 1) := by decide +kernel
theorem d_Mod_whole_130 : decode b_Mod_whole 130 = .ok (.iload_n 1, 1) := by decide +kernel
theorem d_Mod_whole_131 : decode b_Mod_whole 131 = .ok (.invokevirtual 157, 3) := by decide +kernel
theorem d_Mod_whole_134 : decode b_Mod_whole 134 = .ok (.istore 5, 2) := by decide +kernel
theorem d_Mod_whole_136 : decode b_Mod_whole 136 = .ok (.aload_n 0, 1) := by decide +kernel
theorem d_Mod_whole_137 : decode b_Mod_whole 137 = .ok (.getfield 151, 3) := by decide +kernel
theorem d_Mod_whole_140 : decode b_Mod_whole 140 = .ok (.aload_n 0, 1) := by decide +kernel
theorem d_Mod_whole_141 : decode b_Mod_whole 141 = .ok (.getfield 154, 3) := by decide +kernel
theorem d_Mod_whole_144 : decode b_Mod_whole 144 = .ok (.if_icmp .gt 27, 3) := by decide +kernel
theorem d_Mod_whole_147 : decode b_Mod_whole 147 = .ok (.iload 4, 2) := by decide +kernel
theorem d_Mod_whole_149 : decode b_Mod_whole 149 = .ok (.bipush 6, 2) := by decide +kernel
theorem d_Mod_whole_151 : decode b_Mod_whole 151 = .ok (.if_icmp .gt 20, 3) := by decide +kernel
theorem d_Mod_whole_154 : decode b_Mod_whole 154 = .ok (.iload 5, 2) := by decide +kernel
theorem d_Mod_whole_156 : decode b_Mod_whole 156 = .ok (.bipush 48, 2) := by decide +kernel
theorem d_Mod_whole_158 : decode b_Mod_whole 158 = .ok (.if_icmp .ge 13, 3) := by decide +kernel
theorem d_Mod_whole_161 : decode b_Mod_whole 161 = .ok (.aload_n 0, 1) := by decide +kernel
theorem d_Mod_whole_162 : decode b_Mod_whole 162 = .ok (.iload_n 1, 1) := by decide +kernel
theorem d_Mod_whole_163 : decode b_Mod_whole 163 = .ok (.iload 4, 2) := by decide +kernel
theorem d_Mod_whole_165 : decode b_Mod_whole 165 = .ok (.invokevirtual 169, 3) := by decide +kernel
theorem d_Mod_whole_168 : decode b_Mod_whole 168 = .ok (.ifCond .ne 5, 3) := by decide +kernel
theorem d_Mod_whole_171 : decode b_Mod_whole 171 = .ok (.iconst 0, 1) := by decide +kernel
theorem d_Mod_whole_172 : decode b_Mod_whole 172 = .ok (.ireturn, 1) := by decide +kernel
theorem d_Mod_whole_173 : decode b_Mod_whole 173 = .ok (.iconst 0, 1) := by decide +kernel
theorem d_Mod_whole_174 : decode b_Mod_whole 174 = .ok (.istore 6, 2) := by decide +kernel
theorem d_Mod_whole_176 : decode b_Mod_whole 176 = .ok (.iload 6, 2) := by decide +kernel
theorem d_Mod_whole_178 : decode b_Mod_whole 178 = .ok (.bipush 64, 2) := by decide +kernel
theorem d_Mod_whole_180 : decode b_Mod_whole 180 = .ok (.if_icmp .ge 30, 3) := by decide +kernel
theorem d_Mod_whole_183 : decode b_Mod_whole 183 = .ok (.aload_n 0, 1) := by decide +kernel
theorem d_Mod_whole_184 : decode b_Mod_whole 184 = .ok (.getfield 7, 3) := by decide +kernel
theorem d_Mod_whole_187 : decode b_Mod_whole 187 = .ok (.bipush 8, 2) := by decide +kernel
theorem d_Mod_whole_189 : decode b_Mod_whole 189 = .ok (.iload 5, 2) := by decide +kernel
theorem d_Mod_whole_191 : decode b_Mod_whole 191 = .ok (.iload 6, 2) := by decide +kernel
theorem d_Mod_whole_193 : decode b_Mod_whole 193 = .ok (.invokestatic 78, 3) := by decide +kernel
theorem d_Mod_whole_196 : decode b_Mod_whole 196 = .ok (.aload_n 0, 1) := by decide +kernel
theorem d_Mod_whole_197 : decode b_Mod_whole 197 = .ok (.getfield 65, 3) := by decide +kernel
theorem d_Mod_whole_200 : decode b_Mod_whole 200 = .ok (.iload 6, 2) := by decide +kernel
theorem d_Mod_whole_202 : decode b_Mod_whole 202 = .ok (.iaload, 1) := by decide +kernel
theorem d_Mod_whole_203 : decode b_Mod_whole 203 = .ok (.iastore, 1) := by decide +kernel
theorem d_Mod_whole_204 : decode b_Mod_whole 204 = .ok (.iinc 6 1, 3) := by decide +kernel
theorem d_Mod_whole_207 : decode b_Mod_whole 207 = .ok (.goto (-31), 3) := by decide +kernel
theorem d_Mod_whole_210 : decode b_Mod_whole 210 = .ok (.iload 4, 2) := by decide +kernel
theorem d_Mod_whole_212 : decode b_Mod_whole 212 = .ok (.iconst 2, 1) := by decide +kernel
theorem d_Mod_whole_213 : decode b_Mod_whole 213 = .ok (.if_icmp .le 10, 3) := by decide +kernel
theorem d_Mod_whole_216 : decode b_Mod_whole 216 = .ok (.aload_n 0, 1) := by decide +kernel
theorem d_Mod_whole_217 : decode b_Mod_whole 217 = .ok (.iconst 3, 1) := by decide +kernel
theorem d_Mod_whole_218 : decode b_Mod_whole 218 = .ok (.iload_n 1, 1) := by decide +kernel
theorem d_Mod_whole_219 : decode b_Mod_whole 219 = .ok (.iadd, 1) := by decide +kernel
theorem d_Mod_whole_220 : decode b_Mod_whole 220 = .ok (.invokevirtual 148, 3) := by decide +kernel
theorem d_Mod_whole_223 : decode b_Mod_whole 223 = .ok (.goto (-112), 3) := by decide +kernel
theorem d_Mod_whole_226 : decode b_Mod_whole 226 = .ok (.aload_n 0, 1) := by decide +kernel
theorem d_Mod_whole_227 : decode b_Mod_whole 227 = .ok (.iconst 2, 1) := by decide +kernel
theorem d_Mod_whole_228 : decode b_Mod_whole 228 = .ok (.iload_n 1, 1) := by decide +kernel
theorem d_Mod_whole_229 : decode b_Mod_whole 229 = .ok (.iadd, 1) := by decide +kernel
theorem d_Mod_whole_230 : decode b_Mod_whole 230 = .ok (.bipush 8, 2) := by decide +kernel
theorem d_Mod_whole_232 : decode b_Mod_whole 232 = .ok (.invokevirtual 91, 3) := by decide +kernel
theorem d_Mod_whole_235 : decode b_Mod_whole 235 = .ok (.aload_n 0, 1) := by decide +kernel
theorem d_Mod_whole_236 : decode b_Mod_whole 236 = .ok (.getfield 26, 3) := by decide +kernel
theorem d_Mod_whole_239 : decode b_Mod_whole 239 = .ok (.iload_n 1, 1) := by decide +kernel
theorem d_Mod_whole_240 : decode b_Mod_whole 240 = .ok (.dup2, 1) := by decide +kernel
theorem d_Mod_whole_241 : decode b_Mod_whole 241 = .ok (.iaload, 1) := by decide +kernel
theorem d_Mod_whole_242 : decode b_Mod_whole 242 = .ok (.iconst 1, 1) := by decide +kernel
theorem d_Mod_whole_243 : decode b_Mod_whole 243 = .ok (.iadd, 1) := by decide +kernel
theorem d_Mod_whole_244 : decode b_Mod_whole 244 = .ok (.iastore, 1) := by decide +kernel
theorem d_Mod_whole_245 : decode b_Mod_whole 245 = .ok (.aload_n 0, 1) := by decide +kernel
theorem d_Mod_whole_246 : decode b_Mod_whole 246 = .ok (.getfield 26, 3) := by decide +kernel
theorem d_Mod_whole_249 : decode b_Mod_whole 249 = .ok (.iload_n 1, 1) := by decide +kernel
theorem d_Mod_whole_250 : decode b_Mod_whole 250 = .ok (.iaload, 1) := by decide +kernel
theorem d_Mod_whole_251 : decode b_Mod_whole 251 = .ok (.ldc 82, 2) := by decide +kernel
theorem d_Mod_whole_253 : decode b_Mod_whole 253 = .ok (.irem, 1) := by decide +kernel
theorem d_Mod_whole_254 : decode b_Mod_whole 254 = .ok (.iload_n 3, 1) := by decide +kernel
theorem d_Mod_whole_255 : decode b_Mod_whole 255 = .ok (.if_icmp .eq 16, 3) := by decide +kernel
theorem d_Mod_whole_258 : decode b_Mod_whole 258 = .ok (.aload_n 0, 1) := by decide +kernel
theorem d_Mod_whole_259 : decode b_Mod_whole 259 = .ok (.getfield 26, 3) := by decide +kernel
theorem d_Mod_whole_262 : decode b_Mod_whole 262 = .ok (.iload_n 1, 1) := by decide +kernel
theorem d_Mod_whole_263 : decode b_Mod_whole 263 = .ok (.dup2, 1) := by decide +kernel
theorem d_Mod_whole_264 : decode b_Mod_whole 264 = .ok (.iaload, 1) := by decide +kernel
theorem d_Mod_whole_265 : decode b_Mod_whole 265 = .ok (.iconst 1, 1) := by decide +kernel
theorem d_Mod_whole_266 : decode b_Mod_whole 266 = .ok (.iadd, 1) := by decide +kernel
theorem d_Mod_whole_267 : decode b_Mod_whole 267 = .ok (.iastore, 1) := by decide +kernel
theorem d_Mod_whole_268 : decode b_Mod_whole 268 = .ok (.goto (-23), 3) := by decide +kernel
theorem d_Mod_whole_271 : decode b_Mod_whole 271 = .ok (.aload_n 0, 1) := by decide +kernel
theorem d_Mod_whole_272 : decode b_Mod_whole 272 = .ok (.getfield 53, 3) := by decide +kernel
theorem d_Mod_whole_275 : decode b_Mod_whole 275 = .ok (.iload_n 1, 1) := by decide +kernel
theorem d_Mod_whole_276 : decode b_Mod_whole 276 = .ok (.iconst 0, 1) := by decide +kernel
theorem d_Mod_whole_277 : decode b_Mod_whole 277 = .ok (.iastore, 1) := by decide +kernel
theorem d_Mod_whole_278 : decode b_Mod_whole 278 = .ok (.iconst 1, 1) := by decide +kernel
theorem d_Mod_whole_279 : decode b_Mod_whole 279 = .ok (.ireturn, 1) := by decide +kernel
theorem d_Mod_take_0 : decode b_Mod_take 0 = .ok (.iload_n 2, 1) := by decide +kernel
theorem d_Mod_take_1 : decode b_Mod_take 1 = .ok (.istore_n 3, 1) := by decide +kernel
theorem d_Mod_take_2 : decode b_Mod_take 2 = .ok (.iconst 0, 1) := by decide +kernel
theorem d_Mod_take_3 : decode b_Mod_take 3 = .ok (.istore 4, 2) := by decide +kernel
theorem d_Mod_take_5 : decode b_Mod_take 5 = .ok (.iconst 0, 1) := by decide +kernel
theorem d_Mod_take_6 : decode b_Mod_take 6 = .ok (.istore 5, 2) := by decide +kernel
theorem d_Mod_take_8 : decode b_Mod_take 8 = .ok (.iload 5, 2) := by decide +kernel
theorem d_Mod_take_10 : decode b_Mod_take 10 = .ok (.aload_n 0, 1) := by decide +kernel
theorem d_Mod_take_11 : decode b_Mod_take 11 = .ok (.getfield 62, 3) := by decide +kernel
theorem d_Mod_take_14 : decode b_Mod_take 14 = .ok (.iload_n 1, 1) := by decide +kernel
theorem d_Mod_take_15 : decode b_Mod_take 15 = .ok (.iaload, 1) := by decide +kernel
theorem d_Mod_take_16 : decode b_Mod_take 16 = .ok (.if_icmp .ge 89, 3) := by decide +kernel
theorem d_Mod_take_19 : decode b_Mod_take 19 = .ok (.aload_n 0, 1) := by decide +kernel
theorem d_Mod_take_20 : decode b_Mod_take 20 = .ok (.getfield 56, 3) := by decide +kernel
theorem d_Mod_take_23 : decode b_Mod_take 23 = .ok (.bipush 8, 2) := by decide +kernel
theorem d_Mod_take_25 : decode b_Mod_take 25 = .ok (.iload_n 1, 1) := by decide +kernel
theorem d_Mod_take_26 : decode b_Mod_take 26 = .ok (.imul, 1) := by decide +kernel
theorem d_Mod_take_27 : decode b_Mod_take 27 = .ok (.iload 5, 2) := by decide +kernel
theorem d_Mod_take_29 : decode b_Mod_take 29 = .ok (.iadd, 1) := by decide +kernel
theorem d_Mod_take_30 : decode b_Mod_take 30 = .ok (.iaload, 1) := by decide +kernel
theorem d_Mod_take_31 : decode b_Mod_take 31 = .ok (.iconst 1, 1) := by decide +kernel
theorem d_Mod_take_32 : decode b_Mod_take 32 = .ok (.isub, 1) := by decide +kernel
theorem d_Mod_take_33 : decode b_Mod_take 33 = .ok (.istore 6, 2) := by decide +kernel
theorem d_Mod_take_35 : decode b_Mod_take 35 = .ok (.iload 6, 2) := by decide +kernel
theorem d_Mod_take_37 : decode b_Mod_take 37 = .ok (.ifCond .ne 21, 3) := by decide +kernel
theorem d_Mod_take_40 : decode b_Mod_take 40 = .ok (.iload_n 3, 1) := by decide +kernel
theorem d_Mod_take_41 : decode b_Mod_take 41 = .ok (.aload_n 0, 1) := by decide +kernel
theorem d_Mod_take_42 : decode b_Mod_take 42 = .ok (.getfield 59, 3) := by decide +kernel
theorem d_Mod_take_45 : decode b_Mod_take 45 = .ok (.bipush 8, 2) := by decide +kernel
theorem d_Mod_take_47 : decode b_Mod_take 47 = .ok (.iload_n 1, 1) := by decide +kernel
theorem d_Mod_take_48 : decode b_Mod_take 48 = .ok (.imul, 1) := by decide +kernel
theorem d_Mod_take_49 : decode b_Mod_take 49 = .ok (.iload 5, 2) := by decide +kernel
theorem d_Mod_take_51 : decode b_Mod_take 51 = .ok (.iadd, 1) := by decide +kernel
theorem d_Mod_take_52 : decode b_Mod_take 52 = .ok (.iaload, 1) := by decide +kernel
theorem d_Mod_take_53 : decode b_Mod_take 53 = .ok (.ixor, 1) := by decide +kernel
theorem d_Mod_take_54 : decode b_Mod_take 54 = .ok (.istore_n 3, 1) := by decide +kernel
theorem d_Mod_take_55 : decode b_Mod_take 55 = .ok (.goto 44, 3) := by decide +kernel
theorem d_Mod_take_58 : decode b_Mod_take 58 = .ok (.aload_n 0, 1) := by decide +kernel
theorem d_Mod_take_59 : decode b_Mod_take 59 = .ok (.getfield 56, 3) := by decide +kernel
theorem d_Mod_take_62 : decode b_Mod_take 62 = .ok (.bipush 8, 2) := by decide +kernel
theorem d_Mod_take_64 : decode b_Mod_take 64 = .ok (.iload_n 1, 1) := by decide +kernel
theorem d_Mod_take_65 : decode b_Mod_take 65 = .ok (.imul, 1) := by decide +kernel
theorem d_Mod_take_66 : decode b_Mod_take 66 = .ok (.iload 4, 2) := by decide +kernel
theorem d_Mod_take_68 : decode b_Mod_take 68 = .ok (.iadd, 1) := by decide +kernel
theorem d_Mod_take_69 : decode b_Mod_take 69 = .ok (.iload 6, 2) := by decide +kernel
theorem d_Mod_take_71 : decode b_Mod_take 71 = .ok (.iastore, 1) := by decide +kernel
theorem d_Mod_take_72 : decode b_Mod_take 72 = .ok (.aload_n 0, 1) := by decide +kernel
theorem d_Mod_take_73 : decode b_Mod_take 73 = .ok (.getfield 59, 3) := by decide +kernel
theorem d_Mod_take_76 : decode b_Mod_take 76 = .ok (.bipush 8, 2) := by decide +kernel
theorem d_Mod_take_78 : decode b_Mod_take 78 = .ok (.iload_n 1, 1) := by decide +kernel
theorem d_Mod_take_79 : decode b_Mod_take 79 = .ok (.imul, 1) := by decide +kernel
theorem d_Mod_take_80 : decode b_Mod_take 80 = .ok (.iload 4, 2) := by decide +kernel
theorem d_Mod_take_82 : decode b_Mod_take 82 = .ok (.iadd, 1) := by decide +kernel
theorem d_Mod_take_83 : decode b_Mod_take 83 = .ok (.aload_n 0, 1) := by decide +kernel
theorem d_Mod_take_84 : decode b_Mod_take 84 = .ok (.getfield 59, 3) := by decide +kernel
theorem d_Mod_take_87 : decode b_Mod_take 87 = .ok (.bipush 8, 2) := by decide +kernel
theorem d_Mod_take_89 : decode b_Mod_take 89 = .ok (.iload_n 1, 1) := by decide +kernel
theorem d_Mod_take_90 : decode b_Mod_take 90 = .ok (.imul, 1) := by decide +kernel
theorem d_Mod_take_91 : decode b_Mod_take 91 = .ok (.iload 5, 2) := by decide +kernel
theorem d_Mod_take_93 : decode b_Mod_take 93 = .ok (.iadd, 1) := by decide +kernel
theorem d_Mod_take_94 : decode b_Mod_take 94 = .ok (.iaload, 1) := by decide +kernel
theorem d_Mod_take_95 : decode b_Mod_take 95 = .ok (.iastore, 1) := by decide +kernel
theorem d_Mod_take_96 : decode b_Mod_take 96 = .ok (.iinc 4 1, 3) := by decide +kernel
theorem d_Mod_take_99 : decode b_Mod_take 99 = .ok (.iinc 5 1, 3) := by decide +kernel
theorem d_Mod_take_102 : decode b_Mod_take 102 = .ok (.goto (-94), 3) := by decide +kernel
theorem d_Mod_take_105 : decode b_Mod_take 105 = .ok (.aload_n 0, 1) := by decide +kernel
theorem d_Mod_take_106 : decode b_Mod_take 106 = .ok (.getfield 62, 3) := by decide +kernel
theorem d_Mod_take_109 : decode b_Mod_take 109 = .ok (.iload_n 1, 1) := by decide +kernel
theorem d_Mod_take_110 : decode b_Mod_take 110 = .ok (.iload 4, 2) := by decide +kernel
theorem d_Mod_take_112 : decode b_Mod_take 112 = .ok (.iastore, 1) := by decide +kernel
theorem d_Mod_take_113 : decode b_Mod_take 113 = .ok (.aload_n 0, 1) := by decide +kernel
theorem d_Mod_take_114 : decode b_Mod_take 114 = .ok (.getfield 50, 3) := by decide +kernel
theorem d_Mod_take_117 : decode b_Mod_take 117 = .ok (.sipush 6247, 3) := by decide +kernel
theorem d_Mod_take_120 : decode b_Mod_take 120 = .ok (.iload_n 1, 1) := by decide +kernel
theorem d_Mod_take_121 : decode b_Mod_take 121 = .ok (.imul, 1) := by decide +kernel
theorem d_Mod_take_122 : decode b_Mod_take 122 = .ok (.aload_n 0, 1) := by decide +kernel
theorem d_Mod_take_123 : decode b_Mod_take 123 = .ok (.getfield 53, 3) := by decide +kernel
theorem d_Mod_take_126 : decode b_Mod_take 126 = .ok (.iload_n 1, 1) := by decide +kernel
theorem d_Mod_take_127 : decode b_Mod_take 127 = .ok (.iaload, 1) := by decide +kernel
theorem d_Mod_take_128 : decode b_Mod_take 128 = .ok (.iadd, 1) := by decide +kernel
theorem d_Mod_take_129 : decode b_Mod_take 129 = .ok (.iload_n 3, 1) := by decide +kernel
theorem d_Mod_take_130 : decode b_Mod_take 130 = .ok (.iastore, 1) := by decide +kernel
theorem d_Mod_take_131 : decode b_Mod_take 131 = .ok (.aload_n 0, 1) := by decide +kernel
theorem d_Mod_take_132 : decode b_Mod_take 132 = .ok (.getfield 53, 3) := by decide +kernel
theorem d_Mod_take_135 : decode b_Mod_take 135 = .ok (.iload_n 1, 1) := by decide +kernel
theorem d_Mod_take_136 : decode b_Mod_take 136 = .ok (.dup2, 1) := by decide +kernel
theorem d_Mod_take_137 : decode b_Mod_take 137 = .ok (.iaload, 1) := by decide +kernel
theorem d_Mod_take_138 : decode b_Mod_take 138 = .ok (.iconst 1, 1) := by decide +kernel
theorem d_Mod_take_139 : decode b_Mod_take 139 = .ok (.iadd, 1) := by decide +kernel
theorem d_Mod_take_140 : decode b_Mod_take 140 = .ok (.iastore, 1) := by decide +kernel
theorem d_Mod_take_141 : decode b_Mod_take 141 = .ok (.aload_n 0, 1) := by decide +kernel
theorem d_Mod_take_142 : decode b_Mod_take 142 = .ok (.getfield 53, 3) := by decide +kernel
theorem d_Mod_take_145 : decode b_Mod_take 145 = .ok (.iload_n 1, 1) := by decide +kernel
theorem d_Mod_take_146 : decode b_Mod_take 146 = .ok (.iaload, 1) := by decide +kernel
theorem d_Mod_take_147 : decode b_Mod_take 147 = .ok (.iconst 3, 1) := by decide +kernel
theorem d_Mod_take_148 : decode b_Mod_take 148 = .ok (.if_icmp .ge 5, 3) := by decide +kernel
theorem d_Mod_take_151 : decode b_Mod_take 151 = .ok (.iconst 1, 1) := by decide +kernel
theorem d_Mod_take_152 : decode b_Mod_take 152 = .ok (.ireturn, 1) := by decide +kernel
theorem d_Mod_take_153 : decode b_Mod_take 153 = .ok (.ldc 82, 2) := by decide +kernel
theorem d_Mod_take_155 : decode b_Mod_take 155 = .ok (.aload_n 0, 1) := by decide +kernel
theorem d_Mod_take_156 : decode b_Mod_take 156 = .ok (.getfield 50, 3) := by decide +kernel
theorem d_Mod_take_159 : decode b_Mod_take 159 = .ok (.sipush 6247, 3) := by decide +kernel
theorem d_Mod_take_162 : decode b_Mod_take 162 = .ok (.iload_n 1, 1) := by decide +kernel
theorem d_Mod_take_163 : decode b_Mod_take 163 = .ok (.imul, 1) := by decide +kernel
theorem d_Mod_take_164 : decode b_Mod_take 164 = .ok (.iaload, 1) := by decide +kernel
theorem d_Mod_take_165 : decode b_Mod_take 165 = .ok (.imul, 1) := by decide +kernel
theorem d_Mod_take_166 : decode b_Mod_take 166 = .ok (.sipush 256, 3) := by decide +kernel
theorem d_Mod_take_169 : decode b_Mod_take 169 = .ok (.aload_n 0, 1) := by decide +kernel
theorem d_Mod_take_170 : decode b_Mod_take 170 = .ok (.getfield 50, 3) := by decide +kernel
theorem d_Mod_take_173 : decode b_Mod_take 173 = .ok (.sipush 6247, 3) := by decide +kernel
theorem d_Mod_take_176 : decode b_Mod_take 176 = .ok (.iload_n 1, 1) := by decide +kernel
theorem d_Mod_take_177 : decode b_Mod_take 177 = .ok (.imul, 1) := by decide +kernel
theorem d_Mod_take_178 : decode b_Mod_take 178 = .ok (.iconst 1, 1) := by decide +kernel
theorem d_Mod_take_179 : decode b_Mod_take 179 = .ok (.iadd, 1) := by decide +kernel
theorem d_Mod_take_180 : decode b_Mod_take 180 = .ok (.iaload, 1) := by decide +kernel
theorem d_Mod_take_181 : decode b_Mod_take 181 = .ok (.imul, 1) := by decide +kernel
theorem d_Mod_take_182 : decode b_Mod_take 182 = .ok (.iadd, 1) := by decide +kernel
theorem d_Mod_take_183 : decode b_Mod_take 183 = .ok (.aload_n 0, 1) := by decide +kernel
theorem d_Mod_take_184 : decode b_Mod_take 184 = .ok (.getfield 50, 3) := by decide +kernel
theorem d_Mod_take_187 : decode b_Mod_take 187 = .ok (.sipush 6247, 3) := by decide +kernel
theorem d_Mod_take_190 : decode b_Mod_take 190 = .ok (.iload_n 1, 1) := by decide +kernel
theorem d_Mod_take_191 : decode b_Mod_take 191 = .ok (.imul, 1) := by decide +kernel
theorem d_Mod_take_192 : decode b_Mod_take 192 = .ok (.iconst 2, 1) := by decide +kernel
theorem d_Mod_take_193 : decode b_Mod_take 193 = .ok (.iadd, 1) := by decide +kernel
theorem d_Mod_take_194 : decode b_Mod_take 194 = .ok (.iaload, 1) := by decide +kernel
theorem d_Mod_take_195 : decode b_Mod_take 195 = .ok (.iadd, 1) := by decide +kernel
theorem d_Mod_take_196 : decode b_Mod_take 196 = .ok (.istore 5, 2) := by decide +kernel
theorem d_Mod_take_198 : decode b_Mod_take 198 = .ok (.iload 5, 2) := by decide +kernel
theorem d_Mod_take_200 : decode b_Mod_take 200 = .ok (.iconst 4, 1) := by decide +kernel
theorem d_Mod_take_201 : decode b_Mod_take 201 = .ok (.if_icmp .lt 11, 3) := by decide +kernel
theorem d_Mod_take_204 : decode b_Mod_take 204 = .ok (.iload 5, 2) := by decide +kernel
theorem d_Mod_take_206 : decode b_Mod_take 206 = .ok (.sipush 6244, 3) := by decide +kernel
theorem d_Mod_take_209 : decode b_Mod_take 209 = .ok (.if_icmp .le 5, 3) := by decide +kernel
theorem d_Mod_take_212 : decode b_Mod_take 212 = .ok (.iconst 0, 1) := by decide +kernel
theorem d_Mod_take_213 : decode b_Mod_take 213 = .ok (.ireturn, 1) := by decide +kernel
theorem d_Mod_take_214 : decode b_Mod_take 214 = .ok (.aload_n 0, 1) := by decide +kernel
theorem d_Mod_take_215 : decode b_Mod_take 215 = .ok (.getfield 53, 3) := by decide +kernel
theorem d_Mod_take_218 : decode b_Mod_take 218 = .ok (.iload_n 1, 1) := by decide +kernel
theorem d_Mod_take_219 : decode b_Mod_take 219 = .ok (.iaload, 1) := by decide +kernel
theorem d_Mod_take_220 : decode b_Mod_take 220 = .ok (.iload 5, 2) := by decide +kernel
theorem d_Mod_take_222 : decode b_Mod_take 222 = .ok (.iconst 3, 1) := by decide +kernel
theorem d_Mod_take_223 : decode b_Mod_take 223 = .ok (.iadd, 1) := by decide +kernel
theorem d_Mod_take_224 : decode b_Mod_take 224 = .ok (.if_icmp .lt 11, 3) := by decide +kernel
theorem d_Mod_take_227 : decode b_Mod_take 227 = .ok (.aload_n 0, 1) := by decide +kernel
theorem d_Mod_take_228 : decode b_Mod_take 228 = .ok (.iload_n 1, 1) := by decide +kernel
theorem d_Mod_take_229 : decode b_Mod_take 229 = .ok (.invokevirtual 173, 3) := by decide +kernel
theorem d_Mod_take_232 : decode b_Mod_take 232 = .ok (.ifCond .eq 7, 3) := by decide +kernel
theorem d_Mod_take_235 : decode b_Mod_take 235 = .ok (.iconst 1, 1) := by decide +kernel
theorem d_Mod_take_236 : decode b_Mod_take 236 = .ok (.goto 4, 3) := by decide +kernel
theorem d_Mod_take_239 : decode b_Mod_take 239 = .ok (.iconst 0, 1) := by decide +kernel
theorem d_Mod_take_240 : decode b_Mod_take 240 = .ok (.ireturn, 1) := by decide +kernel
theorem d_Mod_pump_0 : decode b_Mod_pump 0 = .ok (.aload_n 0, 1) := by decide +kernel
theorem d_Mod_pump_1 : decode b_Mod_pump 1 = .ok (.iconst 0, 1) := by decide +kernel
theorem d_Mod_pump_2 : decode b_Mod_pump 2 = .ok (.putfield 74, 3) := by decide +kernel
theorem d_Mod_pump_5 : decode b_Mod_pump 5 = .ok (.iload_n 1, 1) := by decide +kernel
theorem d_Mod_pump_6 : decode b_Mod_pump 6 = .ok (.invokestatic 99, 3) := by decide +kernel
theorem d_Mod_pump_9 : decode b_Mod_pump 9 = .ok (.ifCond .ne 5, 3) := by decide +kernel
theorem d_Mod_pump_12 : decode b_Mod_pump 12 = .ok (.iconst (-1), 1) := by decide +kernel
theorem d_Mod_pump_13 : decode b_Mod_pump 13 = .ok (.ireturn, 1) := by decide +kernel
theorem d_Mod_pump_14 : decode b_Mod_pump 14 = .ok (.iconst 0, 1) := by decide +kernel
theorem d_Mod_pump_15 : decode b_Mod_pump 15 = .ok (.istore_n 2, 1) := by decide +kernel
theorem d_Mod_pump_16 : decode b_Mod_pump 16 = .ok (.aload_n 0, 1) := by decide +kernel
theorem d_Mod_pump_17 : decode b_Mod_pump 17 = .ok (.getfield 23, 3) := by decide +kernel
theorem d_Mod_pump_20 : decode b_Mod_pump 20 = .ok (.iload_n 1, 1) := by decide +kernel
theorem d_Mod_pump_21 : decode b_Mod_pump 21 = .ok (.baload, 1) := by decide +kernel
theorem d_Mod_pump_22 : decode b_Mod_pump 22 = .ok (.ifCond .eq 120, 3) := by decide +kernel
theorem d_Mod_pump_25 : decode b_Mod_pump 25 = .ok (.aload_n 0, 1) := by decide +kernel
theorem d_Mod_pump_26 : decode b_Mod_pump 26 = .ok (.getfield 32, 3) := by decide +kernel
theorem d_Mod_pump_29 : decode b_Mod_pump 29 = .ok (.iload_n 1, 1) := by decide +kernel
theorem d_Mod_pump_30 : decode b_Mod_pump 30 = .ok (.iaload, 1) := by decide +kernel
theorem d_Mod_pump_31 : decode b_Mod_pump 31 = .ok (.ifCond .le 111, 3) := by decide +kernel
theorem d_Mod_pump_34 : decode b_Mod_pump 34 = .ok (.aload_n 0, 1) := by decide +kernel
theorem d_Mod_pump_35 : decode b_Mod_pump 35 = .ok (.getfield 47, 3) := by decide +kernel
theorem d_Mod_pump_38 : decode b_Mod_pump 38 = .ok (.iload_n 1, 1) := by decide +kernel
theorem d_Mod_pump_39 : decode b_Mod_pump 39 = .ok (.iaload, 1) := by decide +kernel
theorem d_Mod_pump_40 : decode b_Mod_pump 40 = .ok (.aload_n 0, 1) := by decide +kernel
theorem d_Mod_pump_41 : decode b_Mod_pump 41 = .ok (.getfield 44, 3) := by decide +kernel
theorem d_Mod_pump_44 : decode b_Mod_pump 44 = .ok (.iload_n 1, 1) := by decide +kernel
theorem d_Mod_pump_45 : decode b_Mod_pump 45 = .ok (.iaload, 1) := by decide +kernel
theorem d_Mod_pump_46 : decode b_Mod_pump 46 = .ok (.if_icmp .ne 18, 3) := by decide +kernel
theorem d_Mod_pump_49 : decode b_Mod_pump 49 = .ok (.aload_n 0, 1) := by decide +kernel
theorem d_Mod_pump_50 : decode b_Mod_pump 50 = .ok (.getfield 29, 3) := by decide +kernel
theorem d_Mod_pump_53 : decode b_Mod_pump 53 = .ok (.iload_n 1, 1) := by decide +kernel
theorem d_Mod_pump_54 : decode b_Mod_pump 54 = .ok (.iaload, 1) := by decide +kernel
theorem d_Mod_pump_55 : decode b_Mod_pump 55 = .ok (.aload_n 0, 1) := by decide +kernel
theorem d_Mod_pump_56 : decode b_Mod_pump 56 = .ok (.getfield 96, 3) := by decide +kernel
theorem d_Mod_pump_59 : decode b_Mod_pump 59 = .ok (.if_icmp .ne 5, 3) := by decide +kernel
theorem d_Mod_pump_62 : decode b_Mod_pump 62 = .ok (.iload_n 2, 1) := by decide +kernel
theorem d_Mod_pump_63 : decode b_Mod_pump 63 = .ok (.ireturn, 1) := by decide +kernel
theorem d_Mod_pump_64 : decode b_Mod_pump 64 = .ok (.aload_n 0, 1) := by decide +kernel
theorem d_Mod_pump_65 : decode b_Mod_pump 65 = .ok (.getfield 47, 3) := by decide +kernel
theorem d_Mod_pump_68 : decode b_Mod_pump 68 = .ok (.iload_n 1, 1) := by decide +kernel
theorem d_Mod_pump_69 : decode b_Mod_pump 69 = .ok (.iaload, 1) := by decide +kernel
theorem d_Mod_pump_70 : decode b_Mod_pump 70 = .ok (.aload_n 0, 1) := by decide +kernel
theorem d_Mod_pump_71 : decode b_Mod_pump 71 = .ok (.getfield 44, 3) := by decide +kernel
theorem d_Mod_pump_74 : decode b_Mod_pump 74 = .ok (.iload_n 1, 1) := by decide +kernel
theorem d_Mod_pump_75 : decode b_Mod_pump 75 = .ok (.iaload, 1) := by decide +kernel
theorem d_Mod_pump_76 : decode b_Mod_pump 76 = .ok (.if_icmp .ne 8, 3) := by decide +kernel
theorem d_Mod_pump_79 : decode b_Mod_pump 79 = .ok (.aload_n 0, 1) := by decide +kernel
theorem d_Mod_pump_80 : decode b_Mod_pump 80 = .ok (.iload_n 1, 1) := by decide +kernel
theorem d_Mod_pump_81 : decode b_Mod_pump 81 = .ok (.invokevirtual 176, 3) := by decide +kernel
theorem d_Mod_pump_84 : decode b_Mod_pump 84 = .ok (.aload_n 0, 1) := by decide +kernel
theorem d_Mod_pump_85 : decode b_Mod_pump 85 = .ok (.getfield 41, 3) := by decide +kernel
theorem d_Mod_pump_88 : decode b_Mod_pump 88 = .ok (.sipush 6247, 3) := by decide +kernel
theorem d_Mod_pump_91 : decode b_Mod_pump 91 = .ok (.iload_n 1, 1) := by decide +kernel
theorem d_Mod_pump_92 : decode b_Mod_pump 92 = .ok (.imul, 1) := by decide +kernel
theorem d_Mod_pump_93 : decode b_Mod_pump 93 = .ok (.aload_n 0, 1) := by decide +kernel
theorem d_Mod_pump_94 : decode b_Mod_pump 94 = .ok (.getfield 47, 3) := by decide +kernel
theorem d_Mod_pump_97 : decode b_Mod_pump 97 = .ok (.iload_n 1, 1) := by decide +kernel
theorem d_Mod_pump_98 : decode b_Mod_pump 98 = .ok (.iaload, 1) := by decide +kernel
theorem d_Mod_pump_99 : decode b_Mod_pump 99 = .ok (.iadd, 1) := by decide +kernel
theorem d_Mod_pump_100 : decode b_Mod_pump 100 = .ok (.iaload, 1) := by decide +kernel
theorem d_Mod_pump_101 : decode b_Mod_pump 101 = .ok (.istore_n 3, 1) := by decide +kernel
theorem d_Mod_pump_102 : decode b_Mod_pump 102 = .ok (.aload_n 0, 1) := by decide +kernel
theorem d_Mod_pump_103 : decode b_Mod_pump 103 = .ok (.getfield 47, 3) := by decide +kernel
theorem d_Mod_pump_106 : decode b_Mod_pump 106 = .ok (.iload_n 1, 1) := by decide +kernel
theorem d_Mod_pump_107 : decode b_Mod_pump 107 = .ok (.dup2, 1) := by decide +kernel
theorem d_Mod_pump_108 : decode b_Mod_pump 108 = .ok (.iaload, 1) := by decide +kernel
theorem d_Mod_pump_109 : decode b_Mod_pump 109 = .ok (.iconst 1, 1) := by decide +kernel
theorem d_Mod_pump_110 : decode b_Mod_pump 110 = .ok (.iadd, 1) := by decide +kernel
theorem d_Mod_pump_111 : decode b_Mod_pump 111 = .ok (.iastore, 1) := by decide +kernel
theorem d_Mod_pump_112 : decode b_Mod_pump 112 = .ok (.aload_n 0, 1) := by decide +kernel
theorem d_Mod_pump_113 : decode b_Mod_pump 113 = .ok (.getfield 32, 3) := by decide +kernel
theorem d_Mod_pump_116 : decode b_Mod_pump 116 = .ok (.iload_n 1, 1) := by decide +kernel
theorem d_Mod_pump_117 : decode b_Mod_pump 117 = .ok (.dup2, 1) := by decide +kernel
theorem d_Mod_pump_118 : decode b_Mod_pump 118 = .ok (.iaload, 1) := by decide +kernel
theorem d_Mod_pump_119 : decode b_Mod_pump 119 = .ok (.iconst 1, 1) := by decide +kernel
theorem d_Mod_pump_120 : decode b_Mod_pump 120 = .ok (.isub, 1) := by decide +kernel
theorem d_Mod_pump_121 : decode b_Mod_pump 121 = .ok (.iastore, 1) := by decide +kernel
theorem d_Mod_pump_122 : decode b_Mod_pump 122 = .ok (.iinc 2 1, 3) := by decide +kernel
theorem d_Mod_pump_125 : decode b_Mod_pump 125 = .ok (.aload_n 0, 1) := by decide +kernel
theorem d_Mod_pump_126 : decode b_Mod_pump 126 = .ok (.iload_n 1, 1) := by decide +kernel
theorem d_Mod_pump_127 : decode b_Mod_pump 127 = .ok (.iload_n 3, 1) := by decide +kernel
theorem d_Mod_pump_128 : decode b_Mod_pump 128 = .ok (.invokevirtual 179, 3) := by decide +kernel
theorem d_Mod_pump_131 : decode b_Mod_pump 131 = .ok (.ifCond .ne 8, 3) := by decide +kernel
theorem d_Mod_pump_134 : decode b_Mod_pump 134 = .ok (.aload_n 0, 1) := by decide +kernel
theorem d_Mod_pump_135 : decode b_Mod_pump 135 = .ok (.iload_n 1, 1) := by decide +kernel
theorem d_Mod_pump_136 : decode b_Mod_pump 136 = .ok (.invokevirtual 102, 3) := by decide +kernel
theorem d_Mod_pump_139 : decode b_Mod_pump 139 = .ok (.goto (-123), 3) := by decide +kernel
theorem d_Mod_pump_142 : decode b_Mod_pump 142 = .ok (.iload_n 2, 1) := by decide +kernel
theorem d_Mod_pump_143 : decode b_Mod_pump 143 = .ok (.ireturn, 1) := by decide +kernel
theorem d_Mod_poison_0 : decode b_Mod_poison 0 = .ok (.aload_n 0, 1) := by decide +kernel
theorem d_Mod_poison_1 : decode b_Mod_poison 1 = .ok (.iconst 0, 1) := by decide +kernel
theorem d_Mod_poison_2 : decode b_Mod_poison 2 = .ok (.putfield 74, 3) := by decide +kernel
theorem d_Mod_poison_5 : decode b_Mod_poison 5 = .ok (.iload_n 1, 1) := by decide +kernel
theorem d_Mod_poison_6 : decode b_Mod_poison 6 = .ok (.invokestatic 99, 3) := by decide +kernel
theorem d_Mod_poison_9 : decode b_Mod_poison 9 = .ok (.ifCond .eq 15, 3) := by decide +kernel
theorem d_Mod_poison_12 : decode b_Mod_poison 12 = .ok (.iload_n 2, 1) := by decide +kernel
theorem d_Mod_poison_13 : decode b_Mod_poison 13 = .ok (.iconst 1, 1) := by decide +kernel
theorem d_Mod_poison_14 : decode b_Mod_poison 14 = .ok (.if_icmp .lt 10, 3) := by decide +kernel
theorem d_Mod_poison_17 : decode b_Mod_poison 17 = .ok (.iload_n 2, 1) := by decide +kernel
theorem d_Mod_poison_18 : decode b_Mod_poison 18 = .ok (.sipush 10000, 3) := by decide +kernel
theorem d_Mod_poison_21 : decode b_Mod_poison 21 = .ok (.if_icmp .le 5, 3) := by decide +kernel
theorem d_Mod_poison_24 : decode b_Mod_poison 24 = .ok (.iconst 0, 1) := by decide +kernel
theorem d_Mod_poison_25 : decode b_Mod_poison 25 = .ok (.ireturn, 1) := by decide +kernel
theorem d_Mod_poison_26 : decode b_Mod_poison 26 = .ok (.aload_n 0, 1) := by decide +kernel
theorem d_Mod_poison_27 : decode b_Mod_poison 27 = .ok (.getfield 62, 3) := by decide +kernel
theorem d_Mod_poison_30 : decode b_Mod_poison 30 = .ok (.iload_n 1, 1) := by decide +kernel
theorem d_Mod_poison_31 : decode b_Mod_poison 31 = .ok (.iaload, 1) := by decide +kernel
theorem d_Mod_poison_32 : decode b_Mod_poison 32 = .ok (.bipush 8, 2) := by decide +kernel
theorem d_Mod_poison_34 : decode b_Mod_poison 34 = .ok (.if_icmp .ne 13, 3) := by decide +kernel
theorem d_Mod_poison_37 : decode b_Mod_poison 37 = .ok (.aload_n 0, 1) := by decide +kernel
theorem d_Mod_poison_38 : decode b_Mod_poison 38 = .ok (.getfield 62, 3) := by decide +kernel
theorem d_Mod_poison_41 : decode b_Mod_poison 41 = .ok (.iload_n 1, 1) := by decide +kernel
theorem d_Mod_poison_42 : decode b_Mod_poison 42 = .ok (.dup2, 1) := by decide +kernel
theorem d_Mod_poison_43 : decode b_Mod_poison 43 = .ok (.iaload, 1) := by decide +kernel
theorem d_Mod_poison_44 : decode b_Mod_poison 44 = .ok (.iconst 1, 1) := by decide +kernel
theorem d_Mod_poison_45 : decode b_Mod_poison 45 = .ok (.isub, 1) := by decide +kernel
theorem d_Mod_poison_46 : decode b_Mod_poison 46 = .ok (.iastore, 1) := by decide +kernel
theorem d_Mod_poison_47 : decode b_Mod_poison 47 = .ok (.aload_n 0, 1) := by decide +kernel
theorem d_Mod_poison_48 : decode b_Mod_poison 48 = .ok (.getfield 56, 3) := by decide +kernel
theorem d_Mod_poison_51 : decode b_Mod_poison 51 = .ok (.bipush 8, 2) := by decide +kernel
theorem d_Mod_poison_53 : decode b_Mod_poison 53 = .ok (.iload_n 1, 1) := by decide +kernel
theorem d_Mod_poison_54 : decode b_Mod_poison 54 = .ok (.imul, 1) := by decide +kernel
theorem d_Mod_poison_55 : decode b_Mod_poison 55 = .ok (.aload_n 0, 1) := by decide +kernel
theorem d_Mod_poison_56 : decode b_Mod_poison 56 = .ok (.getfield 62, 3) := by decide +kernel
theorem d_Mod_poison_59 : decode b_Mod_poison 59 = .ok (.iload_n 1, 1) := by decide +kernel
theorem d_Mod_poison_60 : decode b_Mod_poison 60 = .ok (.iaload, 1) := by decide +kernel
theorem d_Mod_poison_61 : decode b_Mod_poison 61 = .ok (.iadd, 1) := by decide +kernel
theorem d_Mod_poison_62 : decode b_Mod_poison 62 = .ok (.iload_n 2, 1) := by decide +kernel
theorem d_Mod_poison_63 : decode b_Mod_poison 63 = .ok (.iastore, 1) := by decide +kernel
theorem d_Mod_poison_64 : decode b_Mod_poison 64 = .ok (.aload_n 0, 1) := by decide +kernel
theorem d_Mod_poison_65 : decode b_Mod_poison 65 = .ok (.getfield 59, 3) := by decide +kernel
theorem d_Mod_poison_68 : decode b_Mod_poison 68 = .ok (.bipush 8, 2) := by decide +kernel
theorem d_Mod_poison_70 : decode b_Mod_poison 70 = .ok (.iload_n 1, 1) := by decide +kernel
theorem d_Mod_poison_71 : decode b_Mod_poison 71 = .ok (.imul, 1) := by decide +kernel
theorem d_Mod_poison_72 : decode b_Mod_poison 72 = .ok (.aload_n 0, 1) := by decide +kernel
theorem d_Mod_poison_73 : decode b_Mod_poison 73 = .ok (.getfield 62, 3) := by decide +kernel
theorem d_Mod_poison_76 : decode b_Mod_poison 76 = .ok (.iload_n 1, 1) := by decide +kernel
theorem d_Mod_poison_77 : decode b_Mod_poison 77 = .ok (.iaload, 1) := by decide +kernel
theorem d_Mod_poison_78 : decode b_Mod_poison 78 = .ok (.iadd, 1) := by decide +kernel
theorem d_Mod_poison_79 : decode b_Mod_poison 79 = .ok (.iload_n 3, 1) := by decide +kernel
theorem d_Mod_poison_80 : decode b_Mod_poison 80 = .ok (.sipush 255, 3) := by decide +kernel
theorem d_Mod_poison_83 : decode b_Mod_poison 83 = .ok (.iand, 1) := by decide +kernel
theorem d_Mod_poison_84 : decode b_Mod_poison 84 = .ok (.iastore, 1) := by decide +kernel
theorem d_Mod_poison_85 : decode b_Mod_poison 85 = .ok (.aload_n 0, 1) := by decide +kernel
theorem d_Mod_poison_86 : decode b_Mod_poison 86 = .ok (.getfield 62, 3) := by decide +kernel
theorem d_Mod_poison_89 : decode b_Mod_poison 89 = .ok (.iload_n 1, 1) := by decide +kernel
theorem d_Mod_poison_90 : decode b_Mod_poison 90 = .ok (.dup2, 1) := by decide +kernel
theorem d_Mod_poison_91 : decode b_Mod_poison 91 = .ok (.iaload, 1) := by decide +kernel
theorem d_Mod_poison_92 : decode b_Mod_poison 92 = .ok (.iconst 1, 1) := by decide +kernel
theorem d_Mod_poison_93 : decode b_Mod_poison 93 = .ok (.iadd, 1) := by decide +kernel
theorem d_Mod_poison_94 : decode b_Mod_poison 94 = .ok (.iastore, 1) := by decide +kernel
theorem d_Mod_poison_95 : decode b_Mod_poison 95 = .ok (.iconst 1, 1) := by decide +kernel
theorem d_Mod_poison_96 : decode b_Mod_poison 96 = .ok (.ireturn, 1) := by decide +kernel
theorem d_Mod_shown_0 : decode b_Mod_shown 0 = .ok (.aload_n 0, 1) := by decide +kernel
theorem d_Mod_shown_1 : decode b_Mod_shown 1 = .ok (.iconst 0, 1) := by decide +kernel
theorem d_Mod_shown_2 : decode b_Mod_shown 2 = .ok (.putfield 74, 3) := by decide +kernel
theorem d_Mod_shown_5 : decode b_Mod_shown 5 = .ok (.iload_n 1, 1) := by decide +kernel
theorem d_Mod_shown_6 : decode b_Mod_shown 6 = .ok (.invokestatic 99, 3) := by decide +kernel
theorem d_Mod_shown_9 : decode b_Mod_shown 9 = .ok (.ifCond .eq 12, 3) := by decide +kernel
theorem d_Mod_shown_12 : decode b_Mod_shown 12 = .ok (.aload_n 0, 1) := by decide +kernel
theorem d_Mod_shown_13 : decode b_Mod_shown 13 = .ok (.getfield 26, 3) := by decide +kernel
theorem d_Mod_shown_16 : decode b_Mod_shown 16 = .ok (.iload_n 1, 1) := by decide +kernel
theorem d_Mod_shown_17 : decode b_Mod_shown 17 = .ok (.iaload, 1) := by decide +kernel
theorem d_Mod_shown_18 : decode b_Mod_shown 18 = .ok (.goto 4, 3) := by decide +kernel
theorem d_Mod_shown_21 : decode b_Mod_shown 21 = .ok (.iconst (-1), 1) := by decide +kernel
theorem d_Mod_shown_22 : decode b_Mod_shown 22 = .ok (.ireturn, 1) := by decide +kernel
theorem d_Mod_at_0 : decode b_Mod_at 0 = .ok (.aload_n 0, 1) := by decide +kernel
theorem d_Mod_at_1 : decode b_Mod_at 1 = .ok (.iconst 0, 1) := by decide +kernel
theorem d_Mod_at_2 : decode b_Mod_at 2 = .ok (.putfield 74, 3) := by decide +kernel
theorem d_Mod_at_5 : decode b_Mod_at 5 = .ok (.iload_n 1, 1) := by decide +kernel
theorem d_Mod_at_6 : decode b_Mod_at 6 = .ok (.iconst (-1), 1) := by decide +kernel
theorem d_Mod_at_7 : decode b_Mod_at 7 = .ok (.if_icmp .lt 28, 3) := by decide +kernel
theorem d_Mod_at_10 : decode b_Mod_at 10 = .ok (.iload_n 1, 1) := by decide +kernel
theorem d_Mod_at_11 : decode b_Mod_at 11 = .ok (.iconst 2, 1) := by decide +kernel
theorem d_Mod_at_12 : decode b_Mod_at 12 = .ok (.if_icmp .gt 23, 3) := by decide +kernel
theorem d_Mod_at_15 : decode b_Mod_at 15 = .ok (.iload_n 2, 1) := by decide +kernel
theorem d_Mod_at_16 : decode b_Mod_at 16 = .ok (.ifCond .lt 19, 3) := by decide +kernel
theorem d_Mod_at_19 : decode b_Mod_at 19 = .ok (.iload_n 2, 1) := by decide +kernel
theorem d_Mod_at_20 : decode b_Mod_at 20 = .ok (.bipush 64, 2) := by decide +kernel
theorem d_Mod_at_22 : decode b_Mod_at 22 = .ok (.if_icmp .ge 13, 3) := by decide +kernel
theorem d_Mod_at_25 : decode b_Mod_at 25 = .ok (.iload_n 3, 1) := by decide +kernel
theorem d_Mod_at_26 : decode b_Mod_at 26 = .ok (.ifCond .lt 9, 3) := by decide +kernel
theorem d_Mod_at_29 : decode b_Mod_at 29 = .ok (.iload_n 3, 1) := by decide +kernel
theorem d_Mod_at_30 : decode b_Mod_at 30 = .ok (.bipush 48, 2) := by decide +kernel
theorem d_Mod_at_32 : decode b_Mod_at 32 = .ok (.if_icmp .lt 5, 3) := by decide +kernel
theorem d_Mod_at_35 : decode b_Mod_at 35 = .ok (.iconst (-1), 1) := by decide +kernel
theorem d_Mod_at_36 : decode b_Mod_at 36 = .ok (.ireturn, 1) := by decide +kernel
theorem d_Mod_at_37 : decode b_Mod_at 37 = .ok (.aload_n 0, 1) := by decide +kernel
theorem d_Mod_at_38 : decode b_Mod_at 38 = .ok (.getfield 7, 3) := by decide +kernel
theorem d_Mod_at_41 : decode b_Mod_at 41 = .ok (.sipush 3072, 3) := by decide +kernel
theorem d_Mod_at_44 : decode b_Mod_at 44 = .ok (.iload_n 1, 1) := by decide +kernel
theorem d_Mod_at_45 : decode b_Mod_at 45 = .ok (.iconst (-1), 1) := by decide +kernel
theorem d_Mod_at_46 : decode b_Mod_at 46 = .ok (.if_icmp .ne 7, 3) := by decide +kernel
theorem d_Mod_at_49 : decode b_Mod_at 49 = .ok (.iconst 0, 1) := by decide +kernel
theorem d_Mod_at_50 : decode b_Mod_at 50 = .ok (.goto 6, 3) := by decide +kernel
theorem d_Mod_at_53 : decode b_Mod_at 53 = .ok (.iconst 2, 1) := by decide +kernel
theorem d_Mod_at_54 : decode b_Mod_at 54 = .ok (.iload_n 1, 1) := by decide +kernel
theorem d_Mod_at_55 : decode b_Mod_at 55 = .ok (.iadd, 1) := by decide +kernel
theorem d_Mod_at_56 : decode b_Mod_at 56 = .ok (.imul, 1) := by decide +kernel
theorem d_Mod_at_57 : decode b_Mod_at 57 = .ok (.bipush 64, 2) := by decide +kernel
theorem d_Mod_at_59 : decode b_Mod_at 59 = .ok (.iload_n 3, 1) := by decide +kernel
theorem d_Mod_at_60 : decode b_Mod_at 60 = .ok (.imul, 1) := by decide +kernel
theorem d_Mod_at_61 : decode b_Mod_at 61 = .ok (.iadd, 1) := by decide +kernel
theorem d_Mod_at_62 : decode b_Mod_at 62 = .ok (.iload_n 2, 1) := by decide +kernel
theorem d_Mod_at_63 : decode b_Mod_at 63 = .ok (.iadd, 1) := by decide +kernel
theorem d_Mod_at_64 : decode b_Mod_at 64 = .ok (.iaload, 1) := by decide +kernel
theorem d_Mod_at_65 : decode b_Mod_at 65 = .ok (.ireturn, 1) := by decide +kernel
theorem d_Mod_about_0 : decode b_Mod_about 0 = .ok (.aload_n 0, 1) := by decide +kernel
theorem d_Mod_about_1 : decode b_Mod_about 1 = .ok (.iconst 0, 1) := by decide +kernel
theorem d_Mod_about_2 : decode b_Mod_about 2 = .ok (.putfield 74, 3) := by decide +kernel
theorem d_Mod_about_5 : decode b_Mod_about 5 = .ok (.iload_n 1, 1) := by decide +kernel
theorem d_Mod_about_6 : decode b_Mod_about 6 = .ok (.invokestatic 99, 3) := by decide +kernel
theorem d_Mod_about_9 : decode b_Mod_about 9 = .ok (.ifCond .ne 5, 3) := by decide +kernel
theorem d_Mod_about_12 : decode b_Mod_about 12 = .ok (.iconst (-1), 1) := by decide +kernel
theorem d_Mod_about_13 : decode b_Mod_about 13 = .ok (.ireturn, 1) := by decide +kernel
theorem d_Mod_about_14 : decode b_Mod_about 14 = .ok (.iconst 0, 1) := by decide +kernel
theorem d_Mod_about_15 : decode b_Mod_about 15 = .ok (.istore_n 3, 1) := by decide +kernel
theorem d_Mod_about_16 : decode b_Mod_about 16 = .ok (.iconst 0, 1) := by decide +kernel
theorem d_Mod_about_17 : decode b_Mod_about 17 = .ok (.istore 4, 2) := by decide +kernel
theorem d_Mod_about_19 : decode b_Mod_about 19 = .ok (.iload 4, 2) := by decide +kernel
theorem d_Mod_about_21 : decode b_Mod_about 21 = .ok (.bipush 48, 2) := by decide +kernel
theorem d_Mod_about_23 : decode b_Mod_about 23 = .ok (.if_icmp .ge 37, 3) := by decide +kernel
theorem d_Mod_about_26 : decode b_Mod_about 26 = .ok (.iload_n 2, 1) := by decide +kernel
theorem d_Mod_about_27 : decode b_Mod_about 27 = .ok (.iconst 5, 1) := by decide +kernel
theorem d_Mod_about_28 : decode b_Mod_about 28 = .ok (.if_icmp .ne 32, 3) := by decide +kernel
theorem d_Mod_about_31 : decode b_Mod_about 31 = .ok (.iload_n 3, 1) := by decide +kernel
theorem d_Mod_about_32 : decode b_Mod_about 32 = .ok (.aload_n 0, 1) := by decide +kernel
theorem d_Mod_about_33 : decode b_Mod_about 33 = .ok (.iconst 5, 1) := by decide +kernel
theorem d_Mod_about_34 : decode b_Mod_about 34 = .ok (.iload_n 1, 1) := by decide +kernel
theorem d_Mod_about_35 : decode b_Mod_about 35 = .ok (.iadd, 1) := by decide +kernel
theorem d_Mod_about_36 : decode b_Mod_about 36 = .ok (.iload 4, 2) := by decide +kernel
theorem d_Mod_about_38 : decode b_Mod_about 38 = .ok (.iconst 1, 1) := by decide +kernel
theorem d_Mod_about_39 : decode b_Mod_about 39 = .ok (.iload 4, 2) := by decide +kernel
theorem d_Mod_about_41 : decode b_Mod_about 41 = .ok (.invokevirtual 120, 3) := by decide +kernel
theorem d_Mod_about_44 : decode b_Mod_about 44 = .ok (.ifCond .eq 7, 3) := by decide +kernel
theorem d_Mod_about_47 : decode b_Mod_about 47 = .ok (.iconst 0, 1) := by decide +kernel
theorem d_Mod_about_48 : decode b_Mod_about 48 = .ok (.goto 4, 3) := by decide +kernel
theorem d_Mod_about_51 : decode b_Mod_about 51 = .ok (.iconst 1, 1) := by decide +kernel
theorem d_Mod_about_52 : decode b_Mod_about 52 = .ok (.iadd, 1) := by decide +kernel
theorem d_Mod_about_53 : decode b_Mod_about 53 = .ok (.istore_n 3, 1) := by decide +kernel
theorem d_Mod_about_54 : decode b_Mod_about 54 = .ok (.iinc 4 1, 3) := by decide +kernel
theorem d_Mod_about_57 : decode b_Mod_about 57 = .ok (.goto (-38), 3) := by decide +kernel
theorem d_Mod_about_60 : decode b_Mod_about 60 = .ok (.iload_n 2, 1) := by decide +kernel
theorem d_Mod_about_61 : decode b_Mod_about 61 = .ok (.tableswitch 113 0 7 #[47, 62, 69, 83, 90, 97, 99, 106], 47) := by decide +kernel
theorem d_Mod_about_108 : decode b_Mod_about 108 = .ok (.aload_n 0, 1) := by decide +kernel
theorem d_Mod_about_109 : decode b_Mod_about 109 = .ok (.getfield 23, 3) := by decide +kernel
theorem d_Mod_about_112 : decode b_Mod_about 112 = .ok (.iload_n 1, 1) := by decide +kernel
theorem d_Mod_about_113 : decode b_Mod_about 113 = .ok (.baload, 1) := by decide +kernel
theorem d_Mod_about_114 : decode b_Mod_about 114 = .ok (.ifCond .eq 7, 3) := by decide +kernel
theorem d_Mod_about_117 : decode b_Mod_about 117 = .ok (.iconst 1, 1) := by decide +kernel
theorem d_Mod_about_118 : decode b_Mod_about 118 = .ok (.goto 4, 3) := by decide +kernel
theorem d_Mod_about_121 : decode b_Mod_about 121 = .ok (.iconst 0, 1) := by decide +kernel
theorem d_Mod_about_122 : decode b_Mod_about 122 = .ok (.ireturn, 1) := by decide +kernel
theorem d_Mod_about_123 : decode b_Mod_about 123 = .ok (.aload_n 0, 1) := by decide +kernel
theorem d_Mod_about_124 : decode b_Mod_about 124 = .ok (.getfield 32, 3) := by decide +kernel
theorem d_Mod_about_127 : decode b_Mod_about 127 = .ok (.iload_n 1, 1) := by decide +kernel
theorem d_Mod_about_128 : decode b_Mod_about 128 = .ok (.iaload, 1) := by decide +kernel
theorem d_Mod_about_129 : decode b_Mod_about 129 = .ok (.ireturn, 1) := by decide +kernel
theorem d_Mod_about_130 : decode b_Mod_about 130 = .ok (.aload_n 0, 1) := by decide +kernel
theorem d_Mod_about_131 : decode b_Mod_about 131 = .ok (.getfield 44, 3) := by decide +kernel
theorem d_Mod_about_134 : decode b_Mod_about 134 = .ok (.iload_n 1, 1) := by decide +kernel
theorem d_Mod_about_135 : decode b_Mod_about 135 = .ok (.iaload, 1) := by decide +kernel
theorem d_Mod_about_136 : decode b_Mod_about 136 = .ok (.aload_n 0, 1) := by decide +kernel
theorem d_Mod_about_137 : decode b_Mod_about 137 = .ok (.getfield 47, 3) := by decide +kernel
theorem d_Mod_about_140 : decode b_Mod_about 140 = .ok (.iload_n 1, 1) := by decide +kernel
theorem d_Mod_about_141 : decode b_Mod_about 141 = .ok (.iaload, 1) := by decide +kernel
theorem d_Mod_about_142 : decode b_Mod_about 142 = .ok (.isub, 1) := by decide +kernel
theorem d_Mod_about_143 : decode b_Mod_about 143 = .ok (.ireturn, 1) := by decide +kernel
theorem d_Mod_about_144 : decode b_Mod_about 144 = .ok (.aload_n 0, 1) := by decide +kernel
theorem d_Mod_about_145 : decode b_Mod_about 145 = .ok (.getfield 53, 3) := by decide +kernel
theorem d_Mod_about_148 : decode b_Mod_about 148 = .ok (.iload_n 1, 1) := by decide +kernel
theorem d_Mod_about_149 : decode b_Mod_about 149 = .ok (.iaload, 1) := by decide +kernel
theorem d_Mod_about_150 : decode b_Mod_about 150 = .ok (.ireturn, 1) := by decide +kernel
theorem d_Mod_about_151 : decode b_Mod_about 151 = .ok (.aload_n 0, 1) := by decide +kernel
theorem d_Mod_about_152 : decode b_Mod_about 152 = .ok (.getfield 35, 3) := by decide +kernel
theorem d_Mod_about_155 : decode b_Mod_about 155 = .ok (.iload_n 1, 1) := by decide +kernel
theorem d_Mod_about_156 : decode b_Mod_about 156 = .ok (.iaload, 1) := by decide +kernel
theorem d_Mod_about_157 : decode b_Mod_about 157 = .ok (.ireturn, 1) := by decide +kernel
theorem d_Mod_about_158 : decode b_Mod_about 158 = .ok (.iload_n 3, 1) := by decide +kernel
theorem d_Mod_about_159 : decode b_Mod_about 159 = .ok (.ireturn, 1) := by decide +kernel
theorem d_Mod_about_160 : decode b_Mod_about 160 = .ok (.aload_n 0, 1) := by decide +kernel
theorem d_Mod_about_161 : decode b_Mod_about 161 = .ok (.getfield 29, 3) := by decide +kernel
theorem d_Mod_about_164 : decode b_Mod_about 164 = .ok (.iload_n 1, 1) := by decide +kernel
theorem d_Mod_about_165 : decode b_Mod_about 165 = .ok (.iaload, 1) := by decide +kernel
theorem d_Mod_about_166 : decode b_Mod_about 166 = .ok (.ireturn, 1) := by decide +kernel
theorem d_Mod_about_167 : decode b_Mod_about 167 = .ok (.aload_n 0, 1) := by decide +kernel
theorem d_Mod_about_168 : decode b_Mod_about 168 = .ok (.getfield 16, 3) := by decide +kernel
theorem d_Mod_about_171 : decode b_Mod_about 171 = .ok (.iload_n 1, 1) := by decide +kernel
theorem d_Mod_about_172 : decode b_Mod_about 172 = .ok (.iaload, 1) := by decide +kernel
theorem d_Mod_about_173 : decode b_Mod_about 173 = .ok (.ireturn, 1) := by decide +kernel
theorem d_Mod_about_174 : decode b_Mod_about 174 = .ok (.iconst (-1), 1) := by decide +kernel
theorem d_Mod_about_175 : decode b_Mod_about 175 = .ok (.ireturn, 1) := by decide +kernel
theorem d_Mod_bytesBy_0 : decode b_Mod_bytesBy 0 = .ok (.aload_n 0, 1) := by decide +kernel
theorem d_Mod_bytesBy_1 : decode b_Mod_bytesBy 1 = .ok (.iconst 0, 1) := by decide +kernel
theorem d_Mod_bytesBy_2 : decode b_Mod_bytesBy 2 = .ok (.putfield 74, 3) := by decide +kernel
theorem d_Mod_bytesBy_5 : decode b_Mod_bytesBy 5 = .ok (.iload_n 1, 1) := by decide +kernel
theorem d_Mod_bytesBy_6 : decode b_Mod_bytesBy 6 = .ok (.invokestatic 99, 3) := by decide +kernel
theorem d_Mod_bytesBy_9 : decode b_Mod_bytesBy 9 = .ok (.ifCond .eq 27, 3) := by decide +kernel
theorem d_Mod_bytesBy_12 : decode b_Mod_bytesBy 12 = .ok (.iload_n 2, 1) := by decide +kernel
theorem d_Mod_bytesBy_13 : decode b_Mod_bytesBy 13 = .ok (.ifCond .lt 23, 3) := by decide +kernel
theorem d_Mod_bytesBy_16 : decode b_Mod_bytesBy 16 = .ok (.iload_n 2, 1) := by decide +kernel
theorem d_Mod_bytesBy_17 : decode b_Mod_bytesBy 17 = .ok (.bipush 7, 2) := by decide +kernel
theorem d_Mod_bytesBy_19 : decode b_Mod_bytesBy 19 = .ok (.if_icmp .ge 17, 3) := by decide +kernel
theorem d_Mod_bytesBy_22 : decode b_Mod_bytesBy 22 = .ok (.aload_n 0, 1) := by decide +kernel
theorem d_Mod_bytesBy_23 : decode b_Mod_bytesBy 23 = .ok (.getfield 38, 3) := by decide +kernel
theorem d_Mod_bytesBy_26 : decode b_Mod_bytesBy 26 = .ok (.bipush 7, 2) := by decide +kernel
theorem d_Mod_bytesBy_28 : decode b_Mod_bytesBy 28 = .ok (.iload_n 1, 1) := by decide +kernel
theorem d_Mod_bytesBy_29 : decode b_Mod_bytesBy 29 = .ok (.imul, 1) := by decide +kernel
theorem d_Mod_bytesBy_30 : decode b_Mod_bytesBy 30 = .ok (.iload_n 2, 1) := by decide +kernel
theorem d_Mod_bytesBy_31 : decode b_Mod_bytesBy 31 = .ok (.iadd, 1) := by decide +kernel
theorem d_Mod_bytesBy_32 : decode b_Mod_bytesBy 32 = .ok (.iaload, 1) := by decide +kernel
theorem d_Mod_bytesBy_33 : decode b_Mod_bytesBy 33 = .ok (.goto 4, 3) := by decide +kernel
theorem d_Mod_bytesBy_36 : decode b_Mod_bytesBy 36 = .ok (.iconst (-1), 1) := by decide +kernel
theorem d_Mod_bytesBy_37 : decode b_Mod_bytesBy 37 = .ok (.ireturn, 1) := by decide +kernel
theorem d_Mod_onLine_0 : decode b_Mod_onLine 0 = .ok (.aload_n 0, 1) := by decide +kernel
theorem d_Mod_onLine_1 : decode b_Mod_onLine 1 = .ok (.iconst 0, 1) := by decide +kernel
theorem d_Mod_onLine_2 : decode b_Mod_onLine 2 = .ok (.putfield 74, 3) := by decide +kernel
theorem d_Mod_onLine_5 : decode b_Mod_onLine 5 = .ok (.iload_n 1, 1) := by decide +kernel
theorem d_Mod_onLine_6 : decode b_Mod_onLine 6 = .ok (.invokestatic 99, 3) := by decide +kernel
theorem d_Mod_onLine_9 : decode b_Mod_onLine 9 = .ok (.ifCond .eq 46, 3) := by decide +kernel
theorem d_Mod_onLine_12 : decode b_Mod_onLine 12 = .ok (.iload_n 2, 1) := by decide +kernel
theorem d_Mod_onLine_13 : decode b_Mod_onLine 13 = .ok (.ifCond .lt 42, 3) := by decide +kernel
theorem d_Mod_onLine_16 : decode b_Mod_onLine 16 = .ok (.iload_n 2, 1) := by decide +kernel
theorem d_Mod_onLine_17 : decode b_Mod_onLine 17 = .ok (.aload_n 0, 1) := by decide +kernel
theorem d_Mod_onLine_18 : decode b_Mod_onLine 18 = .ok (.getfield 44, 3) := by decide +kernel
theorem d_Mod_onLine_21 : decode b_Mod_onLine 21 = .ok (.iload_n 1, 1) := by decide +kernel
theorem d_Mod_onLine_22 : decode b_Mod_onLine 22 = .ok (.iaload, 1) := by decide +kernel
theorem d_Mod_onLine_23 : decode b_Mod_onLine 23 = .ok (.aload_n 0, 1) := by decide +kernel
theorem d_Mod_onLine_24 : decode b_Mod_onLine 24 = .ok (.getfield 47, 3) := by decide +kernel
theorem d_Mod_onLine_27 : decode b_Mod_onLine 27 = .ok (.iload_n 1, 1) := by decide +kernel
theorem d_Mod_onLine_28 : decode b_Mod_onLine 28 = .ok (.iaload, 1) := by decide +kernel
theorem d_Mod_onLine_29 : decode b_Mod_onLine 29 = .ok (.isub, 1) := by decide +kernel
theorem d_Mod_onLine_30 : decode b_Mod_onLine 30 = .ok (.if_icmp .ge 25, 3) := by decide +kernel
theorem d_Mod_onLine_33 : decode b_Mod_onLine 33 = .ok (.aload_n 0, 1) := by decide +kernel
theorem d_Mod_onLine_34 : decode b_Mod_onLine 34 = .ok (.getfield 41, 3) := by decide +kernel
theorem d_Mod_onLine_37 : decode b_Mod_onLine 37 = .ok (.sipush 6247, 3) := by decide +kernel
theorem d_Mod_onLine_40 : decode b_Mod_onLine 40 = .ok (.iload_n 1, 1) := by decide +kernel
theorem d_Mod_onLine_41 : decode b_Mod_onLine 41 = .ok (.imul, 1) := by decide +kernel
theorem d_Mod_onLine_42 : decode b_Mod_onLine 42 = .ok (.aload_n 0, 1) := by decide +kernel
theorem d_Mod_onLine_43 : decode b_Mod_onLine 43 = .ok (.getfield 47, 3) := by decide +kernel
theorem d_Mod_onLine_46 : decode b_Mod_onLine 46 = .ok (.iload_n 1, 1) := by decide +kernel
theorem d_Mod_onLine_47 : decode b_Mod_onLine 47 = .ok (.iaload, 1) := by decide +kernel
theorem d_Mod_onLine_48 : decode b_Mod_onLine 48 = .ok (.iadd, 1) := by decide +kernel
theorem d_Mod_onLine_49 : decode b_Mod_onLine 49 = .ok (.iload_n 2, 1) := by decide +kernel
theorem d_Mod_onLine_50 : decode b_Mod_onLine 50 = .ok (.iadd, 1) := by decide +kernel
theorem d_Mod_onLine_51 : decode b_Mod_onLine 51 = .ok (.iaload, 1) := by decide +kernel
theorem d_Mod_onLine_52 : decode b_Mod_onLine 52 = .ok (.goto 4, 3) := by decide +kernel
theorem d_Mod_onLine_55 : decode b_Mod_onLine 55 = .ok (.iconst (-1), 1) := by decide +kernel
theorem d_Mod_onLine_56 : decode b_Mod_onLine 56 = .ok (.ireturn, 1) := by decide +kernel
end
section
/-! ARRAYS OF NATURAL NUMBERS: rows of the kit with nF -/
abbrev TYS (cI cZ cL cV : ClassId) : List (ClassId × FieldType) := [(cI, .int), (cZ, .boolean), (cL, .long), (cV, .object "TileScreen$Viewer")]
section
variable {p : Program} {l : Launch} {e : Env} {R : Room} {s : State} {m : MethodId} {args : Array Value} {below : List Frame} {meth : Method} {c : Code} {H : Heap} {locs : List Loc} {cells slots : Nat} {Q : State → Prop}
variable {cc : ByteArray} {pc : Nat} {ls : Array Slot} {rest : List Value} {D : va_G} {cl : List vw_C} {A : Nat → Prop} {a : Nat} {tys : List (ClassId × FieldType)} {ws : va_W} {H0 : Heap}
theorem nv_iald (hx : p.tables.exec = Jvm.exec) (hb : c.code = cc) (hK : va_K D cl tys s) (hP : va_P D cl ws H) (q0 t0 : Nat) {cA : ClassId} {n : Nat} {F : Nat → Nat} (ha : ws[q0]? = some (a, .inl (cA, n, .inl (nF F)))) (ht : tys[t0]? = some (cA, .int)) {i : Nat} (hi : i < n) (hn : n < 2 ^ 31) (hdg : decode cc pc = .ok (.iaload, 1))
    (kk : W p l e R s m args below meth c H locs cells slots Q (F0 m (pc + 1) ls (.int (nI (F i)) :: rest))) : W p l e R s m args below meth c H locs cells slots Q (F0 m pc ls (.int (nI i) :: .ref a :: rest)) :=
  va_iald hx hb hK hP q0 t0 ha ht (vp_in_nI hi hn) hdg (by rw [nI_clamp (Nat.lt_trans hi hn)]; exact kk)
theorem nv_zald (hx : p.tables.exec = Jvm.exec) (hb : c.code = cc) (hK : va_K D cl tys s) (hP : va_P D cl ws H) (q0 t0 : Nat) {cA : ClassId} {n : Nat} {F : Nat → Nat} (ha : ws[q0]? = some (a, .inl (cA, n, .inl (nF F)))) (ht : tys[t0]? = some (cA, .boolean)) {i : Nat} (hi : i < n) (hn : n < 2 ^ 31) (hdg : decode cc pc = .ok (.baload, 1))
    (kk : W p l e R s m args below meth c H locs cells slots Q (F0 m (pc + 1) ls (.int (nI (F i)) :: rest))) : W p l e R s m args below meth c H locs cells slots Q (F0 m pc ls (.int (nI i) :: .ref a :: rest)) :=
  va_zald hx hb hK hP q0 t0 ha ht (vp_in_nI hi hn) hdg (by rw [nI_clamp (Nat.lt_trans hi hn)]; exact kk)
theorem nv_iast (hx : p.tables.exec = Jvm.exec) (hb : c.code = cc) (hK : va_K D cl tys s) (hP : va_P D cl ws H) (hD : va_D A ws) (hS : va_S A H0 H locs) (q0 t0 : Nat) {cA : ClassId} {n : Nat} {F : Nat → Nat} (ha : ws[q0]? = some (a, .inl (cA, n, .inl (nF F)))) (ht : tys[t0]? = some (cA, .int)) {i v : Nat} (hi : i < n) (hn : n < 2 ^ 31) (hdg : decode cc pc = .ok (.iastore, 1))
    (kk : ∀ (H1 : Heap) (locs1 : List Loc), va_P D cl (ws.set q0 (a, .inl (cA, n, .inl (nF (up F i v))))) H1 → va_D A (ws.set q0 (a, .inl (cA, n, .inl (nF (up F i v))))) → va_S A H0 H1 locs1 → W p l e R s m args below meth c H1 locs1 cells slots Q (F0 m (pc + 1) ls rest)) : W p l e R s m args below meth c H locs cells slots Q (F0 m pc ls (.int (nI v) :: .int (nI i) :: .ref a :: rest)) :=
  va_iast hx hb hK hP hD hS q0 t0 ha ht (vp_in_nI hi hn) hdg (fun H1 locs1 h1 h2 h3 => by
    rw [nI_clamp (Nat.lt_trans hi hn), upd_nF] at h1 h2
    exact kk H1 locs1 h1 h2 h3)
theorem nar_z {v : Nat} (h : v ≤ 1) : vp_nar .boolean (nI v) = nI v := by
  rcases (show v = 0 ∨ v = 1 by omega) with rfl | rfl <;> rfl
theorem nv_zast (hx : p.tables.exec = Jvm.exec) (hb : c.code = cc) (hK : va_K D cl tys s) (hP : va_P D cl ws H) (hD : va_D A ws) (hS : va_S A H0 H locs) (q0 t0 : Nat) {cA : ClassId} {n : Nat} {F : Nat → Nat} (ha : ws[q0]? = some (a, .inl (cA, n, .inl (nF F)))) (ht : tys[t0]? = some (cA, .boolean)) {i v : Nat} (hi : i < n) (hn : n < 2 ^ 31) (hv : v ≤ 1) (hdg : decode cc pc = .ok (.bastore, 1))
    (kk : ∀ (H1 : Heap) (locs1 : List Loc), va_P D cl (ws.set q0 (a, .inl (cA, n, .inl (nF (up F i v))))) H1 → va_D A (ws.set q0 (a, .inl (cA, n, .inl (nF (up F i v))))) → va_S A H0 H1 locs1 → W p l e R s m args below meth c H1 locs1 cells slots Q (F0 m (pc + 1) ls rest)) : W p l e R s m args below meth c H locs cells slots Q (F0 m pc ls (.int (nI v) :: .int (nI i) :: .ref a :: rest)) :=
  va_zast hx hb hK hP hD hS q0 t0 ha ht (vp_in_nI hi hn) hdg (fun H1 locs1 h1 h2 h3 => by
    rw [nI_clamp (Nat.lt_trans hi hn), nar_z hv, upd_nF] at h1 h2
    exact kk H1 locs1 h1 h2 h3)
theorem nv_copy (hx : p.tables.exec = Jvm.exec) (hb : c.code = cc) (hml : c.maxLocals = ls.size) {own : String} {index : Nat} (hown : s.vm.findClass own = some m.cls) (hlink : (Cond.methodLink own index arraycopyName).before args s = true) (hnat : (Cond.native arraycopyName).before args s = true) (hstat : (Cond.static arraycopyName).before args s = true) (hini : (Cond.initialized "java/lang/System").before args s = true)
    (hK : va_K D cl tys s) (hP : va_P D cl ws H) (hD : va_D A ws) (hS : va_S A H0 H locs) (q0 q1 t0 : Nat) {a0 : Nat} {cA : ClassId} {n0 n1 : Nat} {F G : Nat → Nat} (ha0 : ws[q0]? = some (a0, .inl (cA, n0, .inl (nF F)))) (ha1 : ws[q1]? = some (a, .inl (cA, n1, .inl (nF G)))) (ht0 : tys[t0]? = some (cA, .int))
    {sp dp n : Nat} (h4 : sp + n ≤ n0) (h5 : dp + n ≤ n1) (hn0 : n0 < 2 ^ 31) (hn1 : n1 < 2 ^ 31)
    (hframes : 1 ≤ R.frames) (hlocals : (rest.map fun v => v.category).sum + (nativeFrameWords "java/lang/System" "arraycopy" 5 + 11) ≤ R.locals) (hdg : decode cc pc = .ok (.invokestatic index, 3))
    (kk : ∀ (H1 : Heap) (locs1 : List Loc), va_P D cl (ws.set q1 (a, .inl (cA, n1, .inl (nF (va_cpy F G sp dp n))))) H1 → va_D A (ws.set q1 (a, .inl (cA, n1, .inl (nF (va_cpy F G sp dp n))))) → va_S A H0 H1 locs1 → W p l e R s m args below meth c H1 locs1 cells slots Q (F0 m (pc + 3) ls rest)) :
    W p l e R s m args below meth c H locs cells slots Q (F0 m pc ls (.int (nI n) :: .int (nI dp) :: .ref a :: .int (nI sp) :: .ref a0 :: rest)) := by
  have e1 : (nI sp).toNatClampNeg = sp := nI_clamp (by omega)
  have e2 : (nI dp).toNatClampNeg = dp := nI_clamp (by omega)
  have e3 : (nI n).toNatClampNeg = n := nI_clamp (by omega)
  refine va_copyi hx hb hml hown hlink hnat hstat hini hK hP hD hS q0 q1 t0 t0 ha0 ha1 ht0 ht0 rfl (nI_pos (by omega)) (nI_pos (by omega)) (nI_pos (by omega)) (by rw [e1, e3]; exact h4) (by rw [e2, e3]; exact h5) (fun _ _ => rfl) hframes hlocals hdg (fun H1 locs1 h1 h2 h3 => ?_)
  rw [e1, e2, e3, cpy_nF] at h1 h2
  exact kk H1 locs1 h1 h2 h3
theorem z_cell (cA : ClassId) (n : Nat) (ty : FieldType) (h : defaultValue ty = .int 0) : vp_cell cA (n, .inl (nF (fun _ => 0))) = arrV cA n (fun _ => defaultValue ty) := by
  rw [h]
  show arrV cA n (fun j => Value.int (nI 0)) = _
  rw [nI_0]
/-- a new array of ints, of the class that the worlds know -/
theorem nv_newi (hx : p.tables.exec = Jvm.exec) (hb : c.code = cc) (harr : (Cond.arrayClass .int).before args s = true) (hK : va_K D cl tys s) (hP : va_P D cl ws H) (hD : va_D A ws) (hS : va_S A H0 H locs) (hA : ∀ q, H0.size ≤ q → A q) (t0 : Nat) {cA : ClassId} (ht : tys[t0]? = some (cA, .int)) {n : Nat} (hn : n * 4 ≤ 536870912) (hcells : cells + 1 ≤ R.cells) (hslots : slots + n ≤ R.slots) (hdg : decode cc pc = .ok (.newarray .int, 2))
    (kk : ∀ (q : Nat) (H1 : Heap), va_P D cl (ws ++ [(q, .inl (cA, n, .inl (nF (fun _ => 0))))]) H1 → va_D A (ws ++ [(q, .inl (cA, n, .inl (nF (fun _ => 0))))]) → va_S A H0 H1 locs → W p l e R s m args below meth c H1 locs (cells + 1) (slots + n) Q (F0 m (pc + 2) ls (.ref q :: rest))) : W p l e R s m args below meth c H locs cells slots Q (F0 m pc ls (.int (nI n) :: rest)) := by
  refine va_newa (atype := .int) (ty := .int) (N' := n) (a0 := (n, .inl (nF (fun _ => 0)))) hx hb harr rfl hK hP hD hS hA (fun cA => z_cell cA n (.int) rfl) (nI_pos (by omega)) (nI_clamp (by omega)) hn hcells hslots hdg (fun q cB H1 hK1 hP1 hD1 hS1 => ?_)
  have e1 : s.vm.findClass ("[" ++ FieldType.int.toString) = some cA := (hK.2 t0 _ ht).2
  have e2 : s.vm.findClass ("[" ++ FieldType.int.toString) = some cB := (hK1.2 tys.length (cB, .int) (by simp)).2
  have e3 : cB = cA := Option.some.inj (e2.symm.trans e1)
  subst e3
  exact kk q H1 hP1 hD1 hS1
theorem nv_newz (hx : p.tables.exec = Jvm.exec) (hb : c.code = cc) (harr : (Cond.arrayClass .boolean).before args s = true) (hK : va_K D cl tys s) (hP : va_P D cl ws H) (hD : va_D A ws) (hS : va_S A H0 H locs) (hA : ∀ q, H0.size ≤ q → A q) (t0 : Nat) {cA : ClassId} (ht : tys[t0]? = some (cA, .boolean)) {n : Nat} (hn : n * 4 ≤ 536870912) (hcells : cells + 1 ≤ R.cells) (hslots : slots + n ≤ R.slots) (hdg : decode cc pc = .ok (.newarray .boolean, 2))
    (kk : ∀ (q : Nat) (H1 : Heap), va_P D cl (ws ++ [(q, .inl (cA, n, .inl (nF (fun _ => 0))))]) H1 → va_D A (ws ++ [(q, .inl (cA, n, .inl (nF (fun _ => 0))))]) → va_S A H0 H1 locs → W p l e R s m args below meth c H1 locs (cells + 1) (slots + n) Q (F0 m (pc + 2) ls (.ref q :: rest))) : W p l e R s m args below meth c H locs cells slots Q (F0 m pc ls (.int (nI n) :: rest)) := by
  refine va_newa (atype := .boolean) (ty := .boolean) (N' := n) (a0 := (n, .inl (nF (fun _ => 0)))) hx hb harr rfl hK hP hD hS hA (fun cA => z_cell cA n (.boolean) rfl) (nI_pos (by omega)) (nI_clamp (by omega)) (by show n * 1 ≤ _; omega) hcells hslots hdg (fun q cB H1 hK1 hP1 hD1 hS1 => ?_)
  have e1 : s.vm.findClass ("[" ++ FieldType.boolean.toString) = some cA := (hK.2 t0 _ ht).2
  have e2 : s.vm.findClass ("[" ++ FieldType.boolean.toString) = some cB := (hK1.2 tys.length (cB, .boolean) (by simp)).2
  have e3 : cB = cA := Option.some.inj (e2.symm.trans e1)
  subst e3
  exact kk q H1 hP1 hD1 hS1
end
end
section
/-! small words of the pure side -/
theorem gi_tb0 {w : Cond} (h : w ∈ TB) : GoodIn TB (w :: TB) := fun v hv => by
  rcases List.mem_cons.mp hv with rfl | h'
  · exact ⟨h, (TB_good _ h).2⟩
  · exact TB_good _ h'
theorem gi_c0 {w : Cond} {l : List Cond} (h : w ∈ TB) (hl : GoodIn TB l) : GoodIn TB (w :: l) := fun v hv => by
  rcases List.mem_cons.mp hv with rfl | h'
  · exact ⟨h, (TB_good _ h).2⟩
  · exact hl v h'
theorem bt_lt (b : Bool) : b.toNat < 2 ^ 31 := by cases b <;> decide
theorem bt_le (b : Bool) : b.toNat ≤ 1 := by cases b <;> decide
theorem bt0 {b : Bool} (h : b.toNat = 0) : b = false := by cases b; rfl; exact absurd h (by decide)
theorem bt1 {b : Bool} (h : b.toNat ≠ 0) : b = true := by cases b; exact absurd rfl h; rfl
theorem nar_b (b : Bool) : narrow .boolean (.int (nI b.toNat)) = .int (nI b.toNat) := by cases b <;> rfl
theorem fit_b (b : Bool) : fits .boolean (.int (nI b.toNat)) = true := by cases b <;> rfl
/-- 64 places of one row are the same as 64 of another -/
def sameB (F : Nat → Nat) (i : Nat) (G : Nat → Nat) (j : Nat) : Bool := (List.range 64).all (fun k => F (i + k) == G (j + k))
theorem sameB_iff {F G : Nat → Nat} {i j : Nat} : sameB F i G j = true ↔ ∀ k, k < 64 → F (i + k) = G (j + k) := by
  unfold sameB
  rw [List.all_eq_true]
  constructor
  · intro h k hk
    exact eq_of_beq (h k (List.mem_range.mpr hk))
  · intro h k hk
    exact beq_iff_eq.mpr (h k (List.mem_range.mp hk))
theorem sameB_t {F G : Nat → Nat} {i j : Nat} (h : ∀ k, k < 64 → F (i + k) = G (j + k)) : sameB F i G j = true := sameB_iff.mpr h
theorem sameB_f {F G : Nat → Nat} {i j k : Nat} (hk : k < 64) (h : F (i + k) ≠ G (j + k)) : sameB F i G j = false := by
  cases q : sameB F i G j
  · rfl
  · exact absurd (sameB_iff.mp q k hk) h
/-- r is the least place below n where P holds, or -1 -/
def isFind (P : Nat → Bool) (n : Nat) (r : Int32) : Prop := (r = -1 ∧ ∀ i, i < n → P i = false) ∨ ∃ i, i < n ∧ r = nI i ∧ P i = true ∧ ∀ j, j < i → P j = false
theorem isFind_uniq {P P' : Nat → Bool} {n : Nat} {r r' : Int32} (hn : n < 2 ^ 31) (he : ∀ i, i < n → P i = P' i) (h : isFind P n r) (h' : isFind P' n r') : r = r' := by
  rcases h with ⟨h1, h2⟩ | ⟨i, h1, h2, h3, h4⟩ <;> rcases h' with ⟨g1, g2⟩ | ⟨j, g1, g2, g3, g4⟩
  · rw [h1, g1]
  · have := h2 j g1
    rw [he j g1, g3] at this
    exact absurd this (by decide)
  · have := g2 i h1
    rw [← he i h1, h3] at this
    exact absurd this (by decide)
  · have h5 : i = j := by
      rcases Nat.lt_trichotomy i j with q | q | q
      · have := g4 i q
        rw [← he i h1, h3] at this
        exact absurd this (by decide)
      · exact q
      · have := h4 j q
        rw [he j g1, g3] at this
        exact absurd this (by decide)
    rw [h2, g2, h5]
/-- how many places below n where P does not hold -/
def cntN (P : Nat → Bool) : Nat → Nat
  | 0 => 0
  | n + 1 => cntN P n + (!P n).toNat
theorem cntN_le (P : Nat → Bool) : ∀ n, cntN P n ≤ n
  | 0 => Nat.le_refl 0
  | n + 1 => by
    have h1 := cntN_le P n
    have h2 := bt_le (!P n)
    show cntN P n + (!P n).toNat ≤ n + 1
    omega
theorem cntN_t {P : Nat → Bool} {n : Nat} (h : P n = true) : cntN P (n + 1) = cntN P n := by show cntN P n + (!P n).toNat = _; rw [h]; rfl
theorem cntN_f {P : Nat → Bool} {n : Nat} (h : P n = false) : cntN P (n + 1) = cntN P n + 1 := by show cntN P n + (!P n).toNat = _; rw [h]; rfl
theorem cntN_eq {P P' : Nat → Bool} : ∀ {n : Nat}, (∀ i, i < n → P i = P' i) → cntN P n = cntN P' n
  | 0, _ => rfl
  | n + 1, h => by
    show cntN P n + (!P n).toNat = cntN P' n + (!P' n).toNat
    rw [cntN_eq (fun i hi => h i (Nat.lt_succ_of_lt hi)), h n (Nat.lt_succ_self n)]
/-- an array's contents matter below its length alone -/
theorem nF_cell {cA : ClassId} {n : Nat} {F G : Nat → Nat} (h : ∀ j, j < n → F j = G j) : vp_cell cA (n, .inl (nF F)) = vp_cell cA (n, .inl (nF G)) := by
  show arrV cA n (fun j => .int (nF F j)) = arrV cA n (fun j => .int (nF G j))
  unfold arrV
  congr 1
  apply Array.ext
  · simp
  · intro i h1 h2
    simp at h1
    simp [nF, h i h1]
theorem hP_arr {D : va_G} {cl : List vw_C} {ws : va_W} {H : Heap} {q0 a : Nat} {cA : ClassId} {n : Nat} {F G : Nat → Nat} (hP : va_P D cl ws H) (hq : ws[q0]? = some (a, .inl (cA, n, .inl (nF F)))) (h : ∀ j, j < n → F j = G j) : va_P D cl (ws.set q0 (a, .inl (cA, n, .inl (nF G)))) H := by
  intro k q hk
  rw [List.getElem?_set] at hk
  by_cases e : q0 = k
  · subst e
    rw [if_pos rfl] at hk
    by_cases hl : q0 < ws.length
    · rw [if_pos hl] at hk
      cases hk
      have := hP q0 _ hq
      show H[a]? = some (vp_cell cA (n, .inl (nF G)))
      rw [← nF_cell h]
      exact this
    · rw [if_neg hl] at hk
      cases hk
  · rw [if_neg e] at hk
    exact hP k q hk
end
section
section
variable {l : Launch} {D : va_G} {cI cZ cL cV : ClassId}
set_option maxHeartbeats 4000000 in
set_option maxRecDepth 100000 in
theorem c_Tiles_init48 (a : Nat) : CV (S := Nat) l classes NW D (TYS cI cZ cL cV) y_Tiles_init (.code y_Tiles_init b_Tiles_init 2 none :: TB) { frames := 1, cells := 1, slots := 3072, locals := 12 } [.ref a, .int (nI 48)] [(a, .inr (0, [.int (nI 0), .null]))] (fun u => True) (fun u => [(a, .inr (0, [.int (nI 48), .ref u])), (u, .inl (cI, 3072, .inl (nF (fun _ => 0))))]) := by
  refine CV.of (by decide) (Nat.le_of_ble_eq_true rfl) ?_
  intro pr ev sT mM aR bW mE cO AA QQ ls Bd hG hA hP hD hS hl hnm hret
  have Bd : bd pr cO b_Tiles_init 2 sT aR TB "TileScreen$Tiles" mM := Bd
  obtain ⟨hx, hb, hml, hown, htb⟩ := id Bd
  have hl : lv_has ls 2 [(0, .ref a), (1, .int (nI 48))] := hl
  refine lv_aload_n hx hb d_Tiles_init_0 rfl (lv_at hl 0 rfl) ?_
  refine W.objInit hx hb hown (htb _ k_31) (htb _ k_24) (htb _ k_25) rfl (by rw [hml]; exact hl.1) rfl d_Tiles_init_1 (Nat.le_of_ble_eq_true rfl) (Nat.le_of_ble_eq_true rfl) ?_
  refine W.eq (g2 := F0 mM 4 ls []) rfl ?_
  refine lv_aload_n hx hb d_Tiles_init_4 rfl (lv_at hl 0 rfl) ?_
  refine lv_iload_n hx hb d_Tiles_init_5 rfl (lv_at hl 1 rfl) ?_
  refine va_putF (D := D) (ci := 0) (v := .int (nI 48)) (ty := .int) (C := "TileScreen$Tiles") (T := F_Tiles) (N := 2) hx hb htb i_Tiles t_Tiles t_Tiles_ok n_Tiles hown hG.1 hP hD hS 0 rfl rfl 0 (by decide) (htb _ k_32) (fun _ h9 => h9) rfl hnm rfl (by decide +kernel) rfl rfl (Nat.le_of_ble_eq_true rfl) d_Tiles_init_6 (fun H locs hP hD hS => ?_)
  have hP : va_P D classes [(a, .inr (0, [.int (nI 48), .null]))] H := hP
  have hD : va_D AA [(a, .inr (0, [.int (nI 48), .null]))] := hD
  refine lv_aload_n hx hb d_Tiles_init_9 rfl (lv_at hl 0 rfl) ?_
  refine lv_iload_n hx hb d_Tiles_init_10 rfl (lv_at hl 1 rfl) ?_
  refine lv_bipush (v := nI 64) hx hb d_Tiles_init_11 (by decide) ?_
  refine nv_imul hx hb d_Tiles_init_13 ?_
  refine nv_top (y := nI 3072) rfl ?_
  refine nv_newi hx hb (htb _ k_39) hG.1 hP hD hS hA 0 rfl (Nat.le_of_ble_eq_true rfl) (Nat.le_of_ble_eq_true rfl) (Nat.le_of_ble_eq_true rfl) d_Tiles_init_14 (fun q1 H hP hD hS => ?_)
  have hP : va_P D classes [(a, .inr (0, [.int (nI 48), .null])), (q1, .inl (cI, 3072, .inl (nF (fun _ => 0))))] H := hP
  have hD : va_D AA [(a, .inr (0, [.int (nI 48), .null])), (q1, .inl (cI, 3072, .inl (nF (fun _ => 0))))] := hD
  refine W.widen (k := 1) (n := 3072) (Nat.le_of_ble_eq_true rfl) (Nat.le_of_ble_eq_true rfl) ?_
  refine va_putF (D := D) (ci := 0) (v := .ref q1) (ty := .array (.int)) (C := "TileScreen$Tiles") (T := F_Tiles) (N := 2) hx hb htb i_Tiles t_Tiles t_Tiles_ok n_Tiles hown hG.1 hP hD hS 0 rfl rfl 1 (by decide) (htb _ k_33) (fun _ h9 => h9) rfl hnm rfl (by decide +kernel) rfl rfl (Nat.le_of_ble_eq_true rfl) d_Tiles_init_16 (fun H locs hP hD hS => ?_)
  have hP : va_P D classes [(a, .inr (0, [.int (nI 48), .ref q1])), (q1, .inl (cI, 3072, .inl (nF (fun _ => 0))))] H := hP
  have hD : va_D AA [(a, .inr (0, [.int (nI 48), .ref q1])), (q1, .inl (cI, 3072, .inl (nF (fun _ => 0))))] := hD
  
  exact hret q1 _ _ _ _ d_Tiles_init_19 (trivial) hP hD hS
set_option maxHeartbeats 4000000 in
set_option maxRecDepth 100000 in
theorem c_Tiles_init16 (a : Nat) : CV (S := Nat) l classes NW D (TYS cI cZ cL cV) y_Tiles_init (.code y_Tiles_init b_Tiles_init 2 none :: TB) { frames := 1, cells := 1, slots := 1024, locals := 12 } [.ref a, .int (nI 16)] [(a, .inr (0, [.int (nI 0), .null]))] (fun u => True) (fun u => [(a, .inr (0, [.int (nI 16), .ref u])), (u, .inl (cI, 1024, .inl (nF (fun _ => 0))))]) := by
  refine CV.of (by decide) (Nat.le_of_ble_eq_true rfl) ?_
  intro pr ev sT mM aR bW mE cO AA QQ ls Bd hG hA hP hD hS hl hnm hret
  have Bd : bd pr cO b_Tiles_init 2 sT aR TB "TileScreen$Tiles" mM := Bd
  obtain ⟨hx, hb, hml, hown, htb⟩ := id Bd
  have hl : lv_has ls 2 [(0, .ref a), (1, .int (nI 16))] := hl
  refine lv_aload_n hx hb d_Tiles_init_0 rfl (lv_at hl 0 rfl) ?_
  refine W.objInit hx hb hown (htb _ k_31) (htb _ k_24) (htb _ k_25) rfl (by rw [hml]; exact hl.1) rfl d_Tiles_init_1 (Nat.le_of_ble_eq_true rfl) (Nat.le_of_ble_eq_true rfl) ?_
  refine W.eq (g2 := F0 mM 4 ls []) rfl ?_
  refine lv_aload_n hx hb d_Tiles_init_4 rfl (lv_at hl 0 rfl) ?_
  refine lv_iload_n hx hb d_Tiles_init_5 rfl (lv_at hl 1 rfl) ?_
  refine va_putF (D := D) (ci := 0) (v := .int (nI 16)) (ty := .int) (C := "TileScreen$Tiles") (T := F_Tiles) (N := 2) hx hb htb i_Tiles t_Tiles t_Tiles_ok n_Tiles hown hG.1 hP hD hS 0 rfl rfl 0 (by decide) (htb _ k_32) (fun _ h9 => h9) rfl hnm rfl (by decide +kernel) rfl rfl (Nat.le_of_ble_eq_true rfl) d_Tiles_init_6 (fun H locs hP hD hS => ?_)
  have hP : va_P D classes [(a, .inr (0, [.int (nI 16), .null]))] H := hP
  have hD : va_D AA [(a, .inr (0, [.int (nI 16), .null]))] := hD
  refine lv_aload_n hx hb d_Tiles_init_9 rfl (lv_at hl 0 rfl) ?_
  refine lv_iload_n hx hb d_Tiles_init_10 rfl (lv_at hl 1 rfl) ?_
  refine lv_bipush (v := nI 64) hx hb d_Tiles_init_11 (by decide) ?_
  refine nv_imul hx hb d_Tiles_init_13 ?_
  refine nv_top (y := nI 1024) rfl ?_
  refine nv_newi hx hb (htb _ k_39) hG.1 hP hD hS hA 0 rfl (Nat.le_of_ble_eq_true rfl) (Nat.le_of_ble_eq_true rfl) (Nat.le_of_ble_eq_true rfl) d_Tiles_init_14 (fun q1 H hP hD hS => ?_)
  have hP : va_P D classes [(a, .inr (0, [.int (nI 16), .null])), (q1, .inl (cI, 1024, .inl (nF (fun _ => 0))))] H := hP
  have hD : va_D AA [(a, .inr (0, [.int (nI 16), .null])), (q1, .inl (cI, 1024, .inl (nF (fun _ => 0))))] := hD
  refine W.widen (k := 1) (n := 1024) (Nat.le_of_ble_eq_true rfl) (Nat.le_of_ble_eq_true rfl) ?_
  refine va_putF (D := D) (ci := 0) (v := .ref q1) (ty := .array (.int)) (C := "TileScreen$Tiles") (T := F_Tiles) (N := 2) hx hb htb i_Tiles t_Tiles t_Tiles_ok n_Tiles hown hG.1 hP hD hS 0 rfl rfl 1 (by decide) (htb _ k_33) (fun _ h9 => h9) rfl hnm rfl (by decide +kernel) rfl rfl (Nat.le_of_ble_eq_true rfl) d_Tiles_init_16 (fun H locs hP hD hS => ?_)
  have hP : va_P D classes [(a, .inr (0, [.int (nI 16), .ref q1])), (q1, .inl (cI, 1024, .inl (nF (fun _ => 0))))] H := hP
  have hD : va_D AA [(a, .inr (0, [.int (nI 16), .ref q1])), (q1, .inl (cI, 1024, .inl (nF (fun _ => 0))))] := hD
  
  exact hret q1 _ _ _ _ d_Tiles_init_19 (trivial) hP hD hS
set_option maxHeartbeats 4000000 in
set_option maxRecDepth 100000 in
theorem c_Tiles_get (a : Nat) (pp : Nat) (cnt : Nat) (n : Nat) (F : Nat → Nat) (t : Nat) (k : Nat) (h0 : t * 64 + k < n) (hn : n < 2 ^ 31) : CI (S := Unit) l classes NW D (TYS cI cZ cL cV) y_Tiles_get (.code y_Tiles_get b_Tiles_get 3 (some .int) :: TB) { frames := 0, cells := 0, slots := 0, locals := 0 } [.ref a, .int (nI t), .int (nI k)] [(a, .inr (0, [.int (nI cnt), .ref pp])), (pp, .inl (cI, n, .inl (nF F)))] (fun r u => r = nI (F (t * 64 + k))) (fun u => [(a, .inr (0, [.int (nI cnt), .ref pp])), (pp, .inl (cI, n, .inl (nF F)))]) := by
  refine CI.of (by decide) (Nat.le_of_ble_eq_true rfl) ?_
  intro pr ev sT mM aR bW mE cO AA QQ ls Bd hG hA hP hD hS hl hret
  have Bd : bd pr cO b_Tiles_get 3 sT aR TB "TileScreen$Tiles" mM := Bd
  obtain ⟨hx, hb, hml, hown, htb⟩ := id Bd
  have hl : lv_has ls 3 [(0, .ref a), (1, .int (nI t)), (2, .int (nI k))] := hl
  refine lv_aload_n hx hb d_Tiles_get_0 rfl (lv_at hl 0 rfl) ?_
  refine va_get (D := D) (ci := 0) (v := .ref pp) (C := "TileScreen$Tiles") (T := F_Tiles) (N := 2) hx hb htb i_Tiles hown hG.1 hP 0 rfl rfl 1 (by decide) (htb _ k_33) (fun _ h9 => h9) rfl d_Tiles_get_1 ?_
  refine lv_iload_n hx hb d_Tiles_get_4 rfl (lv_at hl 1 rfl) ?_
  refine lv_bipush (v := nI 64) hx hb d_Tiles_get_5 (by decide) ?_
  refine nv_imul hx hb d_Tiles_get_7 ?_
  refine lv_iload_n hx hb d_Tiles_get_8 rfl (lv_at hl 2 rfl) ?_
  refine nv_iadd hx hb d_Tiles_get_9 ?_
  refine nv_iald hx hb hG.1 hP 1 0 rfl rfl (by omega) (by omega) d_Tiles_get_10 ?_
  exact hret _ () _ _ _ _ d_Tiles_get_11 rfl (rfl) hP hD hS
set_option maxHeartbeats 4000000 in
set_option maxRecDepth 100000 in
theorem c_Tiles_set (a : Nat) (pp : Nat) (cnt : Nat) (n : Nat) (F : Nat → Nat) (t : Nat) (k : Nat) (x : Nat) (h0 : t * 64 + k < n) (hn : n < 2 ^ 31) : CV (S := Unit) l classes NW D (TYS cI cZ cL cV) y_Tiles_set (.code y_Tiles_set b_Tiles_set 4 none :: TB) { frames := 0, cells := 0, slots := 0, locals := 0 } [.ref a, .int (nI t), .int (nI k), .int (nI x)] [(a, .inr (0, [.int (nI cnt), .ref pp])), (pp, .inl (cI, n, .inl (nF F)))] (fun u => True) (fun u => [(a, .inr (0, [.int (nI cnt), .ref pp])), (pp, .inl (cI, n, .inl (nF (up F (t * 64 + k) x))))]) := by
  refine CV.of (by decide) (Nat.le_of_ble_eq_true rfl) ?_
  intro pr ev sT mM aR bW mE cO AA QQ ls Bd hG hA hP hD hS hl hnm hret
  have Bd : bd pr cO b_Tiles_set 4 sT aR TB "TileScreen$Tiles" mM := Bd
  obtain ⟨hx, hb, hml, hown, htb⟩ := id Bd
  have hl : lv_has ls 4 [(0, .ref a), (1, .int (nI t)), (2, .int (nI k)), (3, .int (nI x))] := hl
  refine lv_aload_n hx hb d_Tiles_set_0 rfl (lv_at hl 0 rfl) ?_
  refine va_get (D := D) (ci := 0) (v := .ref pp) (C := "TileScreen$Tiles") (T := F_Tiles) (N := 2) hx hb htb i_Tiles hown hG.1 hP 0 rfl rfl 1 (by decide) (htb _ k_33) (fun _ h9 => h9) rfl d_Tiles_set_1 ?_
  refine lv_iload_n hx hb d_Tiles_set_4 rfl (lv_at hl 1 rfl) ?_
  refine lv_bipush (v := nI 64) hx hb d_Tiles_set_5 (by decide) ?_
  refine nv_imul hx hb d_Tiles_set_7 ?_
  refine lv_iload_n hx hb d_Tiles_set_8 rfl (lv_at hl 2 rfl) ?_
  refine nv_iadd hx hb d_Tiles_set_9 ?_
  refine lv_iload_n hx hb d_Tiles_set_10 rfl (lv_at hl 3 rfl) ?_
  refine nv_iast hx hb hG.1 hP hD hS 1 0 rfl rfl (by omega) (by omega) d_Tiles_set_11 (fun H locs hP hD hS => ?_)
  have hP : va_P D classes [(a, .inr (0, [.int (nI cnt), .ref pp])), (pp, .inl (cI, n, .inl (nF (up F (t * 64 + k) x))))] H := hP
  have hD : va_D AA [(a, .inr (0, [.int (nI cnt), .ref pp])), (pp, .inl (cI, n, .inl (nF (up F (t * 64 + k) x))))] := hD
  exact hret () _ _ _ _ d_Tiles_set_12 (trivial) hP hD hS
set_option maxHeartbeats 4000000 in
set_option maxRecDepth 100000 in
theorem c_Tiles_take (a : Nat) (pp : Nat) (cnt : Nat) (n : Nat) (F : Nat → Nat) (b : Nat) (qq : Nat) (cnt2 : Nat) (n2 : Nat) (G : Nat → Nat) (t : Nat) (f : Nat) (h0 : t * 64 + 64 ≤ n) (h1 : f * 64 + 64 ≤ n2) (hn : n < 2 ^ 31) (hn2 : n2 < 2 ^ 31) : CV (S := Unit) l classes NW D (TYS cI cZ cL cV) y_Tiles_take (.code y_Tiles_take b_Tiles_take 4 none :: TB) { frames := 1, cells := 0, slots := 0, locals := 40 } [.ref a, .int (nI t), .ref b, .int (nI f)] [(a, .inr (0, [.int (nI cnt), .ref pp])), (pp, .inl (cI, n, .inl (nF F))), (b, .inr (0, [.int (nI cnt2), .ref qq])), (qq, .inl (cI, n2, .inl (nF G)))] (fun u => True) (fun u => [(a, .inr (0, [.int (nI cnt), .ref pp])), (pp, .inl (cI, n, .inl (nF (va_cpy G F (f * 64) (t * 64) 64)))), (b, .inr (0, [.int (nI cnt2), .ref qq])), (qq, .inl (cI, n2, .inl (nF G)))]) := by
  refine CV.of (by decide) (Nat.le_of_ble_eq_true rfl) ?_
  intro pr ev sT mM aR bW mE cO AA QQ ls Bd hG hA hP hD hS hl hnm hret
  have Bd : bd pr cO b_Tiles_take 4 sT aR TB "TileScreen$Tiles" mM := Bd
  obtain ⟨hx, hb, hml, hown, htb⟩ := id Bd
  have hl : lv_has ls 4 [(0, .ref a), (1, .int (nI t)), (2, .ref b), (3, .int (nI f))] := hl
  refine lv_aload_n hx hb d_Tiles_take_0 rfl (lv_at hl 2 rfl) ?_
  refine va_get (D := D) (ci := 0) (v := .ref qq) (C := "TileScreen$Tiles") (T := F_Tiles) (N := 2) hx hb htb i_Tiles hown hG.1 hP 2 rfl rfl 1 (by decide) (htb _ k_33) (fun _ h9 => h9) rfl d_Tiles_take_1 ?_
  refine lv_iload_n hx hb d_Tiles_take_4 rfl (lv_at hl 3 rfl) ?_
  refine lv_bipush (v := nI 64) hx hb d_Tiles_take_5 (by decide) ?_
  refine nv_imul hx hb d_Tiles_take_7 ?_
  refine lv_aload_n hx hb d_Tiles_take_8 rfl (lv_at hl 0 rfl) ?_
  refine va_get (D := D) (ci := 0) (v := .ref pp) (C := "TileScreen$Tiles") (T := F_Tiles) (N := 2) hx hb htb i_Tiles hown hG.1 hP 0 rfl rfl 1 (by decide) (htb _ k_33) (fun _ h9 => h9) rfl d_Tiles_take_9 ?_
  refine lv_iload_n hx hb d_Tiles_take_12 rfl (lv_at hl 1 rfl) ?_
  refine lv_bipush (v := nI 64) hx hb d_Tiles_take_13 (by decide) ?_
  refine nv_imul hx hb d_Tiles_take_15 ?_
  refine lv_bipush (v := nI 64) hx hb d_Tiles_take_16 (by decide) ?_
  refine nv_copy hx hb (by rw [hml]; exact hl.1.symm) hown (htb _ k_283) (htb _ k_285) (htb _ k_284) (htb _ k_11) hG.1 hP hD hS 3 1 0 rfl rfl rfl (by omega) (by omega) (by omega) (by omega) (Nat.le_of_ble_eq_true rfl) (Nat.le_of_ble_eq_true rfl) d_Tiles_take_18 (fun H locs hP hD hS => ?_)
  have hP : va_P D classes [(a, .inr (0, [.int (nI cnt), .ref pp])), (pp, .inl (cI, n, .inl (nF (va_cpy G F (f * 64) (t * 64) 64)))), (b, .inr (0, [.int (nI cnt2), .ref qq])), (qq, .inl (cI, n2, .inl (nF G)))] H := hP
  have hD : va_D AA [(a, .inr (0, [.int (nI cnt), .ref pp])), (pp, .inl (cI, n, .inl (nF (va_cpy G F (f * 64) (t * 64) 64)))), (b, .inr (0, [.int (nI cnt2), .ref qq])), (qq, .inl (cI, n2, .inl (nF G)))] := hD
  exact hret () _ _ _ _ d_Tiles_take_21 (trivial) hP hD hS
set_option maxHeartbeats 4000000 in
set_option maxRecDepth 100000 in
theorem c_Tiles_takeAll (a : Nat) (pp : Nat) (cnt : Nat) (n : Nat) (F : Nat → Nat) (b : Nat) (qq : Nat) (cnt2 : Nat) (G : Nat → Nat) (hn : n < 2 ^ 31) : CV (S := Unit) l classes NW D (TYS cI cZ cL cV) y_Tiles_takeAll (.code y_Tiles_takeAll b_Tiles_takeAll 2 none :: TB) { frames := 1, cells := 0, slots := 0, locals := 40 } [.ref a, .ref b] [(a, .inr (0, [.int (nI cnt), .ref pp])), (pp, .inl (cI, n, .inl (nF F))), (b, .inr (0, [.int (nI cnt2), .ref qq])), (qq, .inl (cI, n, .inl (nF G)))] (fun u => True) (fun u => [(a, .inr (0, [.int (nI cnt), .ref pp])), (pp, .inl (cI, n, .inl (nF G))), (b, .inr (0, [.int (nI cnt2), .ref qq])), (qq, .inl (cI, n, .inl (nF G)))]) := by
  refine CV.of (by decide) (Nat.le_of_ble_eq_true rfl) ?_
  intro pr ev sT mM aR bW mE cO AA QQ ls Bd hG hA hP hD hS hl hnm hret
  have Bd : bd pr cO b_Tiles_takeAll 2 sT aR TB "TileScreen$Tiles" mM := Bd
  obtain ⟨hx, hb, hml, hown, htb⟩ := id Bd
  have hl : lv_has ls 2 [(0, .ref a), (1, .ref b)] := hl
  refine lv_aload_n hx hb d_Tiles_takeAll_0 rfl (lv_at hl 1 rfl) ?_
  refine va_get (D := D) (ci := 0) (v := .ref qq) (C := "TileScreen$Tiles") (T := F_Tiles) (N := 2) hx hb htb i_Tiles hown hG.1 hP 2 rfl rfl 1 (by decide) (htb _ k_33) (fun _ h9 => h9) rfl d_Tiles_takeAll_1 ?_
  refine lv_iconst (v := nI 0) hx hb d_Tiles_takeAll_4 (by decide) ?_
  refine lv_aload_n hx hb d_Tiles_takeAll_5 rfl (lv_at hl 0 rfl) ?_
  refine va_get (D := D) (ci := 0) (v := .ref pp) (C := "TileScreen$Tiles") (T := F_Tiles) (N := 2) hx hb htb i_Tiles hown hG.1 hP 0 rfl rfl 1 (by decide) (htb _ k_33) (fun _ h9 => h9) rfl d_Tiles_takeAll_6 ?_
  refine lv_iconst (v := nI 0) hx hb d_Tiles_takeAll_9 (by decide) ?_
  refine lv_aload_n hx hb d_Tiles_takeAll_10 rfl (lv_at hl 0 rfl) ?_
  refine va_get (D := D) (ci := 0) (v := .ref pp) (C := "TileScreen$Tiles") (T := F_Tiles) (N := 2) hx hb htb i_Tiles hown hG.1 hP 0 rfl rfl 1 (by decide) (htb _ k_33) (fun _ h9 => h9) rfl d_Tiles_takeAll_11 ?_
  refine va_alen (v := nI n) hx hb hG.1 hP 1 0 rfl rfl rfl d_Tiles_takeAll_14 ?_
  refine nv_copy hx hb (by rw [hml]; exact hl.1.symm) hown (htb _ k_283) (htb _ k_285) (htb _ k_284) (htb _ k_11) hG.1 hP hD hS 3 1 0 rfl rfl rfl (by omega) (by omega) (by omega) (by omega) (Nat.le_of_ble_eq_true rfl) (Nat.le_of_ble_eq_true rfl) d_Tiles_takeAll_15 (fun H locs hP hD hS => ?_)
  have hP : va_P D classes [(a, .inr (0, [.int (nI cnt), .ref pp])), (pp, .inl (cI, n, .inl (nF (va_cpy G F 0 0 n)))), (b, .inr (0, [.int (nI cnt2), .ref qq])), (qq, .inl (cI, n, .inl (nF G)))] H := hP
  have hD : va_D AA [(a, .inr (0, [.int (nI cnt), .ref pp])), (pp, .inl (cI, n, .inl (nF (va_cpy G F 0 0 n)))), (b, .inr (0, [.int (nI cnt2), .ref qq])), (qq, .inl (cI, n, .inl (nF G)))] := hD
  have hP := hP_arr (G := G) hP (q0 := 1) rfl (fun j hj => by rw [pk_cpy_in (Nat.zero_le j) (by omega)]; congr 1; omega)
  have hD := hD.set (p := 1) (e := .inl (cI, n, .inl (nF G))) rfl
  exact hret () _ _ _ _ d_Tiles_takeAll_18 (trivial) hP hD hS
set_option maxHeartbeats 4000000 in
set_option maxRecDepth 100000 in
theorem c_Tiles_isSame (a : Nat) (pp : Nat) (cnt : Nat) (n : Nat) (F : Nat → Nat) (b : Nat) (qq : Nat) (cnt2 : Nat) (n2 : Nat) (G : Nat → Nat) (t : Nat) (f : Nat) (h0 : t * 64 + 64 ≤ n) (h1 : f * 64 + 64 ≤ n2) (hn : n < 2 ^ 31) (hn2 : n2 < 2 ^ 31) (bF : ∀ j, F j < 65536) (bG : ∀ j, G j < 65536) : CI (S := Unit) l classes NW D (TYS cI cZ cL cV) y_Tiles_isSame (.code y_Tiles_isSame b_Tiles_isSame 7 (some .boolean) :: TB) { frames := 0, cells := 0, slots := 0, locals := 0 } [.ref a, .int (nI t), .ref b, .int (nI f)] [(a, .inr (0, [.int (nI cnt), .ref pp])), (pp, .inl (cI, n, .inl (nF F))), (b, .inr (0, [.int (nI cnt2), .ref qq])), (qq, .inl (cI, n2, .inl (nF G)))] (fun r u => r = nI ((sameB F (t * 64) G (f * 64)).toNat)) (fun u => [(a, .inr (0, [.int (nI cnt), .ref pp])), (pp, .inl (cI, n, .inl (nF F))), (b, .inr (0, [.int (nI cnt2), .ref qq])), (qq, .inl (cI, n2, .inl (nF G)))]) := by
  refine CI.of (by decide) (Nat.le_of_ble_eq_true rfl) ?_
  intro pr ev sT mM aR bW mE cO AA QQ ls Bd hG hA hP hD hS hl hret
  have Bd : bd pr cO b_Tiles_isSame 7 sT aR TB "TileScreen$Tiles" mM := Bd
  obtain ⟨hx, hb, hml, hown, htb⟩ := id Bd
  have hl : lv_has ls 7 [(0, .ref a), (1, .int (nI t)), (2, .ref b), (3, .int (nI f))] := hl
  refine lv_iload_n hx hb d_Tiles_isSame_0 rfl (lv_at hl 1 rfl) ?_
  refine lv_bipush (v := nI 64) hx hb d_Tiles_isSame_1 (by decide) ?_
  refine nv_imul hx hb d_Tiles_isSame_3 ?_
  refine lv_istore (lv' := [(4, .int (nI (t * 64))), (0, .ref a), (1, .int (nI t)), (2, .ref b), (3, .int (nI f))]) hx hb d_Tiles_isSame_4 hl (by decide) rfl (fun ls hl => ?_)
  refine lv_iload_n hx hb d_Tiles_isSame_6 rfl (lv_at hl 4 rfl) ?_
  refine lv_bipush (v := nI 64) hx hb d_Tiles_isSame_7 (by decide) ?_
  refine nv_imul hx hb d_Tiles_isSame_9 ?_
  refine lv_istore (lv' := [(5, .int (nI (f * 64))), (4, .int (nI (t * 64))), (0, .ref a), (1, .int (nI t)), (2, .ref b), (3, .int (nI f))]) hx hb d_Tiles_isSame_10 hl (by decide) rfl (fun ls hl => ?_)
  refine lv_iconst (v := nI 0) hx hb d_Tiles_isSame_12 (by decide) ?_
  refine lv_istore (lv' := [(6, .int (nI 0)), (5, .int (nI (f * 64))), (4, .int (nI (t * 64))), (0, .ref a), (1, .int (nI t)), (2, .ref b), (3, .int (nI f))]) hx hb d_Tiles_isSame_13 hl (by decide) rfl (fun ls hl => ?_)
  have lp_15 : ∀ (nn : Nat) (k : Nat) (hk : k ≤ 64) (hs : ∀ j, j < k → F (t * 64 + j) = G (f * 64 + j)), 64 - k < nn → ∀ (H : Heap) (locs : List Loc) (ls : Array Slot), va_P D classes [(a, .inr (0, [.int (nI cnt), .ref pp])), (pp, .inl (cI, n, .inl (nF F))), (b, .inr (0, [.int (nI cnt2), .ref qq])), (qq, .inl (cI, n2, .inl (nF G)))] H → va_D AA [(a, .inr (0, [.int (nI cnt), .ref pp])), (pp, .inl (cI, n, .inl (nF F))), (b, .inr (0, [.int (nI cnt2), .ref qq])), (qq, .inl (cI, n2, .inl (nF G)))] → va_S AA sT.heap H locs → lv_has ls 7 [(6, .int (nI k)), (5, .int (nI (f * 64))), (4, .int (nI (t * 64))), (0, .ref a), (1, .int (nI t)), (2, .ref b), (3, .int (nI f))] → W pr l ev ({ frames := 0, cells := 0, slots := 0, locals := 0 } : Room) sT mM aR bW mE cO H locs 0 0 QQ (F0 mM 15 ls []) := by
    intro nn
    induction nn with
    | zero => intro k hk hs hm; exact absurd hm (Nat.not_lt_zero _)
    | succ nn ih =>
      intro k hk hs hm H locs ls hP hD hS hl
      refine lv_iload hx hb d_Tiles_isSame_15 (lv_at hl 0 rfl) ?_
      refine lv_bipush (v := nI 64) hx hb d_Tiles_isSame_17 (by decide) ?_
      refine nv_icmp_ge (tgt := 53) hx hb d_Tiles_isSame_19 (by decide) (by omega) (by omega) (fun c_19 => ?_) (fun c_19 => ?_)
      · refine lv_iconst (v := nI 1) hx hb d_Tiles_isSame_53 (by decide) ?_
        exact hret _ () _ _ _ _ d_Tiles_isSame_54 (by first | rfl | decide) (by rw [sameB_t (fun j hj => hs j (by omega))]; rfl) hP hD hS
      · refine lv_aload_n hx hb d_Tiles_isSame_22 rfl (lv_at hl 3 rfl) ?_
        refine va_get (D := D) (ci := 0) (v := .ref pp) (C := "TileScreen$Tiles") (T := F_Tiles) (N := 2) hx hb htb i_Tiles hown hG.1 hP 0 rfl rfl 1 (by decide) (htb _ k_33) (fun _ h9 => h9) rfl d_Tiles_isSame_23 ?_
        refine lv_iload hx hb d_Tiles_isSame_26 (lv_at hl 2 rfl) ?_
        refine lv_iload hx hb d_Tiles_isSame_28 (lv_at hl 0 rfl) ?_
        refine nv_iadd hx hb d_Tiles_isSame_30 ?_
        refine nv_iald hx hb hG.1 hP 1 0 rfl rfl (by omega) (by omega) d_Tiles_isSame_31 ?_
        refine lv_aload_n hx hb d_Tiles_isSame_32 rfl (lv_at hl 5 rfl) ?_
        refine va_get (D := D) (ci := 0) (v := .ref qq) (C := "TileScreen$Tiles") (T := F_Tiles) (N := 2) hx hb htb i_Tiles hown hG.1 hP 2 rfl rfl 1 (by decide) (htb _ k_33) (fun _ h9 => h9) rfl d_Tiles_isSame_33 ?_
        refine lv_iload hx hb d_Tiles_isSame_36 (lv_at hl 1 rfl) ?_
        refine lv_iload hx hb d_Tiles_isSame_38 (lv_at hl 0 rfl) ?_
        refine nv_iadd hx hb d_Tiles_isSame_40 ?_
        refine nv_iald hx hb hG.1 hP 3 0 rfl rfl (by omega) (by omega) d_Tiles_isSame_41 ?_
        refine nv_icmp_eq (tgt := 47) hx hb d_Tiles_isSame_42 (by decide) (Nat.lt_trans (bF _) (by decide)) (Nat.lt_trans (bG _) (by decide)) (fun c_42 => ?_) (fun c_42 => ?_)
        · refine lv_iinc (v := (nI (k + 1))) (lv' := [(6, .int (nI (k + 1))), (5, .int (nI (f * 64))), (4, .int (nI (t * 64))), (0, .ref a), (1, .int (nI t)), (2, .ref b), (3, .int (nI f))]) hx hb d_Tiles_isSame_47 hl (k := 0) rfl (nI_add k 1) (by decide) rfl (fun ls hl => ?_)
          refine lv_goto (tgt := 15) hx hb d_Tiles_isSame_50 (by decide) ?_
          exact ih (k + 1) (by omega) (fun j hj => by rcases (show j < k ∨ j = k by omega) with q | q; exact hs j q; rw [q]; exact c_42) (by omega) _ _ _ hP hD hS (lv_sub hl [0, 1, 2, 3, 4, 5, 6] rfl)
        · refine lv_iconst (v := nI 0) hx hb d_Tiles_isSame_45 (by decide) ?_
          exact hret _ () _ _ _ _ d_Tiles_isSame_46 (by first | rfl | decide) (by rw [sameB_f (k := k) (by omega) c_42]; rfl) hP hD hS
  exact lp_15 _ 0 (Nat.zero_le _) (fun j hj => absurd hj (Nat.not_lt_zero j)) (Nat.lt_succ_self _) _ _ _ hP hD hS (lv_sub hl [0, 1, 2, 3, 4, 5, 6] rfl)
set_option maxHeartbeats 4000000 in
set_option maxRecDepth 100000 in
theorem c_Tiles_find (a : Nat) (pp : Nat) (cnt : Nat) (n : Nat) (F : Nat → Nat) (b : Nat) (qq : Nat) (cnt2 : Nat) (n2 : Nat) (G : Nat → Nat) (m : Nat) (f : Nat) (h0 : m * 64 ≤ n) (h1 : f * 64 + 64 ≤ n2) (hn : n < 2 ^ 31) (hn2 : n2 < 2 ^ 31) (bF : ∀ j, F j < 65536) (bG : ∀ j, G j < 65536) : CI (S := Unit) l classes NW D (TYS cI cZ cL cV) y_Tiles_find (.code y_Tiles_find b_Tiles_find 5 (some .int) :: TB) { frames := 1, cells := 0, slots := 0, locals := 26 } [.ref a, .int (nI m), .ref b, .int (nI f)] [(a, .inr (0, [.int (nI cnt), .ref pp])), (pp, .inl (cI, n, .inl (nF F))), (b, .inr (0, [.int (nI cnt2), .ref qq])), (qq, .inl (cI, n2, .inl (nF G)))] (fun r u => isFind (fun i => sameB F (i * 64) G (f * 64)) m r) (fun u => [(a, .inr (0, [.int (nI cnt), .ref pp])), (pp, .inl (cI, n, .inl (nF F))), (b, .inr (0, [.int (nI cnt2), .ref qq])), (qq, .inl (cI, n2, .inl (nF G)))]) := by
  refine CI.of (by decide) (Nat.le_of_ble_eq_true rfl) ?_
  intro pr ev sT mM aR bW mE cO AA QQ ls Bd hG hA hP hD hS hl hret
  have Bd : bd pr cO b_Tiles_find 5 sT aR TB "TileScreen$Tiles" mM := Bd
  obtain ⟨hx, hb, hml, hown, htb⟩ := id Bd
  have hl : lv_has ls 5 [(0, .ref a), (1, .int (nI m)), (2, .ref b), (3, .int (nI f))] := hl
  refine lv_iconst (v := nI 0) hx hb d_Tiles_find_0 (by decide) ?_
  refine lv_istore (lv' := [(4, .int (nI 0)), (0, .ref a), (1, .int (nI m)), (2, .ref b), (3, .int (nI f))]) hx hb d_Tiles_find_1 hl (by decide) rfl (fun ls hl => ?_)
  have lp_3 : ∀ (nn : Nat) (k : Nat) (hk : k ≤ m) (hs : ∀ i, i < k → sameB F (i * 64) G (f * 64) = false), m - k < nn → ∀ (H : Heap) (locs : List Loc) (ls : Array Slot), va_P D classes [(a, .inr (0, [.int (nI cnt), .ref pp])), (pp, .inl (cI, n, .inl (nF F))), (b, .inr (0, [.int (nI cnt2), .ref qq])), (qq, .inl (cI, n2, .inl (nF G)))] H → va_D AA [(a, .inr (0, [.int (nI cnt), .ref pp])), (pp, .inl (cI, n, .inl (nF F))), (b, .inr (0, [.int (nI cnt2), .ref qq])), (qq, .inl (cI, n2, .inl (nF G)))] → va_S AA sT.heap H locs → lv_has ls 5 [(4, .int (nI k)), (0, .ref a), (1, .int (nI m)), (2, .ref b), (3, .int (nI f))] → W pr l ev ({ frames := 1, cells := 0, slots := 0, locals := 26 } : Room) sT mM aR bW mE cO H locs 0 0 QQ (F0 mM 3 ls []) := by
    intro nn
    induction nn with
    | zero => intro k hk hs hm; exact absurd hm (Nat.not_lt_zero _)
    | succ nn ih =>
      intro k hk hs hm H locs ls hP hD hS hl
      refine lv_iload hx hb d_Tiles_find_3 (lv_at hl 0 rfl) ?_
      refine lv_iload_n hx hb d_Tiles_find_5 rfl (lv_at hl 2 rfl) ?_
      refine nv_icmp_ge (tgt := 29) hx hb d_Tiles_find_6 (by decide) (by omega) (by omega) (fun c_6 => ?_) (fun c_6 => ?_)
      · refine lv_iconst (v := -1) hx hb d_Tiles_find_29 (by decide) ?_
        exact hret _ () _ _ _ _ d_Tiles_find_30 rfl (Or.inl ⟨rfl, fun i hi => hs i (by omega)⟩) hP hD hS
      · refine lv_aload_n hx hb d_Tiles_find_9 rfl (lv_at hl 1 rfl) ?_
        refine lv_iload hx hb d_Tiles_find_10 (lv_at hl 0 rfl) ?_
        refine lv_aload_n hx hb d_Tiles_find_12 rfl (lv_at hl 3 rfl) ?_
        refine lv_iload_n hx hb d_Tiles_find_13 rfl (lv_at hl 4 rfl) ?_
        refine kV_i (wc := [(a, .inr (0, [.int (nI cnt), .ref pp])), (pp, .inl (cI, n, .inl (nF F))), (b, .inr (0, [.int (nI cnt2), .ref qq])), (qq, .inl (cI, n2, .inl (nF G)))]) (wr := []) (w2 := fun _ => [(a, .inr (0, [.int (nI cnt), .ref pp])), (pp, .inl (cI, n, .inl (nF F))), (b, .inr (0, [.int (nI cnt2), .ref qq])), (qq, .inl (cI, n2, .inl (nF G)))]) [.int (nI k), .ref b, .int (nI f)] [] Bd ⟨gi_app (gi_c0 k_378 (gi_c0 k_354 (gi_c0 k_355 (gi_c0 k_2 gi_nil)))) (gi_tb0 k_356), rfl, by decide, by decide⟩ (show (parseMethodDescriptor "(ILTileScreen$Tiles;I)Z").map (fun d => d.parameters.length) = some 3 by decide +kernel) (c_Tiles_isSame a pp cnt n F b qq cnt2 n2 G k f (by omega) (by omega) (by omega) (by omega) (bF) (bG)) (by decide +kernel) ⟨Nat.le_of_ble_eq_true rfl, Nat.le_of_ble_eq_true rfl⟩ hG hP hD hS hA [0, 1, 2, 3] [] [0, 1, 2, 3] (by decide) rfl rfl (fun _ => rfl) (q0 := 0) rfl rfl rfl hl.1 rfl (Nat.le_of_ble_eq_true rfl) d_Tiles_find_14 (fun r2 u4 H locs hp3 hP hD hS => ?_)
        have hP : va_P D classes [(a, .inr (0, [.int (nI cnt), .ref pp])), (pp, .inl (cI, n, .inl (nF F))), (b, .inr (0, [.int (nI cnt2), .ref qq])), (qq, .inl (cI, n2, .inl (nF G)))] H := hP
        have hD : va_D AA [(a, .inr (0, [.int (nI cnt), .ref pp])), (pp, .inl (cI, n, .inl (nF F))), (b, .inr (0, [.int (nI cnt2), .ref qq])), (qq, .inl (cI, n2, .inl (nF G)))] := hD
        subst hp3
        refine nv_if_eq (tgt := 23) hx hb d_Tiles_find_17 (by decide) (bt_lt _) (fun c_17 => ?_) (fun c_17 => ?_)
        · refine lv_iinc (v := (nI (k + 1))) (lv' := [(4, .int (nI (k + 1))), (0, .ref a), (1, .int (nI m)), (2, .ref b), (3, .int (nI f))]) hx hb d_Tiles_find_23 hl (k := 0) rfl (nI_add k 1) (by decide) rfl (fun ls hl => ?_)
          refine lv_goto (tgt := 3) hx hb d_Tiles_find_26 (by decide) ?_
          exact ih (k + 1) (by omega) (fun j hj => by rcases (show j < k ∨ j = k by omega) with q | q; exact hs j q; rw [q]; exact bt0 c_17) (by omega) _ _ _ hP hD hS (lv_sub hl [0, 1, 2, 3, 4] rfl)
        · refine lv_iload hx hb d_Tiles_find_20 (lv_at hl 0 rfl) ?_
          exact hret _ () _ _ _ _ d_Tiles_find_22 rfl (Or.inr ⟨k, by omega, rfl, bt1 c_17, hs⟩) hP hD hS
  exact lp_3 _ 0 (Nat.zero_le _) (fun j hj => absurd hj (Nat.not_lt_zero j)) (Nat.lt_succ_self _) _ _ _ hP hD hS (lv_sub hl [0, 1, 2, 3, 4] rfl)
set_option maxHeartbeats 4000000 in
set_option maxRecDepth 100000 in
theorem c_Tiles_countOther (a : Nat) (pp : Nat) (cnt : Nat) (n : Nat) (F : Nat → Nat) (b : Nat) (qq : Nat) (cnt2 : Nat) (n2 : Nat) (G : Nat → Nat) (h0 : cnt * 64 ≤ n) (h1 : cnt * 64 ≤ n2) (hn : n < 2 ^ 31) (hn2 : n2 < 2 ^ 31) (bF : ∀ j, F j < 65536) (bG : ∀ j, G j < 65536) : CI (S := Unit) l classes NW D (TYS cI cZ cL cV) y_Tiles_countOther (.code y_Tiles_countOther b_Tiles_countOther 4 (some .int) :: TB) { frames := 1, cells := 0, slots := 0, locals := 26 } [.ref a, .ref b] [(a, .inr (0, [.int (nI cnt), .ref pp])), (pp, .inl (cI, n, .inl (nF F))), (b, .inr (0, [.int (nI cnt2), .ref qq])), (qq, .inl (cI, n2, .inl (nF G)))] (fun r u => r = nI (cntN (fun i => sameB F (i * 64) G (i * 64)) cnt)) (fun u => [(a, .inr (0, [.int (nI cnt), .ref pp])), (pp, .inl (cI, n, .inl (nF F))), (b, .inr (0, [.int (nI cnt2), .ref qq])), (qq, .inl (cI, n2, .inl (nF G)))]) := by
  refine CI.of (by decide) (Nat.le_of_ble_eq_true rfl) ?_
  intro pr ev sT mM aR bW mE cO AA QQ ls Bd hG hA hP hD hS hl hret
  have Bd : bd pr cO b_Tiles_countOther 4 sT aR TB "TileScreen$Tiles" mM := Bd
  obtain ⟨hx, hb, hml, hown, htb⟩ := id Bd
  have hl : lv_has ls 4 [(0, .ref a), (1, .ref b)] := hl
  refine lv_iconst (v := nI 0) hx hb d_Tiles_countOther_0 (by decide) ?_
  refine lv_istore_n (lv' := [(2, .int (nI 0)), (0, .ref a), (1, .ref b)]) hx hb d_Tiles_countOther_1 rfl hl (by decide) rfl (fun ls hl => ?_)
  refine lv_iconst (v := nI 0) hx hb d_Tiles_countOther_2 (by decide) ?_
  refine lv_istore_n (lv' := [(3, .int (nI 0)), (2, .int (nI 0)), (0, .ref a), (1, .ref b)]) hx hb d_Tiles_countOther_3 rfl hl (by decide) rfl (fun ls hl => ?_)
  have lp_4 : ∀ (nn : Nat) (k : Nat) (d : Nat) (hk : k ≤ cnt) (hd : d = cntN (fun i => sameB F (i * 64) G (i * 64)) k), cnt - k < nn → ∀ (H : Heap) (locs : List Loc) (ls : Array Slot), va_P D classes [(a, .inr (0, [.int (nI cnt), .ref pp])), (pp, .inl (cI, n, .inl (nF F))), (b, .inr (0, [.int (nI cnt2), .ref qq])), (qq, .inl (cI, n2, .inl (nF G)))] H → va_D AA [(a, .inr (0, [.int (nI cnt), .ref pp])), (pp, .inl (cI, n, .inl (nF F))), (b, .inr (0, [.int (nI cnt2), .ref qq])), (qq, .inl (cI, n2, .inl (nF G)))] → va_S AA sT.heap H locs → lv_has ls 4 [(3, .int (nI k)), (2, .int (nI d)), (0, .ref a), (1, .ref b)] → W pr l ev ({ frames := 1, cells := 0, slots := 0, locals := 26 } : Room) sT mM aR bW mE cO H locs 0 0 QQ (F0 mM 4 ls []) := by
    intro nn
    induction nn with
    | zero => intro k d hk hd hm; exact absurd hm (Nat.not_lt_zero _)
    | succ nn ih =>
      intro k d hk hd hm H locs ls hP hD hS hl
      refine lv_iload_n hx hb d_Tiles_countOther_4 rfl (lv_at hl 0 rfl) ?_
      refine lv_aload_n hx hb d_Tiles_countOther_5 rfl (lv_at hl 2 rfl) ?_
      refine va_get (D := D) (ci := 0) (v := .int (nI cnt)) (C := "TileScreen$Tiles") (T := F_Tiles) (N := 2) hx hb htb i_Tiles hown hG.1 hP 0 rfl rfl 0 (by decide) (htb _ k_32) (fun _ h9 => h9) rfl d_Tiles_countOther_6 ?_
      refine nv_icmp_ge (tgt := 31) hx hb d_Tiles_countOther_9 (by decide) (by omega) (by omega) (fun c_9 => ?_) (fun c_9 => ?_)
      · refine lv_iload_n hx hb d_Tiles_countOther_31 rfl (lv_at hl 1 rfl) ?_
        exact hret _ () _ _ _ _ d_Tiles_countOther_32 rfl (by rw [hd, show k = cnt by omega]) hP hD hS
      · refine lv_aload_n hx hb d_Tiles_countOther_12 rfl (lv_at hl 2 rfl) ?_
        refine lv_iload_n hx hb d_Tiles_countOther_13 rfl (lv_at hl 0 rfl) ?_
        refine lv_aload_n hx hb d_Tiles_countOther_14 rfl (lv_at hl 3 rfl) ?_
        refine lv_iload_n hx hb d_Tiles_countOther_15 rfl (lv_at hl 0 rfl) ?_
        refine kV_i (wc := [(a, .inr (0, [.int (nI cnt), .ref pp])), (pp, .inl (cI, n, .inl (nF F))), (b, .inr (0, [.int (nI cnt2), .ref qq])), (qq, .inl (cI, n2, .inl (nF G)))]) (wr := []) (w2 := fun _ => [(a, .inr (0, [.int (nI cnt), .ref pp])), (pp, .inl (cI, n, .inl (nF F))), (b, .inr (0, [.int (nI cnt2), .ref qq])), (qq, .inl (cI, n2, .inl (nF G)))]) [.int (nI k), .ref b, .int (nI k)] [] Bd ⟨gi_app (gi_c0 k_378 (gi_c0 k_354 (gi_c0 k_355 (gi_c0 k_2 gi_nil)))) (gi_tb0 k_356), rfl, by decide, by decide⟩ (show (parseMethodDescriptor "(ILTileScreen$Tiles;I)Z").map (fun d => d.parameters.length) = some 3 by decide +kernel) (c_Tiles_isSame a pp cnt n F b qq cnt2 n2 G k k (by omega) (by omega) (by omega) (by omega) (bF) (bG)) (by decide +kernel) ⟨Nat.le_of_ble_eq_true rfl, Nat.le_of_ble_eq_true rfl⟩ hG hP hD hS hA [0, 1, 2, 3] [] [0, 1, 2, 3] (by decide) rfl rfl (fun _ => rfl) (q0 := 0) rfl rfl rfl hl.1 rfl (Nat.le_of_ble_eq_true rfl) d_Tiles_countOther_16 (fun r2 u4 H locs hp3 hP hD hS => ?_)
        have hP : va_P D classes [(a, .inr (0, [.int (nI cnt), .ref pp])), (pp, .inl (cI, n, .inl (nF F))), (b, .inr (0, [.int (nI cnt2), .ref qq])), (qq, .inl (cI, n2, .inl (nF G)))] H := hP
        have hD : va_D AA [(a, .inr (0, [.int (nI cnt), .ref pp])), (pp, .inl (cI, n, .inl (nF F))), (b, .inr (0, [.int (nI cnt2), .ref qq])), (qq, .inl (cI, n2, .inl (nF G)))] := hD
        subst hp3
        refine nv_if_ne (tgt := 25) hx hb d_Tiles_countOther_19 (by decide) (bt_lt _) (fun c_19 => ?_) (fun c_19 => ?_)
        · refine lv_iinc (v := (nI (k + 1))) (lv' := [(3, .int (nI (k + 1))), (2, .int (nI d)), (0, .ref a), (1, .ref b)]) hx hb d_Tiles_countOther_25 hl (k := 0) rfl (nI_add k 1) (by decide) rfl (fun ls hl => ?_)
          refine lv_goto (tgt := 4) hx hb d_Tiles_countOther_28 (by decide) ?_
          exact ih (k + 1) d (by omega) (hd.trans (cntN_t (P := fun i => sameB F (i * 64) G (i * 64)) (bt1 c_19)).symm) (by omega) _ _ _ hP hD hS (lv_sub hl [0, 1, 2, 3] rfl)
        · refine lv_iinc (v := (nI (d + 1))) (lv' := [(2, .int (nI (d + 1))), (3, .int (nI k)), (0, .ref a), (1, .ref b)]) hx hb d_Tiles_countOther_22 hl (k := 1) rfl (nI_add d 1) (by decide) rfl (fun ls hl => ?_)
          refine lv_iinc (v := (nI (k + 1))) (lv' := [(3, .int (nI (k + 1))), (2, .int (nI (d + 1))), (0, .ref a), (1, .ref b)]) hx hb d_Tiles_countOther_25 hl (k := 1) rfl (nI_add k 1) (by decide) rfl (fun ls hl => ?_)
          refine lv_goto (tgt := 4) hx hb d_Tiles_countOther_28 (by decide) ?_
          exact ih (k + 1) (d + 1) (by omega) (by rw [hd]; exact (cntN_f (P := fun i => sameB F (i * 64) G (i * 64)) (bt0 c_19)).symm) (by omega) _ _ _ hP hD hS (lv_sub hl [0, 1, 2, 3] rfl)
  exact lp_4 _ 0 0 (Nat.zero_le _) (rfl) (Nat.lt_succ_self _) _ _ _ hP hD hS (lv_sub hl [0, 1, 2, 3] rfl)
end
end
section
/-! pure words of the poisons and of a tile's look -/
def kpN (q : Nat → Nat) : Nat → Nat
  | 0 => 0
  | k + 1 => kpN q k + (if q k = 1 then 0 else 1)
def cmA (q : Nat → Nat) : Nat → Nat → Nat
  | 0 => q
  | k + 1 => if q k = 1 then cmA q k else up (cmA q k) (kpN q k) (q k - 1)
def cmM (q w : Nat → Nat) : Nat → Nat → Nat
  | 0 => w
  | k + 1 => if q k = 1 then cmM q w k else up (cmM q w k) (kpN q k) (w k)
def cmX (q w : Nat → Nat) (x : Nat) : Nat → Nat
  | 0 => x
  | k + 1 => if q k = 1 then cmX q w x k ^^^ w k else cmX q w x k
theorem kpN_le (q : Nat → Nat) : ∀ k, kpN q k ≤ k
  | 0 => Nat.le_refl 0
  | k + 1 => by
    have h := kpN_le q k
    show kpN q k + (if q k = 1 then 0 else 1) ≤ k + 1
    by_cases h1 : q k = 1
    · rw [if_pos h1]; omega
    · rw [if_neg h1]; omega
theorem kpN_1 {q : Nat → Nat} {k : Nat} (h : q k = 1) : kpN q (k + 1) = kpN q k := by show kpN q k + (if q k = 1 then 0 else 1) = _; rw [if_pos h]; rfl
theorem kpN_2 {q : Nat → Nat} {k : Nat} (h : q k ≠ 1) : kpN q (k + 1) = kpN q k + 1 := by show kpN q k + (if q k = 1 then 0 else 1) = _; rw [if_neg h]
theorem cmA_1 {q : Nat → Nat} {k : Nat} (h : q k = 1) : cmA q (k + 1) = cmA q k := if_pos h
theorem cmA_2 {q : Nat → Nat} {k : Nat} (h : q k ≠ 1) : cmA q (k + 1) = up (cmA q k) (kpN q k) (q k - 1) := if_neg h
theorem cmM_1 {q w : Nat → Nat} {k : Nat} (h : q k = 1) : cmM q w (k + 1) = cmM q w k := if_pos h
theorem cmM_2 {q w : Nat → Nat} {k : Nat} (h : q k ≠ 1) : cmM q w (k + 1) = up (cmM q w k) (kpN q k) (w k) := if_neg h
theorem cmX_1 {q w : Nat → Nat} {x k : Nat} (h : q k = 1) : cmX q w x (k + 1) = cmX q w x k ^^^ w k := if_pos h
theorem cmX_2 {q w : Nat → Nat} {x k : Nat} (h : q k ≠ 1) : cmX q w x (k + 1) = cmX q w x k := if_neg h
theorem cmA_hi (q : Nat → Nat) : ∀ (k j : Nat), kpN q k ≤ j → cmA q k j = q j
  | 0, _, _ => rfl
  | k + 1, j, h => by
    by_cases h1 : q k = 1
    · rw [cmA_1 h1]
      exact cmA_hi q k j (by rw [kpN_1 h1] at h; exact h)
    · rw [kpN_2 h1] at h
      rw [cmA_2 h1, up_n _ _ (by omega)]
      exact cmA_hi q k j (by omega)
theorem cmM_hi (q w : Nat → Nat) : ∀ (k j : Nat), kpN q k ≤ j → cmM q w k j = w j
  | 0, _, _ => rfl
  | k + 1, j, h => by
    by_cases h1 : q k = 1
    · rw [cmM_1 h1]
      exact cmM_hi q w k j (by rw [kpN_1 h1] at h; exact h)
    · rw [kpN_2 h1] at h
      rw [cmM_2 h1, up_n _ _ (by omega)]
      exact cmM_hi q w k j (by omega)
theorem cmA_at (q : Nat → Nat) (k : Nat) : cmA q k k = q k := cmA_hi q k k (kpN_le q k)
theorem cmM_at (q w : Nat → Nat) (k : Nat) : cmM q w k k = w k := cmM_hi q w k k (kpN_le q k)
theorem up_lt {F : Nat → Nat} {B : Nat} (h : ∀ j, F j < B) {k v : Nat} (hv : v < B) : ∀ j, up F k v j < B := fun j => by
  by_cases e : j = k
  · rw [e, up_s]; exact hv
  · rw [up_n _ _ e]; exact h j
theorem cpy_lt {F G : Nat → Nat} {B : Nat} (hF : ∀ j, F j < B) (hG : ∀ j, G j < B) (sp dp n : Nat) : ∀ j, va_cpy F G sp dp n j < B := fun j => by
  by_cases e : dp ≤ j ∧ j < dp + n
  · rw [pk_cpy_in e.1 e.2]; exact hF _
  · rw [pk_cpy_out (by omega)]; exact hG _
theorem cmA_lt {q : Nat → Nat} {B : Nat} (h : ∀ j, q j < B) : ∀ k j, cmA q k j < B
  | 0, j => h j
  | k + 1, j => by
    by_cases h1 : q k = 1
    · rw [cmA_1 h1]; exact cmA_lt h k j
    · rw [cmA_2 h1]; exact up_lt (cmA_lt h k) (by have := h k; omega) j
theorem cmM_lt {q w : Nat → Nat} {B : Nat} (h : ∀ j, w j < B) : ∀ k j, cmM q w k j < B
  | 0, j => h j
  | k + 1, j => by
    by_cases h1 : q k = 1
    · rw [cmM_1 h1]; exact cmM_lt h k j
    · rw [cmM_2 h1]; exact up_lt (cmM_lt h k) (h k) j
theorem cmX_lt {q w : Nat → Nat} {x : Nat} (hx : x < 256) (h : ∀ j, w j < 256) : ∀ k, cmX q w x k < 256
  | 0 => hx
  | k + 1 => by
    by_cases h1 : q k = 1
    · rw [cmX_1 h1]; exact Nat.xor_lt_two_pow (n := 8) (cmX_lt hx h k) (h k)
    · rw [cmX_2 h1]; exact cmX_lt hx h k
/-- a pixel has the colour of the one before it -/
def sameP (T : Nat → Nat) (k : Nat) : Bool := (k != 0) && (T k == T (k - 1))
def bef (T : Nat → Nat) : Nat → Int32
  | 0 => -1
  | k + 1 => nI (T k)
theorem bef_iff {T : Nat → Nat} (h : ∀ j, T j < 65536) (k : Nat) : nI (T k) = bef T k ↔ sameP T k = true := by
  cases k with
  | zero =>
    constructor
    · intro q
      have h1 := nI_toInt (Nat.lt_trans (h 0) (by decide : 65536 < 2 ^ 31))
      rw [q] at h1
      exact absurd h1 (by show ¬ (-1 : Int) = _; omega)
    · intro q
      exact absurd q (by simp [sameP])
  | succ k =>
    show nI (T (k + 1)) = nI (T k) ↔ _
    rw [nI_eq (Nat.lt_trans (h _) (by decide)) (Nat.lt_trans (h _) (by decide))]
    simp [sameP]
def runsN (T : Nat → Nat) : Nat → Nat
  | 0 => 0
  | k + 1 => runsN T k + (!sameP T k).toNat
theorem runsN_le (T : Nat → Nat) : ∀ k, runsN T k ≤ k
  | 0 => Nat.le_refl 0
  | k + 1 => by
    have h1 := runsN_le T k
    have h2 := bt_le (!sameP T k)
    show runsN T k + (!sameP T k).toNat ≤ k + 1
    omega
theorem runsN_t {T : Nat → Nat} {k : Nat} (h : sameP T k = true) : runsN T (k + 1) = runsN T k := by show runsN T k + (!sameP T k).toNat = _; rw [h]; rfl
theorem runsN_f {T : Nat → Nat} {k : Nat} (h : ¬ sameP T k = true) : runsN T (k + 1) = runsN T k + 1 := by show runsN T k + (!sameP T k).toNat = _; rw [Bool.eq_false_iff.mpr h]; rfl
/-- a colour is among the first four of the palette -/
def inPal (P : Nat → Nat) (nc x : Nat) : Bool := (List.range (min nc 4)).any (fun i => P i == x)
def meP (P : Nat → Nat) (nc x : Nat) : Nat → Nat := if inPal P nc x then P else if nc < 4 then up P nc x else P
def meN (P : Nat → Nat) (nc x : Nat) : Nat := if inPal P nc x then nc else nc + 1
def stu (T P0 : Nat → Nat) : Nat → (Nat → Nat) × Nat
  | 0 => (P0, 0)
  | k + 1 => if sameP T k then stu T P0 k else (meP (stu T P0 k).1 (stu T P0 k).2 (T k), meN (stu T P0 k).1 (stu T P0 k).2 (T k))
theorem stu_t {T P0 : Nat → Nat} {k : Nat} (h : sameP T k = true) : stu T P0 (k + 1) = stu T P0 k := if_pos h
theorem stu_f {T P0 : Nat → Nat} {k : Nat} (h : ¬ sameP T k = true) : stu T P0 (k + 1) = (meP (stu T P0 k).1 (stu T P0 k).2 (T k), meN (stu T P0 k).1 (stu T P0 k).2 (T k)) := if_neg h
theorem inPal_iff {P : Nat → Nat} {nc x : Nat} : inPal P nc x = true ↔ ∃ i, i < min nc 4 ∧ P i = x := by
  unfold inPal
  rw [List.any_eq_true]
  constructor
  · rintro ⟨i, h1, h2⟩
    exact ⟨i, List.mem_range.mp h1, eq_of_beq h2⟩
  · rintro ⟨i, h1, h2⟩
    exact ⟨i, List.mem_range.mpr h1, beq_iff_eq.mpr h2⟩
theorem inPal_find {P : Nat → Nat} {nc x : Nat} {r : Int32} (h : isFind (fun i => P i == x) (min nc 4) r) : (r = -1 ↔ inPal P nc x = false) := by
  rcases h with ⟨h1, h2⟩ | ⟨i, h1, h2, h3, -⟩
  · refine ⟨fun _ => ?_, fun _ => h1⟩
    cases q : inPal P nc x
    · rfl
    · obtain ⟨i, g1, g2⟩ := inPal_iff.mp q
      have := h2 i g1
      simp [g2] at this
  · have g : inPal P nc x = true := inPal_iff.mpr ⟨i, h1, eq_of_beq h3⟩
    rw [g]
    refine ⟨fun q => ?_, fun q => absurd q (by decide)⟩
    have g1 := nI_toInt (show i < 2 ^ 31 by omega)
    rw [← h2, q] at g1
    exact absurd g1 (by show ¬ (-1 : Int) = _; omega)
theorem meP_lt {P : Nat → Nat} {nc x : Nat} (h : ∀ j, P j < 65536) (hx : x < 65536) : ∀ j, meP P nc x j < 65536 := by
  unfold meP
  split
  · exact h
  · split
    · exact up_lt h hx
    · exact h
theorem meN_le (P : Nat → Nat) (nc x : Nat) : meN P nc x ≤ nc + 1 := by
  unfold meN
  split <;> omega
theorem stu_lt {T P0 : Nat → Nat} (hT : ∀ j, T j < 65536) (hP : ∀ j, P0 j < 65536) : ∀ k j, (stu T P0 k).1 j < 65536
  | 0, j => hP j
  | k + 1, j => by
    by_cases h : sameP T k = true
    · rw [stu_t h]; exact stu_lt hT hP k j
    · rw [stu_f h]; exact meP_lt (stu_lt hT hP k) (hT k) j
theorem stu_le (T P0 : Nat → Nat) : ∀ k, (stu T P0 k).2 ≤ k
  | 0 => Nat.le_refl 0
  | k + 1 => by
    have h0 := stu_le T P0 k
    by_cases h : sameP T k = true
    · rw [stu_t h]; omega
    · rw [stu_f h]
      have := meN_le (stu T P0 k).1 (stu T P0 k).2 (T k)
      show meN _ _ _ ≤ _
      omega
section
variable {p : Program} {l : Launch} {e : Env} {R : Room} {s : State} {m : MethodId} {args : Array Value} {below : List Frame} {meth : Method} {c : Code} {H : Heap} {locs : List Loc} {cells slots : Nat} {Q : State → Prop}
variable {pc : Nat} {ls : Array Slot} {st0 : List Value} {A : Nat → Prop} {H0 : Heap} {cl : List vw_C} {nw : List Cond} {D : va_G} {tys : List (ClassId × FieldType)}
variable {y : MethodName} {bytes cc : ByteArray} {maxL nL index : Nat} {ret : Option FieldType} {rm : Room} {own : String} {wh wc wr : va_W}
/-- a static method of another class (the JDK's) -/
theorem kSO_i {S : Type} {post : Int32 → S → Prop} {w1 w2 : S → va_W} (As rest : List Value) (Bd : bd p c cc nL s args TB own m) (lk : GoodIn TB (.code y bytes maxL ret :: TB) ∧ Cond.static y ∈ TB ∧ Cond.initialized y.cls ∈ TB ∧ Cond.methodLink own index y ∈ TB ∧ y.cls ≠ "java/lang/invoke/MethodHandle" ∧ y.cls ≠ "java/lang/invoke/VarHandle") (hpn : (parseMethodDescriptor y.desc).map (fun d => d.parameters.length) = some As.length)
    (hc : CI l cl nw D tys y (.code y bytes maxL ret :: TB) rm As wc post w1) (hrm : fitsRoom rm R maxL = true) (hce : cells + rm.cells ≤ R.cells ∧ slots + rm.slots ≤ R.slots)
    (hG : gk cl nw D tys s) (hP : va_P D cl wh H) (hD : va_D A wh) (hS : va_S A H0 H locs) (hA : ∀ q, H0.size ≤ q → A q)
    (isC isR isB : List Nat) (hok : okI isC isR isB = true) (hC : isC.map (fun i => wh[i]?) = wc.map some) (hR : isR.map (fun i => wh[i]?) = wr.map some) (hB2 : ∀ u, isB.map (fun i => (wr ++ w1 u)[i]?) = (w2 u).map some)
    (hl : ls.size = nL) (hst : st0 = As.reverse ++ rest) (hw : (rest.map fun v => v.category).sum ≤ 8) (hdg : decode cc pc = .ok (.invokestatic index, 3))
    (kk : ∀ (r : Int32) (u : S) (H1 : Heap) (locs1 : List Loc), post r u → va_P D cl (w2 u) H1 → va_D A (w2 u) → va_S A H0 H1 locs1 → W p l e R s m args below meth c H1 locs1 (cells + rm.cells) (slots + rm.slots) Q (F0 m (pc + 3) ls (.int r :: rest))) : W p l e R s m args below meth c H locs cells slots Q (F0 m pc ls st0) :=
  kc_i (va_runS (As := As) (rest := rest) Bd (hc H.size) ⟨callB_of As.length Bd.2.2.2.2 lk.1 rfl rfl rfl (Bd.2.2.2.2 _ lk.2.2.1) (Bd.2.2.2.2 _ lk.2.2.2.1) ⟨lk.2.2.2.2.1, lk.2.2.2.2.2, hpn⟩ (fitsRoom.ok hrm), Bd.2.2.2.2 _ lk.2.1⟩ ⟨cPre.blind, k_pre hG hP hD isC hC (okI.ok hok).1⟩ rfl rfl hl hst (lv_room hw) hdg hce) hP hD hS hA isC isR isB hC hR (okI.ok hok).2.1 (okI.ok hok).2.2.2 (okI.ok hok).2.2.1 hB2 kk
end
/-- the same for a method of the JDK -/
theorem CI.ofF {S : Type} {l : Launch} {cl : List vw_C} {nw : List Cond} {D : va_G} {tys : List (ClassId × FieldType)} {y : MethodName} {cc : ByteArray} {maxL : Nat} {ty : FieldType} {TB : List Cond} {rm : Room} {av : List Value} {w0 : va_W} {post : Int32 → S → Prop} {w1 : S → va_W}
    (hy : plainFor y = true) (hlen : (lg_sl av).length ≤ maxL)
    (body : ∀ (p : Program) (e : Env) (s : State) (m : MethodId) (args : Array Value) (below : List Frame) (meth : Method) (c : Code) (A : Nat → Prop) (Q : State → Prop) (ls : Array Slot),
      bd p c cc maxL s args TB y.cls m → gk cl nw D tys s → (∀ q, s.heap.size ≤ q → A q) → va_P D cl w0 s.heap → va_D A w0 → va_S A s.heap s.heap [] → lv_has ls maxL (lv_args 0 av) →
      (∀ (r : Int32) (u : S) (H : Heap) (locs : List Loc) (pc : Nat) (ls : Array Slot), decode cc pc = .ok (.ireturn, 1) → narrow ty (.int r) = .int r → post r u → va_P D cl (w1 u) H → va_D A (w1 u) → va_S A s.heap H locs → W p l e rm s m args below meth c H locs rm.cells rm.slots Q (F0 m pc ls [.int r])) →
      W p l e rm s m args below meth c s.heap [] 0 0 Q (F0 m 0 ls [])) :
    CI l cl nw D tys y (.code y cc maxL (some ty) :: TB) rm av w0 post w1 := by
  intro sz
  refine va_MetF (cc := cc) (maxL := maxL) (ret := some ty) hy rfl ?_
  intro p e s m args below meth c s₁ B hml hv
  obtain ⟨rfl, hsz, hP, hK, hD0⟩ := hv
  have hts := atoms_spec (ws := .code y cc maxL (some ty) :: TB) B.pre
  have hown : s.vm.findClass y.cls = some m.cls := findClass_of_methodNamed B.named
  have hlocks := B.notSynchronized
  have hr := B.returns
  subst hsz
  have hD := hD0.self (sz := s.heap.size)
  have hl := lv_entry av (n := maxL) hlen
  rw [lg_entry_eq]
  exact body p e s m _ below meth c (va_A w0 s.heap.size) _ _ ⟨B.exec, B.bytes, hml, hown, fun w hw => hts w (List.mem_cons_of_mem _ hw)⟩ hK (fun q h => Or.inr h) hP hD va_S.rf hl
    (fun r u H locs pc ls hdg hn hpost hP1 hD1 hS1 => W.zret B.exec B.bytes hr hn (fun t ht _ => ⟨⟨r, u, rfl, hpost, by rw [ht]; exact hP1, hD1⟩, hS1.F ht⟩) hS1.2.2 hdg hlocks)
end
section
section
variable {l : Launch} {D : va_G} {cI cZ cL cV : ClassId}
abbrev y_Math_max : MethodName := ⟨"java/lang/Math", "max", "(II)I"⟩
abbrev b_Math_max : ByteArray := prog_15_method_65_code
theorem d_Math_max_0 : decode b_Math_max 0 = .ok (.iload_n 0, 1) := by decide +kernel
theorem d_Math_max_1 : decode b_Math_max 1 = .ok (.iload_n 1, 1) := by decide +kernel
theorem d_Math_max_2 : decode b_Math_max 2 = .ok (.if_icmp .lt 7, 3) := by decide +kernel
theorem d_Math_max_5 : decode b_Math_max 5 = .ok (.iload_n 0, 1) := by decide +kernel
theorem d_Math_max_6 : decode b_Math_max 6 = .ok (.goto 4, 3) := by decide +kernel
theorem d_Math_max_9 : decode b_Math_max 9 = .ok (.iload_n 1, 1) := by decide +kernel
theorem d_Math_max_10 : decode b_Math_max 10 = .ok (.ireturn, 1) := by decide +kernel
abbrev y_Math_floorMod : MethodName := ⟨"java/lang/Math", "floorMod", "(II)I"⟩
abbrev b_Math_floorMod : ByteArray := prog_15_method_50_code
theorem d_Math_floorMod_0 : decode b_Math_floorMod 0 = .ok (.iload_n 0, 1) := by decide +kernel
theorem d_Math_floorMod_1 : decode b_Math_floorMod 1 = .ok (.iload_n 1, 1) := by decide +kernel
theorem d_Math_floorMod_2 : decode b_Math_floorMod 2 = .ok (.irem, 1) := by decide +kernel
theorem d_Math_floorMod_3 : decode b_Math_floorMod 3 = .ok (.istore_n 2, 1) := by decide +kernel
theorem d_Math_floorMod_4 : decode b_Math_floorMod 4 = .ok (.iload_n 0, 1) := by decide +kernel
theorem d_Math_floorMod_5 : decode b_Math_floorMod 5 = .ok (.iload_n 1, 1) := by decide +kernel
theorem d_Math_floorMod_6 : decode b_Math_floorMod 6 = .ok (.ixor, 1) := by decide +kernel
theorem d_Math_floorMod_7 : decode b_Math_floorMod 7 = .ok (.ifCond .ge 11, 3) := by decide +kernel
theorem d_Math_floorMod_10 : decode b_Math_floorMod 10 = .ok (.iload_n 2, 1) := by decide +kernel
theorem d_Math_floorMod_11 : decode b_Math_floorMod 11 = .ok (.ifCond .eq 7, 3) := by decide +kernel
theorem d_Math_floorMod_14 : decode b_Math_floorMod 14 = .ok (.iload_n 2, 1) := by decide +kernel
theorem d_Math_floorMod_15 : decode b_Math_floorMod 15 = .ok (.iload_n 1, 1) := by decide +kernel
theorem d_Math_floorMod_16 : decode b_Math_floorMod 16 = .ok (.iadd, 1) := by decide +kernel
theorem d_Math_floorMod_17 : decode b_Math_floorMod 17 = .ok (.ireturn, 1) := by decide +kernel
theorem d_Math_floorMod_18 : decode b_Math_floorMod 18 = .ok (.iload_n 2, 1) := by decide +kernel
theorem d_Math_floorMod_19 : decode b_Math_floorMod 19 = .ok (.ireturn, 1) := by decide +kernel
set_option maxHeartbeats 4000000 in
set_option maxRecDepth 100000 in
theorem c_Math_max (a : Nat) (b : Nat) (ha : a < 2 ^ 31) (hb9 : b < 2 ^ 31) : CI (S := Unit) l classes NW D (TYS cI cZ cL cV) y_Math_max (.code y_Math_max b_Math_max 2 (some .int) :: TB) { frames := 0, cells := 0, slots := 0, locals := 0 } [.int (nI a), .int (nI b)] [] (fun r u => r = nI (max a b)) (fun u => []) := by
  refine CI.ofF (by decide +kernel) (Nat.le_of_ble_eq_true rfl) ?_
  intro pr ev sT mM aR bW mE cO AA QQ ls Bd hG hA hP hD hS hl hret
  have Bd : bd pr cO b_Math_max 2 sT aR TB "java/lang/Math" mM := Bd
  obtain ⟨hx, hb, hml, hown, htb⟩ := id Bd
  have hl : lv_has ls 2 [(0, .int (nI a)), (1, .int (nI b))] := hl
  refine lv_iload_n hx hb d_Math_max_0 rfl (lv_at hl 0 rfl) ?_
  refine lv_iload_n hx hb d_Math_max_1 rfl (lv_at hl 1 rfl) ?_
  refine nv_icmp_lt (tgt := 9) hx hb d_Math_max_2 (by decide) (by omega) (by omega) (fun c_2 => ?_) (fun c_2 => ?_)
  · refine lv_iload_n hx hb d_Math_max_9 rfl (lv_at hl 1 rfl) ?_
    exact hret _ () _ _ _ _ d_Math_max_10 rfl (by rw [show max a b = b by omega]) hP hD hS
  · refine lv_iload_n hx hb d_Math_max_5 rfl (lv_at hl 0 rfl) ?_
    refine lv_goto (tgt := 10) hx hb d_Math_max_6 (by decide) ?_
    exact hret _ () _ _ _ _ d_Math_max_10 rfl (by rw [show max a b = a by omega]) hP hD hS
set_option maxHeartbeats 4000000 in
set_option maxRecDepth 100000 in
theorem c_Cache_init (a : Nat) : CV (S := Nat × Nat) l classes NW D (TYS cI cZ cL cV) y_Cache_init (.code y_Cache_init b_Cache_init 1 none :: TB) { frames := 2, cells := 2, slots := 1026, locals := 33 } [.ref a] [(a, .inr (1, [.null, .int (nI 0), .int (nI 0)]))] (fun u => True) (fun u => [(a, .inr (1, [.ref u.1, .int (nI 0), .int (nI 0)])), (u.1, .inr (0, [.int (nI 16), .ref u.2])), (u.2, .inl (cI, 1024, .inl (nF (fun _ => 0))))]) := by
  refine CV.of (by decide) (Nat.le_of_ble_eq_true rfl) ?_
  intro pr ev sT mM aR bW mE cO AA QQ ls Bd hG hA hP hD hS hl hnm hret
  have Bd : bd pr cO b_Cache_init 1 sT aR TB "TileScreen$Cache" mM := Bd
  obtain ⟨hx, hb, hml, hown, htb⟩ := id Bd
  have hl : lv_has ls 1 [(0, .ref a)] := hl
  refine lv_aload_n hx hb d_Cache_init_0 rfl (lv_at hl 0 rfl) ?_
  refine W.objInit hx hb hown (htb _ k_60) (htb _ k_24) (htb _ k_25) rfl (by rw [hml]; exact hl.1) rfl d_Cache_init_1 (Nat.le_of_ble_eq_true rfl) (Nat.le_of_ble_eq_true rfl) ?_
  refine W.eq (g2 := F0 mM 4 ls []) rfl ?_
  refine lv_aload_n hx hb d_Cache_init_4 rfl (lv_at hl 0 rfl) ?_
  refine va_new (ci := 0) (fs := [.int (nI 0), .null]) (C := "TileScreen$Tiles") (T := F_Tiles) (N := 2) hx hb htb i_Tiles t_Tiles t_Tiles_ok hown (htb _ k_61) (htb _ k_27) (htb _ k_2) hG.1 hP hD hS hA rfl (fun j hj => by rcases (show j = 0 ∨ j = 1 by omega) with rfl | rfl <;> rfl) (Nat.le_of_ble_eq_true rfl) (Nat.le_of_ble_eq_true rfl) d_Cache_init_5 (fun q1 H hP hD hS => ?_)
  have hP : va_P D classes [(a, .inr (1, [.null, .int (nI 0), .int (nI 0)])), (q1, .inr (0, [.int (nI 0), .null]))] H := hP
  have hD : va_D AA [(a, .inr (1, [.null, .int (nI 0), .int (nI 0)])), (q1, .inr (0, [.int (nI 0), .null]))] := hD
  refine W.widen (k := 1) (n := 2) (Nat.le_of_ble_eq_true rfl) (Nat.le_of_ble_eq_true rfl) ?_
  refine lv_dup hx hb d_Cache_init_8 rfl ?_
  refine lv_bipush (v := nI 16) hx hb d_Cache_init_9 (by decide) ?_
  refine kI_v (wc := [(q1, .inr (0, [.int (nI 0), .null]))]) (wr := [(a, .inr (1, [.null, .int (nI 0), .int (nI 0)]))]) (w2 := fun u => [(a, .inr (1, [.null, .int (nI 0), .int (nI 0)])), (q1, .inr (0, [.int (nI 16), .ref u])), (u, .inl (cI, 1024, .inl (nF (fun _ => 0))))]) [.int (nI 16)] [.ref q1, .ref a] Bd ⟨gi_tb0 k_30, k_2, k_62, k_29, rfl, by decide, by decide⟩ (show (parseMethodDescriptor "(I)V").map (fun d => d.parameters.length) = some 1 by decide +kernel) (c_Tiles_init16 q1 ) (by decide +kernel) ⟨Nat.le_of_ble_eq_true rfl, Nat.le_of_ble_eq_true rfl⟩ hG hP hD hS hA [1] [0] [0, 1, 2] (by decide) rfl rfl (fun _ => rfl) hl.1 rfl (Nat.le_of_ble_eq_true rfl) d_Cache_init_11 (fun u4 H locs hp3 hP hD hS => ?_)
  obtain ⟨u2, rfl⟩ : ∃ z9, z9 = u4 := ⟨_, rfl⟩
  try dsimp only at hp3
  have hP : va_P D classes [(a, .inr (1, [.null, .int (nI 0), .int (nI 0)])), (q1, .inr (0, [.int (nI 16), .ref u2])), (u2, .inl (cI, 1024, .inl (nF (fun _ => 0))))] H := hP
  have hD : va_D AA [(a, .inr (1, [.null, .int (nI 0), .int (nI 0)])), (q1, .inr (0, [.int (nI 16), .ref u2])), (u2, .inl (cI, 1024, .inl (nF (fun _ => 0))))] := hD
  refine W.widen (k := 2) (n := 1026) (Nat.le_of_ble_eq_true rfl) (Nat.le_of_ble_eq_true rfl) ?_
  refine va_putF (D := D) (ci := 1) (v := .ref q1) (ty := .object "TileScreen$Tiles") (C := "TileScreen$Cache") (T := F_Cache) (N := 3) hx hb htb i_Cache t_Cache t_Cache_ok n_Cache hown hG.1 hP hD hS 0 rfl rfl 0 (by decide) (htb _ k_63) (fun _ h9 => h9) rfl hnm rfl (by decide +kernel) rfl rfl (Nat.le_of_ble_eq_true rfl) d_Cache_init_14 (fun H locs hP hD hS => ?_)
  have hP : va_P D classes [(a, .inr (1, [.ref q1, .int (nI 0), .int (nI 0)])), (q1, .inr (0, [.int (nI 16), .ref u2])), (u2, .inl (cI, 1024, .inl (nF (fun _ => 0))))] H := hP
  have hD : va_D AA [(a, .inr (1, [.ref q1, .int (nI 0), .int (nI 0)])), (q1, .inr (0, [.int (nI 16), .ref u2])), (u2, .inl (cI, 1024, .inl (nF (fun _ => 0))))] := hD
  
  exact hret (q1, u2) _ _ _ _ d_Cache_init_17 (trivial) hP hD hS
set_option maxHeartbeats 4000000 in
set_option maxRecDepth 100000 in
theorem c_Cache_clear (a : Nat) (tt : Nat) (pp : Nat) (pl : Nat) (us : Nat) (F : Nat → Nat) : CV (S := Unit) l classes NW D (TYS cI cZ cL cV) y_Cache_clear (.code y_Cache_clear b_Cache_clear 1 none :: TB) { frames := 0, cells := 0, slots := 0, locals := 0 } [.ref a] [(a, .inr (1, [.ref tt, .int (nI pl), .int (nI us)])), (tt, .inr (0, [.int (nI 16), .ref pp])), (pp, .inl (cI, 1024, .inl (nF F)))] (fun u => True) (fun u => [(a, .inr (1, [.ref tt, .int (nI 0), .int (nI 0)])), (tt, .inr (0, [.int (nI 16), .ref pp])), (pp, .inl (cI, 1024, .inl (nF F)))]) := by
  refine CV.of (by decide) (Nat.le_of_ble_eq_true rfl) ?_
  intro pr ev sT mM aR bW mE cO AA QQ ls Bd hG hA hP hD hS hl hnm hret
  have Bd : bd pr cO b_Cache_clear 1 sT aR TB "TileScreen$Cache" mM := Bd
  obtain ⟨hx, hb, hml, hown, htb⟩ := id Bd
  have hl : lv_has ls 1 [(0, .ref a)] := hl
  refine lv_aload_n hx hb d_Cache_clear_0 rfl (lv_at hl 0 rfl) ?_
  refine lv_iconst (v := nI 0) hx hb d_Cache_clear_1 (by decide) ?_
  refine va_put (D := D) (ci := 1) (v := .int (nI 0)) (ty := .int) (C := "TileScreen$Cache") (T := F_Cache) (N := 3) hx hb htb i_Cache t_Cache t_Cache_ok n_Cache hown hG.1 hP hD hS 0 rfl rfl 1 (by decide) (htb _ k_66) (fun _ h9 => h9) rfl (by decide +kernel) rfl rfl (Nat.le_of_ble_eq_true rfl) d_Cache_clear_2 (fun H locs hP hD hS => ?_)
  have hP : va_P D classes [(a, .inr (1, [.ref tt, .int (nI 0), .int (nI us)])), (tt, .inr (0, [.int (nI 16), .ref pp])), (pp, .inl (cI, 1024, .inl (nF F)))] H := hP
  have hD : va_D AA [(a, .inr (1, [.ref tt, .int (nI 0), .int (nI us)])), (tt, .inr (0, [.int (nI 16), .ref pp])), (pp, .inl (cI, 1024, .inl (nF F)))] := hD
  refine lv_aload_n hx hb d_Cache_clear_5 rfl (lv_at hl 0 rfl) ?_
  refine lv_iconst (v := nI 0) hx hb d_Cache_clear_6 (by decide) ?_
  refine va_put (D := D) (ci := 1) (v := .int (nI 0)) (ty := .int) (C := "TileScreen$Cache") (T := F_Cache) (N := 3) hx hb htb i_Cache t_Cache t_Cache_ok n_Cache hown hG.1 hP hD hS 0 rfl rfl 2 (by decide) (htb _ k_68) (fun _ h9 => h9) rfl (by decide +kernel) rfl rfl (Nat.le_of_ble_eq_true rfl) d_Cache_clear_7 (fun H locs hP hD hS => ?_)
  have hP : va_P D classes [(a, .inr (1, [.ref tt, .int (nI 0), .int (nI 0)])), (tt, .inr (0, [.int (nI 16), .ref pp])), (pp, .inl (cI, 1024, .inl (nF F)))] H := hP
  have hD : va_D AA [(a, .inr (1, [.ref tt, .int (nI 0), .int (nI 0)])), (tt, .inr (0, [.int (nI 16), .ref pp])), (pp, .inl (cI, 1024, .inl (nF F)))] := hD
  exact hret () _ _ _ _ d_Cache_clear_10 (trivial) hP hD hS
set_option maxHeartbeats 4000000 in
set_option maxRecDepth 100000 in
theorem c_Cache_put (a : Nat) (tt : Nat) (pp : Nat) (pl : Nat) (us : Nat) (F : Nat → Nat) (b : Nat) (qq : Nat) (cnt : Nat) (n : Nat) (G : Nat → Nat) (t : Nat) (hp : pl < 16) (hu : us ≤ 16) (ht : t * 64 + 64 ≤ n) (hn : n < 2 ^ 31) : CV (S := Unit) l classes NW D (TYS cI cZ cL cV) y_Cache_put (.code y_Cache_put b_Cache_put 3 none :: TB) { frames := 2, cells := 0, slots := 0, locals := 63 } [.ref a, .ref b, .int (nI t)] [(a, .inr (1, [.ref tt, .int (nI pl), .int (nI us)])), (tt, .inr (0, [.int (nI 16), .ref pp])), (pp, .inl (cI, 1024, .inl (nF F))), (b, .inr (0, [.int (nI cnt), .ref qq])), (qq, .inl (cI, n, .inl (nF G)))] (fun u => True) (fun u => [(a, .inr (1, [.ref tt, .int (nI ((pl + 1) % 16)), .int (nI (max us (pl + 1)))])), (tt, .inr (0, [.int (nI 16), .ref pp])), (pp, .inl (cI, 1024, .inl (nF (va_cpy G F (t * 64) (pl * 64) 64)))), (b, .inr (0, [.int (nI cnt), .ref qq])), (qq, .inl (cI, n, .inl (nF G)))]) := by
  refine CV.of (by decide) (Nat.le_of_ble_eq_true rfl) ?_
  intro pr ev sT mM aR bW mE cO AA QQ ls Bd hG hA hP hD hS hl hnm hret
  have Bd : bd pr cO b_Cache_put 3 sT aR TB "TileScreen$Cache" mM := Bd
  obtain ⟨hx, hb, hml, hown, htb⟩ := id Bd
  have hl : lv_has ls 3 [(0, .ref a), (1, .ref b), (2, .int (nI t))] := hl
  refine lv_aload_n hx hb d_Cache_put_0 rfl (lv_at hl 0 rfl) ?_
  refine va_get (D := D) (ci := 1) (v := .ref tt) (C := "TileScreen$Cache") (T := F_Cache) (N := 3) hx hb htb i_Cache hown hG.1 hP 0 rfl rfl 0 (by decide) (htb _ k_63) (fun _ h9 => h9) rfl d_Cache_put_1 ?_
  refine lv_aload_n hx hb d_Cache_put_4 rfl (lv_at hl 0 rfl) ?_
  refine va_get (D := D) (ci := 1) (v := .int (nI pl)) (C := "TileScreen$Cache") (T := F_Cache) (N := 3) hx hb htb i_Cache hown hG.1 hP 0 rfl rfl 1 (by decide) (htb _ k_66) (fun _ h9 => h9) rfl d_Cache_put_5 ?_
  refine lv_aload_n hx hb d_Cache_put_8 rfl (lv_at hl 1 rfl) ?_
  refine lv_iload_n hx hb d_Cache_put_9 rfl (lv_at hl 2 rfl) ?_
  refine kV_v (wc := [(tt, .inr (0, [.int (nI 16), .ref pp])), (pp, .inl (cI, 1024, .inl (nF F))), (b, .inr (0, [.int (nI cnt), .ref qq])), (qq, .inl (cI, n, .inl (nF G)))]) (wr := [(a, .inr (1, [.ref tt, .int (nI pl), .int (nI us)]))]) (w2 := fun _ => [(a, .inr (1, [.ref tt, .int (nI pl), .int (nI us)])), (tt, .inr (0, [.int (nI 16), .ref pp])), (pp, .inl (cI, 1024, .inl (nF (va_cpy G F (t * 64) (pl * 64) 64)))), (b, .inr (0, [.int (nI cnt), .ref qq])), (qq, .inl (cI, n, .inl (nF G)))]) [.int (nI pl), .ref b, .int (nI t)] [] Bd ⟨gi_app (gi_c0 k_417 (gi_c0 k_418 (gi_c0 k_419 (gi_c0 k_2 gi_nil)))) (gi_tb0 k_420), rfl, by decide, by decide⟩ (show (parseMethodDescriptor "(ILTileScreen$Tiles;I)V").map (fun d => d.parameters.length) = some 3 by decide +kernel) (c_Tiles_take tt pp 16 1024 F b qq cnt n G pl t (by omega) (by omega) (by omega) (by omega)) (by decide +kernel) ⟨Nat.le_of_ble_eq_true rfl, Nat.le_of_ble_eq_true rfl⟩ hG hP hD hS hA [1, 2, 3, 4] [0] [0, 1, 2, 3, 4] (by decide) rfl rfl (fun _ => rfl) (q0 := 0) rfl rfl rfl hl.1 rfl (Nat.le_of_ble_eq_true rfl) d_Cache_put_10 (fun u2 H locs hp1 hP hD hS => ?_)
  have hP : va_P D classes [(a, .inr (1, [.ref tt, .int (nI pl), .int (nI us)])), (tt, .inr (0, [.int (nI 16), .ref pp])), (pp, .inl (cI, 1024, .inl (nF (va_cpy G F (t * 64) (pl * 64) 64)))), (b, .inr (0, [.int (nI cnt), .ref qq])), (qq, .inl (cI, n, .inl (nF G)))] H := hP
  have hD : va_D AA [(a, .inr (1, [.ref tt, .int (nI pl), .int (nI us)])), (tt, .inr (0, [.int (nI 16), .ref pp])), (pp, .inl (cI, 1024, .inl (nF (va_cpy G F (t * 64) (pl * 64) 64)))), (b, .inr (0, [.int (nI cnt), .ref qq])), (qq, .inl (cI, n, .inl (nF G)))] := hD
  refine lv_aload_n hx hb d_Cache_put_13 rfl (lv_at hl 0 rfl) ?_
  refine lv_aload_n hx hb d_Cache_put_14 rfl (lv_at hl 0 rfl) ?_
  refine va_get (D := D) (ci := 1) (v := .int (nI us)) (C := "TileScreen$Cache") (T := F_Cache) (N := 3) hx hb htb i_Cache hown hG.1 hP 0 rfl rfl 2 (by decide) (htb _ k_68) (fun _ h9 => h9) rfl d_Cache_put_15 ?_
  refine lv_aload_n hx hb d_Cache_put_18 rfl (lv_at hl 0 rfl) ?_
  refine va_get (D := D) (ci := 1) (v := .int (nI pl)) (C := "TileScreen$Cache") (T := F_Cache) (N := 3) hx hb htb i_Cache hown hG.1 hP 0 rfl rfl 1 (by decide) (htb _ k_66) (fun _ h9 => h9) rfl d_Cache_put_19 ?_
  refine lv_iconst (v := nI 1) hx hb d_Cache_put_22 (by decide) ?_
  refine nv_iadd hx hb d_Cache_put_23 ?_
  refine kSO_i (wc := []) (wr := [(a, .inr (1, [.ref tt, .int (nI pl), .int (nI us)])), (tt, .inr (0, [.int (nI 16), .ref pp])), (pp, .inl (cI, 1024, .inl (nF (va_cpy G F (t * 64) (pl * 64) 64)))), (b, .inr (0, [.int (nI cnt), .ref qq])), (qq, .inl (cI, n, .inl (nF G)))]) (w2 := fun _ => [(a, .inr (1, [.ref tt, .int (nI pl), .int (nI us)])), (tt, .inr (0, [.int (nI 16), .ref pp])), (pp, .inl (cI, 1024, .inl (nF (va_cpy G F (t * 64) (pl * 64) 64)))), (b, .inr (0, [.int (nI cnt), .ref qq])), (qq, .inl (cI, n, .inl (nF G)))]) [.int (nI us), .int (nI (pl + 1))] [.ref a] Bd ⟨gi_tb0 k_423, k_422, k_17, k_421, by decide, by decide⟩ (show (parseMethodDescriptor "(II)I").map (fun d => d.parameters.length) = some 2 by decide +kernel) (c_Math_max us (pl + 1) (by omega) (by omega)) (by decide +kernel) ⟨Nat.le_of_ble_eq_true rfl, Nat.le_of_ble_eq_true rfl⟩ hG hP hD hS hA [] [0, 1, 2, 3, 4] [0, 1, 2, 3, 4] (by decide) rfl rfl (fun _ => rfl) hl.1 rfl (Nat.le_of_ble_eq_true rfl) d_Cache_put_24 (fun r3 u5 H locs hp4 hP hD hS => ?_)
  have hP : va_P D classes [(a, .inr (1, [.ref tt, .int (nI pl), .int (nI us)])), (tt, .inr (0, [.int (nI 16), .ref pp])), (pp, .inl (cI, 1024, .inl (nF (va_cpy G F (t * 64) (pl * 64) 64)))), (b, .inr (0, [.int (nI cnt), .ref qq])), (qq, .inl (cI, n, .inl (nF G)))] H := hP
  have hD : va_D AA [(a, .inr (1, [.ref tt, .int (nI pl), .int (nI us)])), (tt, .inr (0, [.int (nI 16), .ref pp])), (pp, .inl (cI, 1024, .inl (nF (va_cpy G F (t * 64) (pl * 64) 64)))), (b, .inr (0, [.int (nI cnt), .ref qq])), (qq, .inl (cI, n, .inl (nF G)))] := hD
  subst hp4
  refine va_put (D := D) (ci := 1) (v := .int (nI (max us (pl + 1)))) (ty := .int) (C := "TileScreen$Cache") (T := F_Cache) (N := 3) hx hb htb i_Cache t_Cache t_Cache_ok n_Cache hown hG.1 hP hD hS 0 rfl rfl 2 (by decide) (htb _ k_68) (fun _ h9 => h9) rfl (by decide +kernel) rfl rfl (Nat.le_of_ble_eq_true rfl) d_Cache_put_27 (fun H locs hP hD hS => ?_)
  have hP : va_P D classes [(a, .inr (1, [.ref tt, .int (nI pl), .int (nI (max us (pl + 1)))])), (tt, .inr (0, [.int (nI 16), .ref pp])), (pp, .inl (cI, 1024, .inl (nF (va_cpy G F (t * 64) (pl * 64) 64)))), (b, .inr (0, [.int (nI cnt), .ref qq])), (qq, .inl (cI, n, .inl (nF G)))] H := hP
  have hD : va_D AA [(a, .inr (1, [.ref tt, .int (nI pl), .int (nI (max us (pl + 1)))])), (tt, .inr (0, [.int (nI 16), .ref pp])), (pp, .inl (cI, 1024, .inl (nF (va_cpy G F (t * 64) (pl * 64) 64)))), (b, .inr (0, [.int (nI cnt), .ref qq])), (qq, .inl (cI, n, .inl (nF G)))] := hD
  refine lv_aload_n hx hb d_Cache_put_30 rfl (lv_at hl 0 rfl) ?_
  refine lv_aload_n hx hb d_Cache_put_31 rfl (lv_at hl 0 rfl) ?_
  refine va_get (D := D) (ci := 1) (v := .int (nI pl)) (C := "TileScreen$Cache") (T := F_Cache) (N := 3) hx hb htb i_Cache hown hG.1 hP 0 rfl rfl 1 (by decide) (htb _ k_66) (fun _ h9 => h9) rfl d_Cache_put_32 ?_
  refine lv_iconst (v := nI 1) hx hb d_Cache_put_35 (by decide) ?_
  refine nv_iadd hx hb d_Cache_put_36 ?_
  refine lv_bipush (v := nI 16) hx hb d_Cache_put_37 (by decide) ?_
  refine nv_irem hx hb (by omega) (by omega) (by omega) d_Cache_put_39 ?_
  refine va_put (D := D) (ci := 1) (v := .int (nI ((pl + 1) % 16))) (ty := .int) (C := "TileScreen$Cache") (T := F_Cache) (N := 3) hx hb htb i_Cache t_Cache t_Cache_ok n_Cache hown hG.1 hP hD hS 0 rfl rfl 1 (by decide) (htb _ k_66) (fun _ h9 => h9) rfl (by decide +kernel) rfl rfl (Nat.le_of_ble_eq_true rfl) d_Cache_put_40 (fun H locs hP hD hS => ?_)
  have hP : va_P D classes [(a, .inr (1, [.ref tt, .int (nI ((pl + 1) % 16)), .int (nI (max us (pl + 1)))])), (tt, .inr (0, [.int (nI 16), .ref pp])), (pp, .inl (cI, 1024, .inl (nF (va_cpy G F (t * 64) (pl * 64) 64)))), (b, .inr (0, [.int (nI cnt), .ref qq])), (qq, .inl (cI, n, .inl (nF G)))] H := hP
  have hD : va_D AA [(a, .inr (1, [.ref tt, .int (nI ((pl + 1) % 16)), .int (nI (max us (pl + 1)))])), (tt, .inr (0, [.int (nI 16), .ref pp])), (pp, .inl (cI, 1024, .inl (nF (va_cpy G F (t * 64) (pl * 64) 64)))), (b, .inr (0, [.int (nI cnt), .ref qq])), (qq, .inl (cI, n, .inl (nF G)))] := hD
  exact hret () _ _ _ _ d_Cache_put_43 (trivial) hP hD hS
set_option maxHeartbeats 4000000 in
set_option maxRecDepth 100000 in
theorem c_Line_init (a : Nat) : CV (S := Nat) l classes NW D (TYS cI cZ cL cV) y_Line_init (.code y_Line_init b_Line_init 1 none :: TB) { frames := 1, cells := 1, slots := 6247, locals := 12 } [.ref a] [(a, .inr (2, [.null, .int (nI 0), .int (nI 0)]))] (fun u => True) (fun u => [(a, .inr (2, [.ref u, .int (nI 0), .int (nI 0)])), (u, .inl (cI, 6247, .inl (nF (fun _ => 0))))]) := by
  refine CV.of (by decide) (Nat.le_of_ble_eq_true rfl) ?_
  intro pr ev sT mM aR bW mE cO AA QQ ls Bd hG hA hP hD hS hl hnm hret
  have Bd : bd pr cO b_Line_init 1 sT aR TB "TileScreen$Line" mM := Bd
  obtain ⟨hx, hb, hml, hown, htb⟩ := id Bd
  have hl : lv_has ls 1 [(0, .ref a)] := hl
  refine lv_aload_n hx hb d_Line_init_0 rfl (lv_at hl 0 rfl) ?_
  refine W.objInit hx hb hown (htb _ k_83) (htb _ k_24) (htb _ k_25) rfl (by rw [hml]; exact hl.1) rfl d_Line_init_1 (Nat.le_of_ble_eq_true rfl) (Nat.le_of_ble_eq_true rfl) ?_
  refine W.eq (g2 := F0 mM 4 ls []) rfl ?_
  refine lv_aload_n hx hb d_Line_init_4 rfl (lv_at hl 0 rfl) ?_
  refine lv_sipush (v := nI 6247) hx hb d_Line_init_5 (by decide) ?_
  refine nv_newi hx hb (htb _ k_39) hG.1 hP hD hS hA 0 rfl (Nat.le_of_ble_eq_true rfl) (Nat.le_of_ble_eq_true rfl) (Nat.le_of_ble_eq_true rfl) d_Line_init_8 (fun q1 H hP hD hS => ?_)
  have hP : va_P D classes [(a, .inr (2, [.null, .int (nI 0), .int (nI 0)])), (q1, .inl (cI, 6247, .inl (nF (fun _ => 0))))] H := hP
  have hD : va_D AA [(a, .inr (2, [.null, .int (nI 0), .int (nI 0)])), (q1, .inl (cI, 6247, .inl (nF (fun _ => 0))))] := hD
  refine W.widen (k := 1) (n := 6247) (Nat.le_of_ble_eq_true rfl) (Nat.le_of_ble_eq_true rfl) ?_
  refine va_putF (D := D) (ci := 2) (v := .ref q1) (ty := .array (.int)) (C := "TileScreen$Line") (T := F_Line) (N := 3) hx hb htb i_Line t_Line t_Line_ok n_Line hown hG.1 hP hD hS 0 rfl rfl 0 (by decide) (htb _ k_84) (fun _ h9 => h9) rfl hnm rfl (by decide +kernel) rfl rfl (Nat.le_of_ble_eq_true rfl) d_Line_init_10 (fun H locs hP hD hS => ?_)
  have hP : va_P D classes [(a, .inr (2, [.ref q1, .int (nI 0), .int (nI 0)])), (q1, .inl (cI, 6247, .inl (nF (fun _ => 0))))] H := hP
  have hD : va_D AA [(a, .inr (2, [.ref q1, .int (nI 0), .int (nI 0)])), (q1, .inl (cI, 6247, .inl (nF (fun _ => 0))))] := hD
  
  exact hret q1 _ _ _ _ d_Line_init_13 (trivial) hP hD hS
set_option maxHeartbeats 4000000 in
set_option maxRecDepth 100000 in
theorem c_Line_clear (a : Nat) (pp : Nat) (fi : Nat) (sz : Nat) (B : Nat → Nat) : CV (S := Unit) l classes NW D (TYS cI cZ cL cV) y_Line_clear (.code y_Line_clear b_Line_clear 1 none :: TB) { frames := 0, cells := 0, slots := 0, locals := 0 } [.ref a] [(a, .inr (2, [.ref pp, .int (nI fi), .int (nI sz)])), (pp, .inl (cI, 6247, .inl (nF B)))] (fun u => True) (fun u => [(a, .inr (2, [.ref pp, .int (nI 0), .int (nI 0)])), (pp, .inl (cI, 6247, .inl (nF B)))]) := by
  refine CV.of (by decide) (Nat.le_of_ble_eq_true rfl) ?_
  intro pr ev sT mM aR bW mE cO AA QQ ls Bd hG hA hP hD hS hl hnm hret
  have Bd : bd pr cO b_Line_clear 1 sT aR TB "TileScreen$Line" mM := Bd
  obtain ⟨hx, hb, hml, hown, htb⟩ := id Bd
  have hl : lv_has ls 1 [(0, .ref a)] := hl
  refine lv_aload_n hx hb d_Line_clear_0 rfl (lv_at hl 0 rfl) ?_
  refine lv_iconst (v := nI 0) hx hb d_Line_clear_1 (by decide) ?_
  refine va_put (D := D) (ci := 2) (v := .int (nI 0)) (ty := .int) (C := "TileScreen$Line") (T := F_Line) (N := 3) hx hb htb i_Line t_Line t_Line_ok n_Line hown hG.1 hP hD hS 0 rfl rfl 1 (by decide) (htb _ k_86) (fun _ h9 => h9) rfl (by decide +kernel) rfl rfl (Nat.le_of_ble_eq_true rfl) d_Line_clear_2 (fun H locs hP hD hS => ?_)
  have hP : va_P D classes [(a, .inr (2, [.ref pp, .int (nI 0), .int (nI sz)])), (pp, .inl (cI, 6247, .inl (nF B)))] H := hP
  have hD : va_D AA [(a, .inr (2, [.ref pp, .int (nI 0), .int (nI sz)])), (pp, .inl (cI, 6247, .inl (nF B)))] := hD
  refine lv_aload_n hx hb d_Line_clear_5 rfl (lv_at hl 0 rfl) ?_
  refine lv_iconst (v := nI 0) hx hb d_Line_clear_6 (by decide) ?_
  refine va_put (D := D) (ci := 2) (v := .int (nI 0)) (ty := .int) (C := "TileScreen$Line") (T := F_Line) (N := 3) hx hb htb i_Line t_Line t_Line_ok n_Line hown hG.1 hP hD hS 0 rfl rfl 2 (by decide) (htb _ k_87) (fun _ h9 => h9) rfl (by decide +kernel) rfl rfl (Nat.le_of_ble_eq_true rfl) d_Line_clear_7 (fun H locs hP hD hS => ?_)
  have hP : va_P D classes [(a, .inr (2, [.ref pp, .int (nI 0), .int (nI 0)])), (pp, .inl (cI, 6247, .inl (nF B)))] H := hP
  have hD : va_D AA [(a, .inr (2, [.ref pp, .int (nI 0), .int (nI 0)])), (pp, .inl (cI, 6247, .inl (nF B)))] := hD
  exact hret () _ _ _ _ d_Line_clear_10 (trivial) hP hD hS
set_option maxHeartbeats 4000000 in
set_option maxRecDepth 100000 in
theorem c_Line_add (a : Nat) (pp : Nat) (fi : Nat) (sz : Nat) (B : Nat → Nat) (x : Nat) (h0 : fi + sz < 6247) : CV (S := Unit) l classes NW D (TYS cI cZ cL cV) y_Line_add (.code y_Line_add b_Line_add 2 none :: TB) { frames := 0, cells := 0, slots := 0, locals := 0 } [.ref a, .int (nI x)] [(a, .inr (2, [.ref pp, .int (nI fi), .int (nI sz)])), (pp, .inl (cI, 6247, .inl (nF B)))] (fun u => True) (fun u => [(a, .inr (2, [.ref pp, .int (nI fi), .int (nI (sz + 1))])), (pp, .inl (cI, 6247, .inl (nF (up B (fi + sz) x))))]) := by
  refine CV.of (by decide) (Nat.le_of_ble_eq_true rfl) ?_
  intro pr ev sT mM aR bW mE cO AA QQ ls Bd hG hA hP hD hS hl hnm hret
  have Bd : bd pr cO b_Line_add 2 sT aR TB "TileScreen$Line" mM := Bd
  obtain ⟨hx, hb, hml, hown, htb⟩ := id Bd
  have hl : lv_has ls 2 [(0, .ref a), (1, .int (nI x))] := hl
  refine lv_aload_n hx hb d_Line_add_0 rfl (lv_at hl 0 rfl) ?_
  refine va_get (D := D) (ci := 2) (v := .int (nI fi)) (C := "TileScreen$Line") (T := F_Line) (N := 3) hx hb htb i_Line hown hG.1 hP 0 rfl rfl 1 (by decide) (htb _ k_86) (fun _ h9 => h9) rfl d_Line_add_1 ?_
  refine lv_aload_n hx hb d_Line_add_4 rfl (lv_at hl 0 rfl) ?_
  refine va_get (D := D) (ci := 2) (v := .int (nI sz)) (C := "TileScreen$Line") (T := F_Line) (N := 3) hx hb htb i_Line hown hG.1 hP 0 rfl rfl 2 (by decide) (htb _ k_87) (fun _ h9 => h9) rfl d_Line_add_5 ?_
  refine nv_iadd hx hb d_Line_add_8 ?_
  refine lv_aload_n hx hb d_Line_add_9 rfl (lv_at hl 0 rfl) ?_
  refine va_get (D := D) (ci := 2) (v := .ref pp) (C := "TileScreen$Line") (T := F_Line) (N := 3) hx hb htb i_Line hown hG.1 hP 0 rfl rfl 0 (by decide) (htb _ k_84) (fun _ h9 => h9) rfl d_Line_add_10 ?_
  refine va_alen (v := nI 6247) hx hb hG.1 hP 1 0 rfl rfl rfl d_Line_add_13 ?_
  refine nv_icmp_ge (tgt := 42) hx hb d_Line_add_14 (by decide) (by omega) (by omega) (fun c_14 => ?_) (fun c_14 => ?_)
  · omega
  · refine lv_aload_n hx hb d_Line_add_17 rfl (lv_at hl 0 rfl) ?_
    refine va_get (D := D) (ci := 2) (v := .ref pp) (C := "TileScreen$Line") (T := F_Line) (N := 3) hx hb htb i_Line hown hG.1 hP 0 rfl rfl 0 (by decide) (htb _ k_84) (fun _ h9 => h9) rfl d_Line_add_18 ?_
    refine lv_aload_n hx hb d_Line_add_21 rfl (lv_at hl 0 rfl) ?_
    refine va_get (D := D) (ci := 2) (v := .int (nI fi)) (C := "TileScreen$Line") (T := F_Line) (N := 3) hx hb htb i_Line hown hG.1 hP 0 rfl rfl 1 (by decide) (htb _ k_86) (fun _ h9 => h9) rfl d_Line_add_22 ?_
    refine lv_aload_n hx hb d_Line_add_25 rfl (lv_at hl 0 rfl) ?_
    refine va_get (D := D) (ci := 2) (v := .int (nI sz)) (C := "TileScreen$Line") (T := F_Line) (N := 3) hx hb htb i_Line hown hG.1 hP 0 rfl rfl 2 (by decide) (htb _ k_87) (fun _ h9 => h9) rfl d_Line_add_26 ?_
    refine nv_iadd hx hb d_Line_add_29 ?_
    refine lv_iload_n hx hb d_Line_add_30 rfl (lv_at hl 1 rfl) ?_
    refine nv_iast hx hb hG.1 hP hD hS 1 0 rfl rfl (by omega) (by omega) d_Line_add_31 (fun H locs hP hD hS => ?_)
    have hP : va_P D classes [(a, .inr (2, [.ref pp, .int (nI fi), .int (nI sz)])), (pp, .inl (cI, 6247, .inl (nF (up B (fi + sz) x))))] H := hP
    have hD : va_D AA [(a, .inr (2, [.ref pp, .int (nI fi), .int (nI sz)])), (pp, .inl (cI, 6247, .inl (nF (up B (fi + sz) x))))] := hD
    refine lv_aload_n hx hb d_Line_add_32 rfl (lv_at hl 0 rfl) ?_
    refine lv_dup hx hb d_Line_add_33 rfl ?_
    refine va_get (D := D) (ci := 2) (v := .int (nI sz)) (C := "TileScreen$Line") (T := F_Line) (N := 3) hx hb htb i_Line hown hG.1 hP 0 rfl rfl 2 (by decide) (htb _ k_87) (fun _ h9 => h9) rfl d_Line_add_34 ?_
    refine lv_iconst (v := nI 1) hx hb d_Line_add_37 (by decide) ?_
    refine nv_iadd hx hb d_Line_add_38 ?_
    refine va_put (D := D) (ci := 2) (v := .int (nI (sz + 1))) (ty := .int) (C := "TileScreen$Line") (T := F_Line) (N := 3) hx hb htb i_Line t_Line t_Line_ok n_Line hown hG.1 hP hD hS 0 rfl rfl 2 (by decide) (htb _ k_87) (fun _ h9 => h9) rfl (by decide +kernel) rfl rfl (Nat.le_of_ble_eq_true rfl) d_Line_add_39 (fun H locs hP hD hS => ?_)
    have hP : va_P D classes [(a, .inr (2, [.ref pp, .int (nI fi), .int (nI (sz + 1))])), (pp, .inl (cI, 6247, .inl (nF (up B (fi + sz) x))))] H := hP
    have hD : va_D AA [(a, .inr (2, [.ref pp, .int (nI fi), .int (nI (sz + 1))])), (pp, .inl (cI, 6247, .inl (nF (up B (fi + sz) x))))] := hD
    exact hret () _ _ _ _ d_Line_add_42 (trivial) hP hD hS
set_option maxHeartbeats 4000000 in
set_option maxRecDepth 100000 in
theorem c_Line_addPair (a : Nat) (pp : Nat) (fi : Nat) (sz : Nat) (B : Nat → Nat) (x : Nat) (h0 : fi + sz + 1 < 6247) (hx1 : x < 2 ^ 31) : CV (S := Unit) l classes NW D (TYS cI cZ cL cV) y_Line_addPair (.code y_Line_addPair b_Line_addPair 2 none :: TB) { frames := 1, cells := 0, slots := 0, locals := 21 } [.ref a, .int (nI x)] [(a, .inr (2, [.ref pp, .int (nI fi), .int (nI sz)])), (pp, .inl (cI, 6247, .inl (nF B)))] (fun u => True) (fun u => [(a, .inr (2, [.ref pp, .int (nI fi), .int (nI (sz + 2))])), (pp, .inl (cI, 6247, .inl (nF (up (up B (fi + sz) (x / 256 % 256)) (fi + sz + 1) (x % 256)))))]) := by
  refine CV.of (by decide) (Nat.le_of_ble_eq_true rfl) ?_
  intro pr ev sT mM aR bW mE cO AA QQ ls Bd hG hA hP hD hS hl hnm hret
  have Bd : bd pr cO b_Line_addPair 2 sT aR TB "TileScreen$Line" mM := Bd
  obtain ⟨hx, hb, hml, hown, htb⟩ := id Bd
  have hl : lv_has ls 2 [(0, .ref a), (1, .int (nI x))] := hl
  refine lv_aload_n hx hb d_Line_addPair_0 rfl (lv_at hl 0 rfl) ?_
  refine lv_iload_n hx hb d_Line_addPair_1 rfl (lv_at hl 1 rfl) ?_
  refine lv_bipush (v := nI 8) hx hb d_Line_addPair_2 (by decide) ?_
  refine nv_ishr hx hb (by omega) (by omega) d_Line_addPair_4 ?_
  refine lv_sipush (v := nI 255) hx hb d_Line_addPair_5 (by decide) ?_
  refine nv_iandm hx hb 8 rfl d_Line_addPair_8 ?_
  refine kV_v (wc := [(a, .inr (2, [.ref pp, .int (nI fi), .int (nI sz)])), (pp, .inl (cI, 6247, .inl (nF B)))]) (wr := []) (w2 := fun _ => [(a, .inr (2, [.ref pp, .int (nI fi), .int (nI (sz + 1))])), (pp, .inl (cI, 6247, .inl (nF (up B (fi + sz) ((x / 2 ^ 8) % 256)))))]) [.int (nI ((x / 2 ^ 8) % 256))] [] Bd ⟨gi_app (gi_c0 k_352 (gi_c0 k_345 (gi_c0 k_346 (gi_c0 k_6 gi_nil)))) (gi_tb0 k_347), rfl, by decide, by decide⟩ (show (parseMethodDescriptor "(I)V").map (fun d => d.parameters.length) = some 1 by decide +kernel) (c_Line_add a pp fi sz B ((x / 2 ^ 8) % 256) (by omega)) (by decide +kernel) ⟨Nat.le_of_ble_eq_true rfl, Nat.le_of_ble_eq_true rfl⟩ hG hP hD hS hA [0, 1] [] [0, 1] (by decide) rfl rfl (fun _ => rfl) (q0 := 0) rfl rfl rfl hl.1 rfl (Nat.le_of_ble_eq_true rfl) d_Line_addPair_9 (fun u2 H locs hp1 hP hD hS => ?_)
  have hP : va_P D classes [(a, .inr (2, [.ref pp, .int (nI fi), .int (nI (sz + 1))])), (pp, .inl (cI, 6247, .inl (nF (up B (fi + sz) ((x / 2 ^ 8) % 256)))))] H := hP
  have hD : va_D AA [(a, .inr (2, [.ref pp, .int (nI fi), .int (nI (sz + 1))])), (pp, .inl (cI, 6247, .inl (nF (up B (fi + sz) ((x / 2 ^ 8) % 256)))))] := hD
  refine lv_aload_n hx hb d_Line_addPair_12 rfl (lv_at hl 0 rfl) ?_
  refine lv_iload_n hx hb d_Line_addPair_13 rfl (lv_at hl 1 rfl) ?_
  refine lv_sipush (v := nI 255) hx hb d_Line_addPair_14 (by decide) ?_
  refine nv_iandm hx hb 8 rfl d_Line_addPair_17 ?_
  refine kV_v (wc := [(a, .inr (2, [.ref pp, .int (nI fi), .int (nI (sz + 1))])), (pp, .inl (cI, 6247, .inl (nF (up B (fi + sz) ((x / 2 ^ 8) % 256)))))]) (wr := []) (w2 := fun _ => [(a, .inr (2, [.ref pp, .int (nI fi), .int (nI ((sz + 1) + 1))])), (pp, .inl (cI, 6247, .inl (nF (up (up B (fi + sz) ((x / 2 ^ 8) % 256)) (fi + (sz + 1)) (x % 256)))))]) [.int (nI (x % 256))] [] Bd ⟨gi_app (gi_c0 k_352 (gi_c0 k_345 (gi_c0 k_346 (gi_c0 k_6 gi_nil)))) (gi_tb0 k_347), rfl, by decide, by decide⟩ (show (parseMethodDescriptor "(I)V").map (fun d => d.parameters.length) = some 1 by decide +kernel) (c_Line_add a pp fi (sz + 1) (up B (fi + sz) ((x / 2 ^ 8) % 256)) (x % 256) (by omega)) (by decide +kernel) ⟨Nat.le_of_ble_eq_true rfl, Nat.le_of_ble_eq_true rfl⟩ hG hP hD hS hA [0, 1] [] [0, 1] (by decide) rfl rfl (fun _ => rfl) (q0 := 0) rfl rfl rfl hl.1 rfl (Nat.le_of_ble_eq_true rfl) d_Line_addPair_18 (fun u4 H locs hp3 hP hD hS => ?_)
  have hP : va_P D classes [(a, .inr (2, [.ref pp, .int (nI fi), .int (nI ((sz + 1) + 1))])), (pp, .inl (cI, 6247, .inl (nF (up (up B (fi + sz) ((x / 2 ^ 8) % 256)) (fi + (sz + 1)) (x % 256)))))] H := hP
  have hD : va_D AA [(a, .inr (2, [.ref pp, .int (nI fi), .int (nI ((sz + 1) + 1))])), (pp, .inl (cI, 6247, .inl (nF (up (up B (fi + sz) ((x / 2 ^ 8) % 256)) (fi + (sz + 1)) (x % 256)))))] := hD
  exact hret () _ _ _ _ d_Line_addPair_21 (trivial) hP hD hS
set_option maxHeartbeats 4000000 in
set_option maxRecDepth 100000 in
theorem c_Line_set (a : Nat) (pp : Nat) (fi : Nat) (sz : Nat) (B : Nat → Nat) (k : Nat) (x : Nat) (h0 : k < sz) (h1 : fi + sz ≤ 6247) : CV (S := Unit) l classes NW D (TYS cI cZ cL cV) y_Line_set (.code y_Line_set b_Line_set 3 none :: TB) { frames := 0, cells := 0, slots := 0, locals := 0 } [.ref a, .int (nI k), .int (nI x)] [(a, .inr (2, [.ref pp, .int (nI fi), .int (nI sz)])), (pp, .inl (cI, 6247, .inl (nF B)))] (fun u => True) (fun u => [(a, .inr (2, [.ref pp, .int (nI fi), .int (nI sz)])), (pp, .inl (cI, 6247, .inl (nF (up B (fi + k) x))))]) := by
  refine CV.of (by decide) (Nat.le_of_ble_eq_true rfl) ?_
  intro pr ev sT mM aR bW mE cO AA QQ ls Bd hG hA hP hD hS hl hnm hret
  have Bd : bd pr cO b_Line_set 3 sT aR TB "TileScreen$Line" mM := Bd
  obtain ⟨hx, hb, hml, hown, htb⟩ := id Bd
  have hl : lv_has ls 3 [(0, .ref a), (1, .int (nI k)), (2, .int (nI x))] := hl
  refine lv_iload_n hx hb d_Line_set_0 rfl (lv_at hl 1 rfl) ?_
  refine nv_if_ltF hx hb 24 d_Line_set_1 (by decide) (by omega) ?_
  refine lv_iload_n hx hb d_Line_set_4 rfl (lv_at hl 1 rfl) ?_
  refine lv_aload_n hx hb d_Line_set_5 rfl (lv_at hl 0 rfl) ?_
  refine va_get (D := D) (ci := 2) (v := .int (nI sz)) (C := "TileScreen$Line") (T := F_Line) (N := 3) hx hb htb i_Line hown hG.1 hP 0 rfl rfl 2 (by decide) (htb _ k_87) (fun _ h9 => h9) rfl d_Line_set_6 ?_
  refine nv_icmp_ge (tgt := 24) hx hb d_Line_set_9 (by decide) (by omega) (by omega) (fun c_9 => ?_) (fun c_9 => ?_)
  · omega
  · refine lv_aload_n hx hb d_Line_set_12 rfl (lv_at hl 0 rfl) ?_
    refine va_get (D := D) (ci := 2) (v := .ref pp) (C := "TileScreen$Line") (T := F_Line) (N := 3) hx hb htb i_Line hown hG.1 hP 0 rfl rfl 0 (by decide) (htb _ k_84) (fun _ h9 => h9) rfl d_Line_set_13 ?_
    refine lv_aload_n hx hb d_Line_set_16 rfl (lv_at hl 0 rfl) ?_
    refine va_get (D := D) (ci := 2) (v := .int (nI fi)) (C := "TileScreen$Line") (T := F_Line) (N := 3) hx hb htb i_Line hown hG.1 hP 0 rfl rfl 1 (by decide) (htb _ k_86) (fun _ h9 => h9) rfl d_Line_set_17 ?_
    refine lv_iload_n hx hb d_Line_set_20 rfl (lv_at hl 1 rfl) ?_
    refine nv_iadd hx hb d_Line_set_21 ?_
    refine lv_iload_n hx hb d_Line_set_22 rfl (lv_at hl 2 rfl) ?_
    refine nv_iast hx hb hG.1 hP hD hS 1 0 rfl rfl (by omega) (by omega) d_Line_set_23 (fun H locs hP hD hS => ?_)
    have hP : va_P D classes [(a, .inr (2, [.ref pp, .int (nI fi), .int (nI sz)])), (pp, .inl (cI, 6247, .inl (nF (up B (fi + k) x))))] H := hP
    have hD : va_D AA [(a, .inr (2, [.ref pp, .int (nI fi), .int (nI sz)])), (pp, .inl (cI, 6247, .inl (nF (up B (fi + k) x))))] := hD
    exact hret () _ _ _ _ d_Line_set_24 (trivial) hP hD hS
set_option maxHeartbeats 4000000 in
set_option maxRecDepth 100000 in
theorem c_Line_get (a : Nat) (pp : Nat) (fi : Nat) (sz : Nat) (B : Nat → Nat) (k : Int32) (h1 : fi + sz ≤ 6247) : CI (S := Unit) l classes NW D (TYS cI cZ cL cV) y_Line_get (.code y_Line_get b_Line_get 2 (some .int) :: TB) { frames := 0, cells := 0, slots := 0, locals := 0 } [.ref a, .int k] [(a, .inr (2, [.ref pp, .int (nI fi), .int (nI sz)])), (pp, .inl (cI, 6247, .inl (nF B)))] (fun r u => ((∃ j, j < sz ∧ k = nI j ∧ r = nI (B (fi + j))) ∨ ((∀ j, j < sz → k ≠ nI j) ∧ r = -1))) (fun u => [(a, .inr (2, [.ref pp, .int (nI fi), .int (nI sz)])), (pp, .inl (cI, 6247, .inl (nF B)))]) := by
  refine CI.of (by decide) (Nat.le_of_ble_eq_true rfl) ?_
  intro pr ev sT mM aR bW mE cO AA QQ ls Bd hG hA hP hD hS hl hret
  have Bd : bd pr cO b_Line_get 2 sT aR TB "TileScreen$Line" mM := Bd
  obtain ⟨hx, hb, hml, hown, htb⟩ := id Bd
  have hl : lv_has ls 2 [(0, .ref a), (1, .int k)] := hl
  refine lv_iload_n hx hb d_Line_get_0 rfl (lv_at hl 1 rfl) ?_
  refine lv_if_lt (tgt := 26) hx hb d_Line_get_1 (by decide) (fun c_1 => ?_) (fun c_1 => ?_)
  · refine lv_iconst (v := -1) hx hb d_Line_get_26 (by decide) ?_
    exact hret _ () _ _ _ _ d_Line_get_27 rfl (Or.inr ⟨fun j hj q => absurd (q ▸ c_1) (nI_pos (by omega)), rfl⟩) hP hD hS
  · refine lv_iload_n hx hb d_Line_get_4 rfl (lv_at hl 1 rfl) ?_
    refine lv_aload_n hx hb d_Line_get_5 rfl (lv_at hl 0 rfl) ?_
    refine va_get (D := D) (ci := 2) (v := .int (nI sz)) (C := "TileScreen$Line") (T := F_Line) (N := 3) hx hb htb i_Line hown hG.1 hP 0 rfl rfl 2 (by decide) (htb _ k_87) (fun _ h9 => h9) rfl d_Line_get_6 ?_
    refine lv_icmp_ge (tgt := 26) hx hb d_Line_get_9 (by decide) (fun c_9 => ?_) (fun c_9 => ?_)
    · refine lv_iconst (v := -1) hx hb d_Line_get_26 (by decide) ?_
      exact hret _ () _ _ _ _ d_Line_get_27 rfl (Or.inr ⟨fun j hj q => absurd ((nI_leI (by omega) (by omega)).mp (q ▸ c_9)) (by omega), rfl⟩) hP hD hS
    · obtain ⟨j, hj, rfl⟩ : ∃ j, j < sz ∧ k = nI j := (pk_ix k (show sz < 2 ^ 31 by omega)).resolve_left c_1 |>.resolve_left c_9
      refine lv_aload_n hx hb d_Line_get_12 rfl (lv_at hl 0 rfl) ?_
      refine va_get (D := D) (ci := 2) (v := .ref pp) (C := "TileScreen$Line") (T := F_Line) (N := 3) hx hb htb i_Line hown hG.1 hP 0 rfl rfl 0 (by decide) (htb _ k_84) (fun _ h9 => h9) rfl d_Line_get_13 ?_
      refine lv_aload_n hx hb d_Line_get_16 rfl (lv_at hl 0 rfl) ?_
      refine va_get (D := D) (ci := 2) (v := .int (nI fi)) (C := "TileScreen$Line") (T := F_Line) (N := 3) hx hb htb i_Line hown hG.1 hP 0 rfl rfl 1 (by decide) (htb _ k_86) (fun _ h9 => h9) rfl d_Line_get_17 ?_
      refine lv_iload_n hx hb d_Line_get_20 rfl (lv_at hl 1 rfl) ?_
      refine nv_iadd hx hb d_Line_get_21 ?_
      refine nv_iald hx hb hG.1 hP 1 0 rfl rfl (by omega) (by omega) d_Line_get_22 ?_
      refine lv_goto (tgt := 27) hx hb d_Line_get_23 (by decide) ?_
      exact hret _ () _ _ _ _ d_Line_get_27 rfl (Or.inl ⟨j, hj, rfl, rfl⟩) hP hD hS
set_option maxHeartbeats 4000000 in
set_option maxRecDepth 100000 in
theorem c_Line_removeFirst (a : Nat) (pp : Nat) (fi : Nat) (sz : Nat) (B : Nat → Nat) (h0 : 0 < sz) (h1 : fi + sz ≤ 6247) : CI (S := Unit) l classes NW D (TYS cI cZ cL cV) y_Line_removeFirst (.code y_Line_removeFirst b_Line_removeFirst 2 (some .int) :: TB) { frames := 0, cells := 0, slots := 0, locals := 0 } [.ref a] [(a, .inr (2, [.ref pp, .int (nI fi), .int (nI sz)])), (pp, .inl (cI, 6247, .inl (nF B)))] (fun r u => r = nI (B fi)) (fun u => [(a, .inr (2, [.ref pp, .int (nI (fi + 1)), .int (nI (sz - 1))])), (pp, .inl (cI, 6247, .inl (nF B)))]) := by
  refine CI.of (by decide) (Nat.le_of_ble_eq_true rfl) ?_
  intro pr ev sT mM aR bW mE cO AA QQ ls Bd hG hA hP hD hS hl hret
  have Bd : bd pr cO b_Line_removeFirst 2 sT aR TB "TileScreen$Line" mM := Bd
  obtain ⟨hx, hb, hml, hown, htb⟩ := id Bd
  have hl : lv_has ls 2 [(0, .ref a)] := hl
  refine lv_aload_n hx hb d_Line_removeFirst_0 rfl (lv_at hl 0 rfl) ?_
  refine va_get (D := D) (ci := 2) (v := .int (nI sz)) (C := "TileScreen$Line") (T := F_Line) (N := 3) hx hb htb i_Line hown hG.1 hP 0 rfl rfl 2 (by decide) (htb _ k_87) (fun _ h9 => h9) rfl d_Line_removeFirst_1 ?_
  refine nv_if_ne (tgt := 9) hx hb d_Line_removeFirst_4 (by decide) (by omega) (fun c_4 => ?_) (fun c_4 => ?_)
  · refine lv_aload_n hx hb d_Line_removeFirst_9 rfl (lv_at hl 0 rfl) ?_
    refine va_get (D := D) (ci := 2) (v := .ref pp) (C := "TileScreen$Line") (T := F_Line) (N := 3) hx hb htb i_Line hown hG.1 hP 0 rfl rfl 0 (by decide) (htb _ k_84) (fun _ h9 => h9) rfl d_Line_removeFirst_10 ?_
    refine lv_aload_n hx hb d_Line_removeFirst_13 rfl (lv_at hl 0 rfl) ?_
    refine va_get (D := D) (ci := 2) (v := .int (nI fi)) (C := "TileScreen$Line") (T := F_Line) (N := 3) hx hb htb i_Line hown hG.1 hP 0 rfl rfl 1 (by decide) (htb _ k_86) (fun _ h9 => h9) rfl d_Line_removeFirst_14 ?_
    refine nv_iald hx hb hG.1 hP 1 0 rfl rfl (by omega) (by omega) d_Line_removeFirst_17 ?_
    refine lv_istore_n (lv' := [(1, .int (nI (B fi))), (0, .ref a)]) hx hb d_Line_removeFirst_18 rfl hl (by decide) rfl (fun ls hl => ?_)
    refine lv_aload_n hx hb d_Line_removeFirst_19 rfl (lv_at hl 1 rfl) ?_
    refine lv_dup hx hb d_Line_removeFirst_20 rfl ?_
    refine va_get (D := D) (ci := 2) (v := .int (nI fi)) (C := "TileScreen$Line") (T := F_Line) (N := 3) hx hb htb i_Line hown hG.1 hP 0 rfl rfl 1 (by decide) (htb _ k_86) (fun _ h9 => h9) rfl d_Line_removeFirst_21 ?_
    refine lv_iconst (v := nI 1) hx hb d_Line_removeFirst_24 (by decide) ?_
    refine nv_iadd hx hb d_Line_removeFirst_25 ?_
    refine va_put (D := D) (ci := 2) (v := .int (nI (fi + 1))) (ty := .int) (C := "TileScreen$Line") (T := F_Line) (N := 3) hx hb htb i_Line t_Line t_Line_ok n_Line hown hG.1 hP hD hS 0 rfl rfl 1 (by decide) (htb _ k_86) (fun _ h9 => h9) rfl (by decide +kernel) rfl rfl (Nat.le_of_ble_eq_true rfl) d_Line_removeFirst_26 (fun H locs hP hD hS => ?_)
    have hP : va_P D classes [(a, .inr (2, [.ref pp, .int (nI (fi + 1)), .int (nI sz)])), (pp, .inl (cI, 6247, .inl (nF B)))] H := hP
    have hD : va_D AA [(a, .inr (2, [.ref pp, .int (nI (fi + 1)), .int (nI sz)])), (pp, .inl (cI, 6247, .inl (nF B)))] := hD
    refine lv_aload_n hx hb d_Line_removeFirst_29 rfl (lv_at hl 1 rfl) ?_
    refine lv_dup hx hb d_Line_removeFirst_30 rfl ?_
    refine va_get (D := D) (ci := 2) (v := .int (nI sz)) (C := "TileScreen$Line") (T := F_Line) (N := 3) hx hb htb i_Line hown hG.1 hP 0 rfl rfl 2 (by decide) (htb _ k_87) (fun _ h9 => h9) rfl d_Line_removeFirst_31 ?_
    refine lv_iconst (v := nI 1) hx hb d_Line_removeFirst_34 (by decide) ?_
    refine nv_isub hx hb (by omega) d_Line_removeFirst_35 ?_
    refine va_put (D := D) (ci := 2) (v := .int (nI (sz - 1))) (ty := .int) (C := "TileScreen$Line") (T := F_Line) (N := 3) hx hb htb i_Line t_Line t_Line_ok n_Line hown hG.1 hP hD hS 0 rfl rfl 2 (by decide) (htb _ k_87) (fun _ h9 => h9) rfl (by decide +kernel) rfl rfl (Nat.le_of_ble_eq_true rfl) d_Line_removeFirst_36 (fun H locs hP hD hS => ?_)
    have hP : va_P D classes [(a, .inr (2, [.ref pp, .int (nI (fi + 1)), .int (nI (sz - 1))])), (pp, .inl (cI, 6247, .inl (nF B)))] H := hP
    have hD : va_D AA [(a, .inr (2, [.ref pp, .int (nI (fi + 1)), .int (nI (sz - 1))])), (pp, .inl (cI, 6247, .inl (nF B)))] := hD
    refine lv_iload_n hx hb d_Line_removeFirst_39 rfl (lv_at hl 0 rfl) ?_
    exact hret _ () _ _ _ _ d_Line_removeFirst_40 rfl (rfl) hP hD hS
  · omega
set_option maxHeartbeats 4000000 in
set_option maxRecDepth 100000 in
theorem c_Poisons_init (a : Nat) : CV (S := Nat × Nat) l classes NW D (TYS cI cZ cL cV) y_Poisons_init (.code y_Poisons_init b_Poisons_init 1 none :: TB) { frames := 1, cells := 2, slots := 16, locals := 12 } [.ref a] [(a, .inr (3, [.null, .null, .int (nI 0)]))] (fun u => True) (fun u => [(a, .inr (3, [.ref u.1, .ref u.2, .int (nI 0)])), (u.1, .inl (cI, 8, .inl (nF (fun _ => 0)))), (u.2, .inl (cI, 8, .inl (nF (fun _ => 0))))]) := by
  refine CV.of (by decide) (Nat.le_of_ble_eq_true rfl) ?_
  intro pr ev sT mM aR bW mE cO AA QQ ls Bd hG hA hP hD hS hl hnm hret
  have Bd : bd pr cO b_Poisons_init 1 sT aR TB "TileScreen$Poisons" mM := Bd
  obtain ⟨hx, hb, hml, hown, htb⟩ := id Bd
  have hl : lv_has ls 1 [(0, .ref a)] := hl
  refine lv_aload_n hx hb d_Poisons_init_0 rfl (lv_at hl 0 rfl) ?_
  refine W.objInit hx hb hown (htb _ k_202) (htb _ k_24) (htb _ k_25) rfl (by rw [hml]; exact hl.1) rfl d_Poisons_init_1 (Nat.le_of_ble_eq_true rfl) (Nat.le_of_ble_eq_true rfl) ?_
  refine W.eq (g2 := F0 mM 4 ls []) rfl ?_
  refine lv_aload_n hx hb d_Poisons_init_4 rfl (lv_at hl 0 rfl) ?_
  refine lv_bipush (v := nI 8) hx hb d_Poisons_init_5 (by decide) ?_
  refine nv_newi hx hb (htb _ k_39) hG.1 hP hD hS hA 0 rfl (Nat.le_of_ble_eq_true rfl) (Nat.le_of_ble_eq_true rfl) (Nat.le_of_ble_eq_true rfl) d_Poisons_init_7 (fun q1 H hP hD hS => ?_)
  have hP : va_P D classes [(a, .inr (3, [.null, .null, .int (nI 0)])), (q1, .inl (cI, 8, .inl (nF (fun _ => 0))))] H := hP
  have hD : va_D AA [(a, .inr (3, [.null, .null, .int (nI 0)])), (q1, .inl (cI, 8, .inl (nF (fun _ => 0))))] := hD
  refine W.widen (k := 1) (n := 8) (Nat.le_of_ble_eq_true rfl) (Nat.le_of_ble_eq_true rfl) ?_
  refine va_putF (D := D) (ci := 3) (v := .ref q1) (ty := .array (.int)) (C := "TileScreen$Poisons") (T := F_Poisons) (N := 3) hx hb htb i_Poisons t_Poisons t_Poisons_ok n_Poisons hown hG.1 hP hD hS 0 rfl rfl 0 (by decide) (htb _ k_203) (fun _ h9 => h9) rfl hnm rfl (by decide +kernel) rfl rfl (Nat.le_of_ble_eq_true rfl) d_Poisons_init_9 (fun H locs hP hD hS => ?_)
  have hP : va_P D classes [(a, .inr (3, [.ref q1, .null, .int (nI 0)])), (q1, .inl (cI, 8, .inl (nF (fun _ => 0))))] H := hP
  have hD : va_D AA [(a, .inr (3, [.ref q1, .null, .int (nI 0)])), (q1, .inl (cI, 8, .inl (nF (fun _ => 0))))] := hD
  refine lv_aload_n hx hb d_Poisons_init_12 rfl (lv_at hl 0 rfl) ?_
  refine lv_bipush (v := nI 8) hx hb d_Poisons_init_13 (by decide) ?_
  refine nv_newi hx hb (htb _ k_39) hG.1 hP hD hS hA 0 rfl (Nat.le_of_ble_eq_true rfl) (Nat.le_of_ble_eq_true rfl) (Nat.le_of_ble_eq_true rfl) d_Poisons_init_15 (fun q2 H hP hD hS => ?_)
  have hP : va_P D classes [(a, .inr (3, [.ref q1, .null, .int (nI 0)])), (q1, .inl (cI, 8, .inl (nF (fun _ => 0)))), (q2, .inl (cI, 8, .inl (nF (fun _ => 0))))] H := hP
  have hD : va_D AA [(a, .inr (3, [.ref q1, .null, .int (nI 0)])), (q1, .inl (cI, 8, .inl (nF (fun _ => 0)))), (q2, .inl (cI, 8, .inl (nF (fun _ => 0))))] := hD
  refine W.widen (k := 2) (n := 16) (Nat.le_of_ble_eq_true rfl) (Nat.le_of_ble_eq_true rfl) ?_
  refine va_putF (D := D) (ci := 3) (v := .ref q2) (ty := .array (.int)) (C := "TileScreen$Poisons") (T := F_Poisons) (N := 3) hx hb htb i_Poisons t_Poisons t_Poisons_ok n_Poisons hown hG.1 hP hD hS 0 rfl rfl 1 (by decide) (htb _ k_204) (fun _ h9 => h9) rfl hnm rfl (by decide +kernel) rfl rfl (Nat.le_of_ble_eq_true rfl) d_Poisons_init_17 (fun H locs hP hD hS => ?_)
  have hP : va_P D classes [(a, .inr (3, [.ref q1, .ref q2, .int (nI 0)])), (q1, .inl (cI, 8, .inl (nF (fun _ => 0)))), (q2, .inl (cI, 8, .inl (nF (fun _ => 0))))] H := hP
  have hD : va_D AA [(a, .inr (3, [.ref q1, .ref q2, .int (nI 0)])), (q1, .inl (cI, 8, .inl (nF (fun _ => 0)))), (q2, .inl (cI, 8, .inl (nF (fun _ => 0))))] := hD
  
  exact hret (q1, q2) _ _ _ _ d_Poisons_init_20 (trivial) hP hD hS
set_option maxHeartbeats 4000000 in
set_option maxRecDepth 100000 in
theorem c_Poisons_add (a : Nat) (pp : Nat) (qq : Nat) (cn : Nat) (q1 : Nat → Nat) (w1 : Nat → Nat) (n : Nat) (x : Nat) (hc : cn ≤ 8) : CV (S := Unit) l classes NW D (TYS cI cZ cL cV) y_Poisons_add (.code y_Poisons_add b_Poisons_add 3 none :: TB) { frames := 0, cells := 0, slots := 0, locals := 0 } [.ref a, .int (nI n), .int (nI x)] [(a, .inr (3, [.ref pp, .ref qq, .int (nI cn)])), (pp, .inl (cI, 8, .inl (nF q1))), (qq, .inl (cI, 8, .inl (nF w1)))] (fun u => True) (fun u => [(a, .inr (3, [.ref pp, .ref qq, .int (nI (min (cn + 1) 8))])), (pp, .inl (cI, 8, .inl (nF (up q1 (min cn 7) n)))), (qq, .inl (cI, 8, .inl (nF (up w1 (min cn 7) x))))]) := by
  refine CV.of (by decide) (Nat.le_of_ble_eq_true rfl) ?_
  intro pr ev sT mM aR bW mE cO AA QQ ls Bd hG hA hP hD hS hl hnm hret
  have Bd : bd pr cO b_Poisons_add 3 sT aR TB "TileScreen$Poisons" mM := Bd
  obtain ⟨hx, hb, hml, hown, htb⟩ := id Bd
  have hl : lv_has ls 3 [(0, .ref a), (1, .int (nI n)), (2, .int (nI x))] := hl
  refine lv_aload_n hx hb d_Poisons_add_0 rfl (lv_at hl 0 rfl) ?_
  refine va_get (D := D) (ci := 3) (v := .int (nI cn)) (C := "TileScreen$Poisons") (T := F_Poisons) (N := 3) hx hb htb i_Poisons hown hG.1 hP 0 rfl rfl 2 (by decide) (htb _ k_205) (fun _ h9 => h9) rfl d_Poisons_add_1 ?_
  refine lv_bipush (v := nI 8) hx hb d_Poisons_add_4 (by decide) ?_
  refine nv_icmp_ge (tgt := 19) hx hb d_Poisons_add_6 (by decide) (by omega) (by omega) (fun c_6 => ?_) (fun c_6 => ?_)
  · refine lv_aload_n hx hb d_Poisons_add_19 rfl (lv_at hl 0 rfl) ?_
    refine va_get (D := D) (ci := 3) (v := .ref pp) (C := "TileScreen$Poisons") (T := F_Poisons) (N := 3) hx hb htb i_Poisons hown hG.1 hP 0 rfl rfl 0 (by decide) (htb _ k_203) (fun _ h9 => h9) rfl d_Poisons_add_20 ?_
    refine lv_aload_n hx hb d_Poisons_add_23 rfl (lv_at hl 0 rfl) ?_
    refine va_get (D := D) (ci := 3) (v := .int (nI cn)) (C := "TileScreen$Poisons") (T := F_Poisons) (N := 3) hx hb htb i_Poisons hown hG.1 hP 0 rfl rfl 2 (by decide) (htb _ k_205) (fun _ h9 => h9) rfl d_Poisons_add_24 ?_
    refine lv_iconst (v := nI 1) hx hb d_Poisons_add_27 (by decide) ?_
    refine nv_isub hx hb (by omega) d_Poisons_add_28 ?_
    refine lv_iload_n hx hb d_Poisons_add_29 rfl (lv_at hl 1 rfl) ?_
    refine nv_iast hx hb hG.1 hP hD hS 1 0 rfl rfl (by omega) (by omega) d_Poisons_add_30 (fun H locs hP hD hS => ?_)
    have hP : va_P D classes [(a, .inr (3, [.ref pp, .ref qq, .int (nI cn)])), (pp, .inl (cI, 8, .inl (nF (up q1 (cn - 1) n)))), (qq, .inl (cI, 8, .inl (nF w1)))] H := hP
    have hD : va_D AA [(a, .inr (3, [.ref pp, .ref qq, .int (nI cn)])), (pp, .inl (cI, 8, .inl (nF (up q1 (cn - 1) n)))), (qq, .inl (cI, 8, .inl (nF w1)))] := hD
    refine lv_aload_n hx hb d_Poisons_add_31 rfl (lv_at hl 0 rfl) ?_
    refine va_get (D := D) (ci := 3) (v := .ref qq) (C := "TileScreen$Poisons") (T := F_Poisons) (N := 3) hx hb htb i_Poisons hown hG.1 hP 0 rfl rfl 1 (by decide) (htb _ k_204) (fun _ h9 => h9) rfl d_Poisons_add_32 ?_
    refine lv_aload_n hx hb d_Poisons_add_35 rfl (lv_at hl 0 rfl) ?_
    refine va_get (D := D) (ci := 3) (v := .int (nI cn)) (C := "TileScreen$Poisons") (T := F_Poisons) (N := 3) hx hb htb i_Poisons hown hG.1 hP 0 rfl rfl 2 (by decide) (htb _ k_205) (fun _ h9 => h9) rfl d_Poisons_add_36 ?_
    refine lv_iconst (v := nI 1) hx hb d_Poisons_add_39 (by decide) ?_
    refine nv_isub hx hb (by omega) d_Poisons_add_40 ?_
    refine lv_iload_n hx hb d_Poisons_add_41 rfl (lv_at hl 2 rfl) ?_
    refine nv_iast hx hb hG.1 hP hD hS 2 0 rfl rfl (by omega) (by omega) d_Poisons_add_42 (fun H locs hP hD hS => ?_)
    have hP : va_P D classes [(a, .inr (3, [.ref pp, .ref qq, .int (nI cn)])), (pp, .inl (cI, 8, .inl (nF (up q1 (cn - 1) n)))), (qq, .inl (cI, 8, .inl (nF (up w1 (cn - 1) x))))] H := hP
    have hD : va_D AA [(a, .inr (3, [.ref pp, .ref qq, .int (nI cn)])), (pp, .inl (cI, 8, .inl (nF (up q1 (cn - 1) n)))), (qq, .inl (cI, 8, .inl (nF (up w1 (cn - 1) x))))] := hD
    rw [show min (cn + 1) 8 = cn by omega, show min cn 7 = cn - 1 by omega] at hret
    exact hret () _ _ _ _ d_Poisons_add_43 (trivial) hP hD hS
  · refine lv_aload_n hx hb d_Poisons_add_9 rfl (lv_at hl 0 rfl) ?_
    refine lv_dup hx hb d_Poisons_add_10 rfl ?_
    refine va_get (D := D) (ci := 3) (v := .int (nI cn)) (C := "TileScreen$Poisons") (T := F_Poisons) (N := 3) hx hb htb i_Poisons hown hG.1 hP 0 rfl rfl 2 (by decide) (htb _ k_205) (fun _ h9 => h9) rfl d_Poisons_add_11 ?_
    refine lv_iconst (v := nI 1) hx hb d_Poisons_add_14 (by decide) ?_
    refine nv_iadd hx hb d_Poisons_add_15 ?_
    refine va_put (D := D) (ci := 3) (v := .int (nI (cn + 1))) (ty := .int) (C := "TileScreen$Poisons") (T := F_Poisons) (N := 3) hx hb htb i_Poisons t_Poisons t_Poisons_ok n_Poisons hown hG.1 hP hD hS 0 rfl rfl 2 (by decide) (htb _ k_205) (fun _ h9 => h9) rfl (by decide +kernel) rfl rfl (Nat.le_of_ble_eq_true rfl) d_Poisons_add_16 (fun H locs hP hD hS => ?_)
    have hP : va_P D classes [(a, .inr (3, [.ref pp, .ref qq, .int (nI (cn + 1))])), (pp, .inl (cI, 8, .inl (nF q1))), (qq, .inl (cI, 8, .inl (nF w1)))] H := hP
    have hD : va_D AA [(a, .inr (3, [.ref pp, .ref qq, .int (nI (cn + 1))])), (pp, .inl (cI, 8, .inl (nF q1))), (qq, .inl (cI, 8, .inl (nF w1)))] := hD
    refine lv_aload_n hx hb d_Poisons_add_19 rfl (lv_at hl 0 rfl) ?_
    refine va_get (D := D) (ci := 3) (v := .ref pp) (C := "TileScreen$Poisons") (T := F_Poisons) (N := 3) hx hb htb i_Poisons hown hG.1 hP 0 rfl rfl 0 (by decide) (htb _ k_203) (fun _ h9 => h9) rfl d_Poisons_add_20 ?_
    refine lv_aload_n hx hb d_Poisons_add_23 rfl (lv_at hl 0 rfl) ?_
    refine va_get (D := D) (ci := 3) (v := .int (nI (cn + 1))) (C := "TileScreen$Poisons") (T := F_Poisons) (N := 3) hx hb htb i_Poisons hown hG.1 hP 0 rfl rfl 2 (by decide) (htb _ k_205) (fun _ h9 => h9) rfl d_Poisons_add_24 ?_
    refine lv_iconst (v := nI 1) hx hb d_Poisons_add_27 (by decide) ?_
    refine nv_isub hx hb (by omega) d_Poisons_add_28 ?_
    refine lv_iload_n hx hb d_Poisons_add_29 rfl (lv_at hl 1 rfl) ?_
    refine nv_iast hx hb hG.1 hP hD hS 1 0 rfl rfl (by omega) (by omega) d_Poisons_add_30 (fun H locs hP hD hS => ?_)
    have hP : va_P D classes [(a, .inr (3, [.ref pp, .ref qq, .int (nI (cn + 1))])), (pp, .inl (cI, 8, .inl (nF (up q1 ((cn + 1) - 1) n)))), (qq, .inl (cI, 8, .inl (nF w1)))] H := hP
    have hD : va_D AA [(a, .inr (3, [.ref pp, .ref qq, .int (nI (cn + 1))])), (pp, .inl (cI, 8, .inl (nF (up q1 ((cn + 1) - 1) n)))), (qq, .inl (cI, 8, .inl (nF w1)))] := hD
    refine lv_aload_n hx hb d_Poisons_add_31 rfl (lv_at hl 0 rfl) ?_
    refine va_get (D := D) (ci := 3) (v := .ref qq) (C := "TileScreen$Poisons") (T := F_Poisons) (N := 3) hx hb htb i_Poisons hown hG.1 hP 0 rfl rfl 1 (by decide) (htb _ k_204) (fun _ h9 => h9) rfl d_Poisons_add_32 ?_
    refine lv_aload_n hx hb d_Poisons_add_35 rfl (lv_at hl 0 rfl) ?_
    refine va_get (D := D) (ci := 3) (v := .int (nI (cn + 1))) (C := "TileScreen$Poisons") (T := F_Poisons) (N := 3) hx hb htb i_Poisons hown hG.1 hP 0 rfl rfl 2 (by decide) (htb _ k_205) (fun _ h9 => h9) rfl d_Poisons_add_36 ?_
    refine lv_iconst (v := nI 1) hx hb d_Poisons_add_39 (by decide) ?_
    refine nv_isub hx hb (by omega) d_Poisons_add_40 ?_
    refine lv_iload_n hx hb d_Poisons_add_41 rfl (lv_at hl 2 rfl) ?_
    refine nv_iast hx hb hG.1 hP hD hS 2 0 rfl rfl (by omega) (by omega) d_Poisons_add_42 (fun H locs hP hD hS => ?_)
    have hP : va_P D classes [(a, .inr (3, [.ref pp, .ref qq, .int (nI (cn + 1))])), (pp, .inl (cI, 8, .inl (nF (up q1 ((cn + 1) - 1) n)))), (qq, .inl (cI, 8, .inl (nF (up w1 ((cn + 1) - 1) x))))] H := hP
    have hD : va_D AA [(a, .inr (3, [.ref pp, .ref qq, .int (nI (cn + 1))])), (pp, .inl (cI, 8, .inl (nF (up q1 ((cn + 1) - 1) n)))), (qq, .inl (cI, 8, .inl (nF (up w1 ((cn + 1) - 1) x))))] := hD
    rw [show min (cn + 1) 8 = cn + 1 by omega, show min cn 7 = cn + 1 - 1 by omega] at hret
    exact hret () _ _ _ _ d_Poisons_add_43 (trivial) hP hD hS
set_option maxHeartbeats 4000000 in
set_option maxRecDepth 100000 in
theorem c_Poisons_spoil (a : Nat) (pp : Nat) (qq : Nat) (cn : Nat) (q1 : Nat → Nat) (w1 : Nat → Nat) (x : Nat) (hc : cn ≤ 8) (bq : ∀ j, q1 j < 20000) (bq0 : ∀ j, j < cn → 0 < q1 j) : CI (S := Unit) l classes NW D (TYS cI cZ cL cV) y_Poisons_spoil (.code y_Poisons_spoil b_Poisons_spoil 5 (some .int) :: TB) { frames := 0, cells := 0, slots := 0, locals := 0 } [.ref a, .int (nI x)] [(a, .inr (3, [.ref pp, .ref qq, .int (nI cn)])), (pp, .inl (cI, 8, .inl (nF q1))), (qq, .inl (cI, 8, .inl (nF w1)))] (fun r u => r = nI (cmX q1 w1 x cn)) (fun u => [(a, .inr (3, [.ref pp, .ref qq, .int (nI (kpN q1 cn))])), (pp, .inl (cI, 8, .inl (nF (cmA q1 cn)))), (qq, .inl (cI, 8, .inl (nF (cmM q1 w1 cn))))]) := by
  refine CI.of (by decide) (Nat.le_of_ble_eq_true rfl) ?_
  intro pr ev sT mM aR bW mE cO AA QQ ls Bd hG hA hP hD hS hl hret
  have Bd : bd pr cO b_Poisons_spoil 5 sT aR TB "TileScreen$Poisons" mM := Bd
  obtain ⟨hx, hb, hml, hown, htb⟩ := id Bd
  have hl : lv_has ls 5 [(0, .ref a), (1, .int (nI x))] := hl
  refine lv_iload_n hx hb d_Poisons_spoil_0 rfl (lv_at hl 1 rfl) ?_
  refine lv_istore_n (lv' := [(2, .int (nI x)), (0, .ref a), (1, .int (nI x))]) hx hb d_Poisons_spoil_1 rfl hl (by decide) rfl (fun ls hl => ?_)
  refine lv_iconst (v := nI 0) hx hb d_Poisons_spoil_2 (by decide) ?_
  refine lv_istore_n (lv' := [(3, .int (nI 0)), (2, .int (nI x)), (0, .ref a), (1, .int (nI x))]) hx hb d_Poisons_spoil_3 rfl hl (by decide) rfl (fun ls hl => ?_)
  refine lv_iconst (v := nI 0) hx hb d_Poisons_spoil_4 (by decide) ?_
  refine lv_istore (lv' := [(4, .int (nI 0)), (3, .int (nI 0)), (2, .int (nI x)), (0, .ref a), (1, .int (nI x))]) hx hb d_Poisons_spoil_5 hl (by decide) rfl (fun ls hl => ?_)
  have lp_7 : ∀ (nn : Nat) (k : Nat) (hk : k ≤ cn), cn - k < nn → ∀ (H : Heap) (locs : List Loc) (ls : Array Slot), va_P D classes [(a, .inr (3, [.ref pp, .ref qq, .int (nI cn)])), (pp, .inl (cI, 8, .inl (nF (cmA q1 k)))), (qq, .inl (cI, 8, .inl (nF (cmM q1 w1 k))))] H → va_D AA [(a, .inr (3, [.ref pp, .ref qq, .int (nI cn)])), (pp, .inl (cI, 8, .inl (nF (cmA q1 k)))), (qq, .inl (cI, 8, .inl (nF (cmM q1 w1 k))))] → va_S AA sT.heap H locs → lv_has ls 5 [(4, .int (nI k)), (3, .int (nI (kpN q1 k))), (2, .int (nI (cmX q1 w1 x k))), (0, .ref a), (1, .int (nI x))] → W pr l ev ({ frames := 0, cells := 0, slots := 0, locals := 0 } : Room) sT mM aR bW mE cO H locs 0 0 QQ (F0 mM 7 ls []) := by
    intro nn
    induction nn with
    | zero => intro k hk hm; exact absurd hm (Nat.not_lt_zero _)
    | succ nn ih =>
      intro k hk hm H locs ls hP hD hS hl
      have hkp := kpN_le q1 k
      refine lv_iload hx hb d_Poisons_spoil_7 (lv_at hl 0 rfl) ?_
      refine lv_aload_n hx hb d_Poisons_spoil_9 rfl (lv_at hl 3 rfl) ?_
      refine va_get (D := D) (ci := 3) (v := .int (nI cn)) (C := "TileScreen$Poisons") (T := F_Poisons) (N := 3) hx hb htb i_Poisons hown hG.1 hP 0 rfl rfl 2 (by decide) (htb _ k_205) (fun _ h9 => h9) rfl d_Poisons_spoil_10 ?_
      refine nv_icmp_ge (tgt := 77) hx hb d_Poisons_spoil_13 (by decide) (by omega) (by omega) (fun c_13 => ?_) (fun c_13 => ?_)
      · refine lv_aload_n hx hb d_Poisons_spoil_77 rfl (lv_at hl 3 rfl) ?_
        refine lv_iload_n hx hb d_Poisons_spoil_78 rfl (lv_at hl 1 rfl) ?_
        refine va_put (D := D) (ci := 3) (v := .int (nI (kpN q1 k))) (ty := .int) (C := "TileScreen$Poisons") (T := F_Poisons) (N := 3) hx hb htb i_Poisons t_Poisons t_Poisons_ok n_Poisons hown hG.1 hP hD hS 0 rfl rfl 2 (by decide) (htb _ k_205) (fun _ h9 => h9) rfl (by decide +kernel) rfl rfl (Nat.le_of_ble_eq_true rfl) d_Poisons_spoil_79 (fun H locs hP hD hS => ?_)
        have hP : va_P D classes [(a, .inr (3, [.ref pp, .ref qq, .int (nI (kpN q1 k))])), (pp, .inl (cI, 8, .inl (nF (cmA q1 k)))), (qq, .inl (cI, 8, .inl (nF (cmM q1 w1 k))))] H := hP
        have hD : va_D AA [(a, .inr (3, [.ref pp, .ref qq, .int (nI (kpN q1 k))])), (pp, .inl (cI, 8, .inl (nF (cmA q1 k)))), (qq, .inl (cI, 8, .inl (nF (cmM q1 w1 k))))] := hD
        refine lv_iload_n hx hb d_Poisons_spoil_82 rfl (lv_at hl 2 rfl) ?_
        obtain rfl : k = cn := by omega
        exact hret _ () _ _ _ _ d_Poisons_spoil_83 rfl (rfl) hP hD hS
      · refine lv_aload_n hx hb d_Poisons_spoil_16 rfl (lv_at hl 3 rfl) ?_
        refine va_get (D := D) (ci := 3) (v := .ref pp) (C := "TileScreen$Poisons") (T := F_Poisons) (N := 3) hx hb htb i_Poisons hown hG.1 hP 0 rfl rfl 0 (by decide) (htb _ k_203) (fun _ h9 => h9) rfl d_Poisons_spoil_17 ?_
        refine lv_iload hx hb d_Poisons_spoil_20 (lv_at hl 0 rfl) ?_
        refine nv_iald hx hb hG.1 hP 1 0 rfl rfl (by omega) (by omega) d_Poisons_spoil_22 ?_
        refine nv_top (y := nI (q1 k)) (congrArg nI (cmA_at q1 k)) ?_
        refine lv_iconst (v := nI 1) hx hb d_Poisons_spoil_23 (by decide) ?_
        refine nv_icmp_ne (tgt := 40) hx hb d_Poisons_spoil_24 (by decide) (Nat.lt_trans (bq k) (by decide)) (by omega) (fun c_24 => ?_) (fun c_24 => ?_)
        · refine lv_aload_n hx hb d_Poisons_spoil_40 rfl (lv_at hl 3 rfl) ?_
          refine va_get (D := D) (ci := 3) (v := .ref pp) (C := "TileScreen$Poisons") (T := F_Poisons) (N := 3) hx hb htb i_Poisons hown hG.1 hP 0 rfl rfl 0 (by decide) (htb _ k_203) (fun _ h9 => h9) rfl d_Poisons_spoil_41 ?_
          refine lv_iload_n hx hb d_Poisons_spoil_44 rfl (lv_at hl 1 rfl) ?_
          refine lv_aload_n hx hb d_Poisons_spoil_45 rfl (lv_at hl 3 rfl) ?_
          refine va_get (D := D) (ci := 3) (v := .ref pp) (C := "TileScreen$Poisons") (T := F_Poisons) (N := 3) hx hb htb i_Poisons hown hG.1 hP 0 rfl rfl 0 (by decide) (htb _ k_203) (fun _ h9 => h9) rfl d_Poisons_spoil_46 ?_
          refine lv_iload hx hb d_Poisons_spoil_49 (lv_at hl 0 rfl) ?_
          refine nv_iald hx hb hG.1 hP 1 0 rfl rfl (by omega) (by omega) d_Poisons_spoil_51 ?_
          refine nv_top (y := nI (q1 k)) (congrArg nI (cmA_at q1 k)) ?_
          refine lv_iconst (v := nI 1) hx hb d_Poisons_spoil_52 (by decide) ?_
          refine nv_isub hx hb (bq0 k c_13) d_Poisons_spoil_53 ?_
          refine nv_iast hx hb hG.1 hP hD hS 1 0 rfl rfl (by omega) (by omega) d_Poisons_spoil_54 (fun H locs hP hD hS => ?_)
          have hP : va_P D classes [(a, .inr (3, [.ref pp, .ref qq, .int (nI cn)])), (pp, .inl (cI, 8, .inl (nF (up (cmA q1 k) (kpN q1 k) ((q1 k) - 1))))), (qq, .inl (cI, 8, .inl (nF (cmM q1 w1 k))))] H := hP
          have hD : va_D AA [(a, .inr (3, [.ref pp, .ref qq, .int (nI cn)])), (pp, .inl (cI, 8, .inl (nF (up (cmA q1 k) (kpN q1 k) ((q1 k) - 1))))), (qq, .inl (cI, 8, .inl (nF (cmM q1 w1 k))))] := hD
          refine lv_aload_n hx hb d_Poisons_spoil_55 rfl (lv_at hl 3 rfl) ?_
          refine va_get (D := D) (ci := 3) (v := .ref qq) (C := "TileScreen$Poisons") (T := F_Poisons) (N := 3) hx hb htb i_Poisons hown hG.1 hP 0 rfl rfl 1 (by decide) (htb _ k_204) (fun _ h9 => h9) rfl d_Poisons_spoil_56 ?_
          refine lv_iload_n hx hb d_Poisons_spoil_59 rfl (lv_at hl 1 rfl) ?_
          refine lv_aload_n hx hb d_Poisons_spoil_60 rfl (lv_at hl 3 rfl) ?_
          refine va_get (D := D) (ci := 3) (v := .ref qq) (C := "TileScreen$Poisons") (T := F_Poisons) (N := 3) hx hb htb i_Poisons hown hG.1 hP 0 rfl rfl 1 (by decide) (htb _ k_204) (fun _ h9 => h9) rfl d_Poisons_spoil_61 ?_
          refine lv_iload hx hb d_Poisons_spoil_64 (lv_at hl 0 rfl) ?_
          refine nv_iald hx hb hG.1 hP 2 0 rfl rfl (by omega) (by omega) d_Poisons_spoil_66 ?_
          refine nv_top (y := nI (w1 k)) (congrArg nI (cmM_hi q1 w1 k k (kpN_le q1 k))) ?_
          refine nv_iast hx hb hG.1 hP hD hS 2 0 rfl rfl (by omega) (by omega) d_Poisons_spoil_67 (fun H locs hP hD hS => ?_)
          have hP : va_P D classes [(a, .inr (3, [.ref pp, .ref qq, .int (nI cn)])), (pp, .inl (cI, 8, .inl (nF (up (cmA q1 k) (kpN q1 k) ((q1 k) - 1))))), (qq, .inl (cI, 8, .inl (nF (up (cmM q1 w1 k) (kpN q1 k) (w1 k)))))] H := hP
          have hD : va_D AA [(a, .inr (3, [.ref pp, .ref qq, .int (nI cn)])), (pp, .inl (cI, 8, .inl (nF (up (cmA q1 k) (kpN q1 k) ((q1 k) - 1))))), (qq, .inl (cI, 8, .inl (nF (up (cmM q1 w1 k) (kpN q1 k) (w1 k)))))] := hD
          refine lv_iinc (v := (nI (kpN q1 k + 1))) (lv' := [(3, .int (nI (kpN q1 k + 1))), (4, .int (nI k)), (2, .int (nI (cmX q1 w1 x k))), (0, .ref a), (1, .int (nI x))]) hx hb d_Poisons_spoil_68 hl (k := 1) rfl (nI_add (kpN q1 k) 1) (by decide) rfl (fun ls hl => ?_)
          refine lv_iinc (v := (nI (k + 1))) (lv' := [(4, .int (nI (k + 1))), (3, .int (nI (kpN q1 k + 1))), (2, .int (nI (cmX q1 w1 x k))), (0, .ref a), (1, .int (nI x))]) hx hb d_Poisons_spoil_71 hl (k := 1) rfl (nI_add k 1) (by decide) rfl (fun ls hl => ?_)
          refine lv_goto (tgt := 7) hx hb d_Poisons_spoil_74 (by decide) ?_
          rw [← cmA_2 c_24, ← cmM_2 c_24] at hP hD
          rw [← kpN_2 c_24, ← cmX_2 (w := w1) (x := x) c_24] at hl
          exact ih (k + 1) (by omega) (by omega) _ _ _ hP hD hS (lv_sub hl [0, 1, 2, 3, 4] rfl)
        · refine lv_iload_n hx hb d_Poisons_spoil_27 rfl (lv_at hl 2 rfl) ?_
          refine lv_aload_n hx hb d_Poisons_spoil_28 rfl (lv_at hl 3 rfl) ?_
          refine va_get (D := D) (ci := 3) (v := .ref qq) (C := "TileScreen$Poisons") (T := F_Poisons) (N := 3) hx hb htb i_Poisons hown hG.1 hP 0 rfl rfl 1 (by decide) (htb _ k_204) (fun _ h9 => h9) rfl d_Poisons_spoil_29 ?_
          refine lv_iload hx hb d_Poisons_spoil_32 (lv_at hl 0 rfl) ?_
          refine nv_iald hx hb hG.1 hP 2 0 rfl rfl (by omega) (by omega) d_Poisons_spoil_34 ?_
          refine nv_top (y := nI (w1 k)) (congrArg nI (cmM_at q1 w1 k)) ?_
          refine nv_ixor hx hb d_Poisons_spoil_35 ?_
          refine lv_istore_n (lv' := [(2, .int (nI ((cmX q1 w1 x k) ^^^ (w1 k)))), (4, .int (nI k)), (3, .int (nI (kpN q1 k))), (0, .ref a), (1, .int (nI x))]) hx hb d_Poisons_spoil_36 rfl hl (by decide) rfl (fun ls hl => ?_)
          refine lv_goto (tgt := 71) hx hb d_Poisons_spoil_37 (by decide) ?_
          refine lv_iinc (v := (nI (k + 1))) (lv' := [(4, .int (nI (k + 1))), (2, .int (nI ((cmX q1 w1 x k) ^^^ (w1 k)))), (3, .int (nI (kpN q1 k))), (0, .ref a), (1, .int (nI x))]) hx hb d_Poisons_spoil_71 hl (k := 1) rfl (nI_add k 1) (by decide) rfl (fun ls hl => ?_)
          refine lv_goto (tgt := 7) hx hb d_Poisons_spoil_74 (by decide) ?_
          rw [← cmA_1 c_24, ← cmM_1 c_24] at hP hD
          rw [← kpN_1 c_24, ← cmX_1 c_24] at hl
          exact ih (k + 1) (by omega) (by omega) _ _ _ hP hD hS (lv_sub hl [0, 2, 1, 3, 4] rfl)
  exact lp_7 _ 0 (Nat.zero_le _) (Nat.lt_succ_self _) _ _ _ hP hD hS (lv_sub hl [0, 1, 2, 3, 4] rfl)
end
end
section
section
variable {l : Launch} {D : va_G} {cI cZ cL cV : ClassId}
set_option maxHeartbeats 4000000 in
set_option maxRecDepth 100000 in
theorem c_Look_init (a : Nat) : CV (S := Nat) l classes NW D (TYS cI cZ cL cV) y_Look_init (.code y_Look_init b_Look_init 1 none :: TB) { frames := 1, cells := 1, slots := 4, locals := 12 } [.ref a] [(a, .inr (4, [.null, .int (nI 0), .int (nI 0)]))] (fun u => True) (fun u => [(a, .inr (4, [.ref u, .int (nI 0), .int (nI 0)])), (u, .inl (cI, 4, .inl (nF (fun _ => 0))))]) := by
  refine CV.of (by decide) (Nat.le_of_ble_eq_true rfl) ?_
  intro pr ev sT mM aR bW mE cO AA QQ ls Bd hG hA hP hD hS hl hnm hret
  have Bd : bd pr cO b_Look_init 1 sT aR TB "TileScreen$Look" mM := Bd
  obtain ⟨hx, hb, hml, hown, htb⟩ := id Bd
  have hl : lv_has ls 1 [(0, .ref a)] := hl
  refine lv_aload_n hx hb d_Look_init_0 rfl (lv_at hl 0 rfl) ?_
  refine W.objInit hx hb hown (htb _ k_102) (htb _ k_24) (htb _ k_25) rfl (by rw [hml]; exact hl.1) rfl d_Look_init_1 (Nat.le_of_ble_eq_true rfl) (Nat.le_of_ble_eq_true rfl) ?_
  refine W.eq (g2 := F0 mM 4 ls []) rfl ?_
  refine lv_aload_n hx hb d_Look_init_4 rfl (lv_at hl 0 rfl) ?_
  refine lv_iconst (v := nI 4) hx hb d_Look_init_5 (by decide) ?_
  refine nv_newi hx hb (htb _ k_39) hG.1 hP hD hS hA 0 rfl (Nat.le_of_ble_eq_true rfl) (Nat.le_of_ble_eq_true rfl) (Nat.le_of_ble_eq_true rfl) d_Look_init_6 (fun q1 H hP hD hS => ?_)
  have hP : va_P D classes [(a, .inr (4, [.null, .int (nI 0), .int (nI 0)])), (q1, .inl (cI, 4, .inl (nF (fun _ => 0))))] H := hP
  have hD : va_D AA [(a, .inr (4, [.null, .int (nI 0), .int (nI 0)])), (q1, .inl (cI, 4, .inl (nF (fun _ => 0))))] := hD
  refine W.widen (k := 1) (n := 4) (Nat.le_of_ble_eq_true rfl) (Nat.le_of_ble_eq_true rfl) ?_
  refine va_putF (D := D) (ci := 4) (v := .ref q1) (ty := .array (.int)) (C := "TileScreen$Look") (T := F_Look) (N := 3) hx hb htb i_Look t_Look t_Look_ok n_Look hown hG.1 hP hD hS 0 rfl rfl 0 (by decide) (htb _ k_103) (fun _ h9 => h9) rfl hnm rfl (by decide +kernel) rfl rfl (Nat.le_of_ble_eq_true rfl) d_Look_init_8 (fun H locs hP hD hS => ?_)
  have hP : va_P D classes [(a, .inr (4, [.ref q1, .int (nI 0), .int (nI 0)])), (q1, .inl (cI, 4, .inl (nF (fun _ => 0))))] H := hP
  have hD : va_D AA [(a, .inr (4, [.ref q1, .int (nI 0), .int (nI 0)])), (q1, .inl (cI, 4, .inl (nF (fun _ => 0))))] := hD
  
  exact hret q1 _ _ _ _ d_Look_init_11 (trivial) hP hD hS
set_option maxHeartbeats 4000000 in
set_option maxRecDepth 100000 in
theorem c_Look_indexOf (a : Nat) (pp : Nat) (nc : Nat) (ru : Nat) (P : Nat → Nat) (x : Nat) (bP : ∀ j, P j < 65536) (hx1 : x < 65536) (hc : nc ≤ 1000) : CI (S := Unit) l classes NW D (TYS cI cZ cL cV) y_Look_indexOf (.code y_Look_indexOf b_Look_indexOf 3 (some .int) :: TB) { frames := 0, cells := 0, slots := 0, locals := 0 } [.ref a, .int (nI x)] [(a, .inr (4, [.ref pp, .int (nI nc), .int (nI ru)])), (pp, .inl (cI, 4, .inl (nF P)))] (fun r u => isFind (fun i => P i == x) (min nc 4) r) (fun u => [(a, .inr (4, [.ref pp, .int (nI nc), .int (nI ru)])), (pp, .inl (cI, 4, .inl (nF P)))]) := by
  refine CI.of (by decide) (Nat.le_of_ble_eq_true rfl) ?_
  intro pr ev sT mM aR bW mE cO AA QQ ls Bd hG hA hP hD hS hl hret
  have Bd : bd pr cO b_Look_indexOf 3 sT aR TB "TileScreen$Look" mM := Bd
  obtain ⟨hx, hb, hml, hown, htb⟩ := id Bd
  have hl : lv_has ls 3 [(0, .ref a), (1, .int (nI x))] := hl
  refine lv_iconst (v := nI 0) hx hb d_Look_indexOf_0 (by decide) ?_
  refine lv_istore_n (lv' := [(2, .int (nI 0)), (0, .ref a), (1, .int (nI x))]) hx hb d_Look_indexOf_1 rfl hl (by decide) rfl (fun ls hl => ?_)
  have lp_2 : ∀ (nn : Nat) (k : Nat) (hk : k ≤ min nc 4) (hs : ∀ i, i < k → (P i == x) = false), 4 - k < nn → ∀ (H : Heap) (locs : List Loc) (ls : Array Slot), va_P D classes [(a, .inr (4, [.ref pp, .int (nI nc), .int (nI ru)])), (pp, .inl (cI, 4, .inl (nF P)))] H → va_D AA [(a, .inr (4, [.ref pp, .int (nI nc), .int (nI ru)])), (pp, .inl (cI, 4, .inl (nF P)))] → va_S AA sT.heap H locs → lv_has ls 3 [(2, .int (nI k)), (0, .ref a), (1, .int (nI x))] → W pr l ev ({ frames := 0, cells := 0, slots := 0, locals := 0 } : Room) sT mM aR bW mE cO H locs 0 0 QQ (F0 mM 2 ls []) := by
    intro nn
    induction nn with
    | zero => intro k hk hs hm; exact absurd hm (Nat.not_lt_zero _)
    | succ nn ih =>
      intro k hk hs hm H locs ls hP hD hS hl
      refine lv_iload_n hx hb d_Look_indexOf_2 rfl (lv_at hl 0 rfl) ?_
      refine lv_aload_n hx hb d_Look_indexOf_3 rfl (lv_at hl 1 rfl) ?_
      refine va_get (D := D) (ci := 4) (v := .int (nI nc)) (C := "TileScreen$Look") (T := F_Look) (N := 3) hx hb htb i_Look hown hG.1 hP 0 rfl rfl 1 (by decide) (htb _ k_105) (fun _ h9 => h9) rfl d_Look_indexOf_4 ?_
      refine nv_icmp_ge (tgt := 33) hx hb d_Look_indexOf_7 (by decide) (by omega) (by omega) (fun c_7 => ?_) (fun c_7 => ?_)
      · refine lv_iconst (v := -1) hx hb d_Look_indexOf_33 (by decide) ?_
        exact hret _ () _ _ _ _ d_Look_indexOf_34 rfl (Or.inl ⟨rfl, fun i hi => hs i (by omega)⟩) hP hD hS
      · refine lv_iload_n hx hb d_Look_indexOf_10 rfl (lv_at hl 0 rfl) ?_
        refine lv_iconst (v := nI 4) hx hb d_Look_indexOf_11 (by decide) ?_
        refine nv_icmp_ge (tgt := 33) hx hb d_Look_indexOf_12 (by decide) (by omega) (by omega) (fun c_12 => ?_) (fun c_12 => ?_)
        · refine lv_iconst (v := -1) hx hb d_Look_indexOf_33 (by decide) ?_
          exact hret _ () _ _ _ _ d_Look_indexOf_34 rfl (Or.inl ⟨rfl, fun i hi => hs i (by omega)⟩) hP hD hS
        · refine lv_aload_n hx hb d_Look_indexOf_15 rfl (lv_at hl 1 rfl) ?_
          refine va_get (D := D) (ci := 4) (v := .ref pp) (C := "TileScreen$Look") (T := F_Look) (N := 3) hx hb htb i_Look hown hG.1 hP 0 rfl rfl 0 (by decide) (htb _ k_103) (fun _ h9 => h9) rfl d_Look_indexOf_16 ?_
          refine lv_iload_n hx hb d_Look_indexOf_19 rfl (lv_at hl 0 rfl) ?_
          refine nv_iald hx hb hG.1 hP 1 0 rfl rfl (by omega) (by omega) d_Look_indexOf_20 ?_
          refine lv_iload_n hx hb d_Look_indexOf_21 rfl (lv_at hl 2 rfl) ?_
          refine nv_icmp_ne (tgt := 27) hx hb d_Look_indexOf_22 (by decide) (Nat.lt_trans (bP k) (by decide)) (Nat.lt_trans hx1 (by decide)) (fun c_22 => ?_) (fun c_22 => ?_)
          · refine lv_iinc (v := (nI (k + 1))) (lv' := [(2, .int (nI (k + 1))), (0, .ref a), (1, .int (nI x))]) hx hb d_Look_indexOf_27 hl (k := 0) rfl (nI_add k 1) (by decide) rfl (fun ls hl => ?_)
            refine lv_goto (tgt := 2) hx hb d_Look_indexOf_30 (by decide) ?_
            exact ih (k + 1) (by omega) (fun j hj => by rcases (show j < k ∨ j = k by omega) with q | q; exact hs j q; rw [q]; exact beq_false_of_ne c_22) (by omega) _ _ _ hP hD hS (lv_sub hl [0, 1, 2] rfl)
          · refine lv_iload_n hx hb d_Look_indexOf_25 rfl (lv_at hl 0 rfl) ?_
            exact hret _ () _ _ _ _ d_Look_indexOf_26 rfl (Or.inr ⟨k, by omega, rfl, beq_iff_eq.mpr c_22, hs⟩) hP hD hS
  exact lp_2 _ 0 (Nat.zero_le _) (fun j hj => absurd hj (Nat.not_lt_zero j)) (Nat.lt_succ_self _) _ _ _ hP hD hS (lv_sub hl [0, 1, 2] rfl)
set_option maxHeartbeats 4000000 in
set_option maxRecDepth 100000 in
theorem c_Look_meet (a : Nat) (pp : Nat) (nc : Nat) (ru : Nat) (P : Nat → Nat) (x : Nat) (bP : ∀ j, P j < 65536) (hx1 : x < 65536) (hc : nc ≤ 1000) : CV (S := Unit) l classes NW D (TYS cI cZ cL cV) y_Look_meet (.code y_Look_meet b_Look_meet 2 none :: TB) { frames := 1, cells := 0, slots := 0, locals := 22 } [.ref a, .int (nI x)] [(a, .inr (4, [.ref pp, .int (nI nc), .int (nI ru)])), (pp, .inl (cI, 4, .inl (nF P)))] (fun u => True) (fun u => [(a, .inr (4, [.ref pp, .int (nI (meN P nc x)), .int (nI ru)])), (pp, .inl (cI, 4, .inl (nF (meP P nc x))))]) := by
  refine CV.of (by decide) (Nat.le_of_ble_eq_true rfl) ?_
  intro pr ev sT mM aR bW mE cO AA QQ ls Bd hG hA hP hD hS hl hnm hret
  have Bd : bd pr cO b_Look_meet 2 sT aR TB "TileScreen$Look" mM := Bd
  obtain ⟨hx, hb, hml, hown, htb⟩ := id Bd
  have hl : lv_has ls 2 [(0, .ref a), (1, .int (nI x))] := hl
  refine lv_aload_n hx hb d_Look_meet_0 rfl (lv_at hl 0 rfl) ?_
  refine lv_iload_n hx hb d_Look_meet_1 rfl (lv_at hl 1 rfl) ?_
  refine kV_i (wc := [(a, .inr (4, [.ref pp, .int (nI nc), .int (nI ru)])), (pp, .inl (cI, 4, .inl (nF P)))]) (wr := []) (w2 := fun _ => [(a, .inr (4, [.ref pp, .int (nI nc), .int (nI ru)])), (pp, .inl (cI, 4, .inl (nF P)))]) [.int (nI x)] [] Bd ⟨gi_app (gi_c0 k_370 (gi_c0 k_371 (gi_c0 k_372 (gi_c0 k_7 gi_nil)))) (gi_tb0 k_373), rfl, by decide, by decide⟩ (show (parseMethodDescriptor "(I)I").map (fun d => d.parameters.length) = some 1 by decide +kernel) (c_Look_indexOf a pp nc ru P x (bP) (hx1) (by omega)) (by decide +kernel) ⟨Nat.le_of_ble_eq_true rfl, Nat.le_of_ble_eq_true rfl⟩ hG hP hD hS hA [0, 1] [] [0, 1] (by decide) rfl rfl (fun _ => rfl) (q0 := 0) rfl rfl rfl hl.1 rfl (Nat.le_of_ble_eq_true rfl) d_Look_meet_2 (fun r1 u3 H locs hp2 hP hD hS => ?_)
  have hP : va_P D classes [(a, .inr (4, [.ref pp, .int (nI nc), .int (nI ru)])), (pp, .inl (cI, 4, .inl (nF P)))] H := hP
  have hD : va_D AA [(a, .inr (4, [.ref pp, .int (nI nc), .int (nI ru)])), (pp, .inl (cI, 4, .inl (nF P)))] := hD
  refine lv_iconst (v := -1) hx hb d_Look_meet_5 (by decide) ?_
  refine lv_icmp_eq (tgt := 10) hx hb d_Look_meet_6 (by decide) (fun c_6 => ?_) (fun c_6 => ?_)
  · refine lv_aload_n hx hb d_Look_meet_10 rfl (lv_at hl 0 rfl) ?_
    refine va_get (D := D) (ci := 4) (v := .int (nI nc)) (C := "TileScreen$Look") (T := F_Look) (N := 3) hx hb htb i_Look hown hG.1 hP 0 rfl rfl 1 (by decide) (htb _ k_105) (fun _ h9 => h9) rfl d_Look_meet_11 ?_
    refine lv_iconst (v := nI 4) hx hb d_Look_meet_14 (by decide) ?_
    refine nv_icmp_ge (tgt := 28) hx hb d_Look_meet_15 (by decide) (by omega) (by omega) (fun c_15 => ?_) (fun c_15 => ?_)
    · refine lv_aload_n hx hb d_Look_meet_28 rfl (lv_at hl 0 rfl) ?_
      refine lv_dup hx hb d_Look_meet_29 rfl ?_
      refine va_get (D := D) (ci := 4) (v := .int (nI nc)) (C := "TileScreen$Look") (T := F_Look) (N := 3) hx hb htb i_Look hown hG.1 hP 0 rfl rfl 1 (by decide) (htb _ k_105) (fun _ h9 => h9) rfl d_Look_meet_30 ?_
      refine lv_iconst (v := nI 1) hx hb d_Look_meet_33 (by decide) ?_
      refine nv_iadd hx hb d_Look_meet_34 ?_
      refine va_put (D := D) (ci := 4) (v := .int (nI (nc + 1))) (ty := .int) (C := "TileScreen$Look") (T := F_Look) (N := 3) hx hb htb i_Look t_Look t_Look_ok n_Look hown hG.1 hP hD hS 0 rfl rfl 1 (by decide) (htb _ k_105) (fun _ h9 => h9) rfl (by decide +kernel) rfl rfl (Nat.le_of_ble_eq_true rfl) d_Look_meet_35 (fun H locs hP hD hS => ?_)
      have hP : va_P D classes [(a, .inr (4, [.ref pp, .int (nI (nc + 1)), .int (nI ru)])), (pp, .inl (cI, 4, .inl (nF P)))] H := hP
      have hD : va_D AA [(a, .inr (4, [.ref pp, .int (nI (nc + 1)), .int (nI ru)])), (pp, .inl (cI, 4, .inl (nF P)))] := hD
      have hi : ¬ inPal P nc x = true := by rw [(inPal_find hp2).mp c_6]; decide
      rw [show meN P nc x = nc + 1 from if_neg hi, show meP P nc x = P from (if_neg hi).trans (if_neg (by omega))] at hret
      exact hret () _ _ _ _ d_Look_meet_38 (trivial) hP hD hS
    · refine lv_aload_n hx hb d_Look_meet_18 rfl (lv_at hl 0 rfl) ?_
      refine va_get (D := D) (ci := 4) (v := .ref pp) (C := "TileScreen$Look") (T := F_Look) (N := 3) hx hb htb i_Look hown hG.1 hP 0 rfl rfl 0 (by decide) (htb _ k_103) (fun _ h9 => h9) rfl d_Look_meet_19 ?_
      refine lv_aload_n hx hb d_Look_meet_22 rfl (lv_at hl 0 rfl) ?_
      refine va_get (D := D) (ci := 4) (v := .int (nI nc)) (C := "TileScreen$Look") (T := F_Look) (N := 3) hx hb htb i_Look hown hG.1 hP 0 rfl rfl 1 (by decide) (htb _ k_105) (fun _ h9 => h9) rfl d_Look_meet_23 ?_
      refine lv_iload_n hx hb d_Look_meet_26 rfl (lv_at hl 1 rfl) ?_
      refine nv_iast hx hb hG.1 hP hD hS 1 0 rfl rfl (by omega) (by omega) d_Look_meet_27 (fun H locs hP hD hS => ?_)
      have hP : va_P D classes [(a, .inr (4, [.ref pp, .int (nI nc), .int (nI ru)])), (pp, .inl (cI, 4, .inl (nF (up P nc x))))] H := hP
      have hD : va_D AA [(a, .inr (4, [.ref pp, .int (nI nc), .int (nI ru)])), (pp, .inl (cI, 4, .inl (nF (up P nc x))))] := hD
      refine lv_aload_n hx hb d_Look_meet_28 rfl (lv_at hl 0 rfl) ?_
      refine lv_dup hx hb d_Look_meet_29 rfl ?_
      refine va_get (D := D) (ci := 4) (v := .int (nI nc)) (C := "TileScreen$Look") (T := F_Look) (N := 3) hx hb htb i_Look hown hG.1 hP 0 rfl rfl 1 (by decide) (htb _ k_105) (fun _ h9 => h9) rfl d_Look_meet_30 ?_
      refine lv_iconst (v := nI 1) hx hb d_Look_meet_33 (by decide) ?_
      refine nv_iadd hx hb d_Look_meet_34 ?_
      refine va_put (D := D) (ci := 4) (v := .int (nI (nc + 1))) (ty := .int) (C := "TileScreen$Look") (T := F_Look) (N := 3) hx hb htb i_Look t_Look t_Look_ok n_Look hown hG.1 hP hD hS 0 rfl rfl 1 (by decide) (htb _ k_105) (fun _ h9 => h9) rfl (by decide +kernel) rfl rfl (Nat.le_of_ble_eq_true rfl) d_Look_meet_35 (fun H locs hP hD hS => ?_)
      have hP : va_P D classes [(a, .inr (4, [.ref pp, .int (nI (nc + 1)), .int (nI ru)])), (pp, .inl (cI, 4, .inl (nF (up P nc x))))] H := hP
      have hD : va_D AA [(a, .inr (4, [.ref pp, .int (nI (nc + 1)), .int (nI ru)])), (pp, .inl (cI, 4, .inl (nF (up P nc x))))] := hD
      have hi : ¬ inPal P nc x = true := by rw [(inPal_find hp2).mp c_6]; decide
      rw [show meN P nc x = nc + 1 from if_neg hi, show meP P nc x = up P nc x from (if_neg hi).trans (if_pos c_15)] at hret
      exact hret () _ _ _ _ d_Look_meet_38 (trivial) hP hD hS
  · have hi : inPal P nc x = true := by cases q : inPal P nc x; exact absurd ((inPal_find hp2).mpr q) c_6; rfl
    rw [show meN P nc x = nc from if_pos hi, show meP P nc x = P from if_pos hi] at hret
    exact hret () _ _ _ _ d_Look_meet_9 (trivial) hP hD hS
set_option maxHeartbeats 4000000 in
set_option maxRecDepth 100000 in
theorem c_Look_study (a : Nat) (pp : Nat) (nc : Nat) (ru : Nat) (P : Nat → Nat) (b : Nat) (qq : Nat) (cnt : Nat) (n : Nat) (F : Nat → Nat) (t : Nat) (bP : ∀ j, P j < 65536) (bF : ∀ j, F j < 65536) (ht : t * 64 + 64 ≤ n) (hn : n < 2 ^ 31) : CV (S := Unit) l classes NW D (TYS cI cZ cL cV) y_Look_study (.code y_Look_study b_Look_study 6 none :: TB) { frames := 2, cells := 0, slots := 0, locals := 43 } [.ref a, .ref b, .int (nI t)] [(a, .inr (4, [.ref pp, .int (nI nc), .int (nI ru)])), (pp, .inl (cI, 4, .inl (nF P))), (b, .inr (0, [.int (nI cnt), .ref qq])), (qq, .inl (cI, n, .inl (nF F)))] (fun u => True) (fun u => [(a, .inr (4, [.ref pp, .int (nI ((stu (fun j => F (t * 64 + j)) P 64).2)), .int (nI (runsN (fun j => F (t * 64 + j)) 64))])), (pp, .inl (cI, 4, .inl (nF ((stu (fun j => F (t * 64 + j)) P 64).1)))), (b, .inr (0, [.int (nI cnt), .ref qq])), (qq, .inl (cI, n, .inl (nF F)))]) := by
  refine CV.of (by decide) (Nat.le_of_ble_eq_true rfl) ?_
  intro pr ev sT mM aR bW mE cO AA QQ ls Bd hG hA hP hD hS hl hnm hret
  have Bd : bd pr cO b_Look_study 6 sT aR TB "TileScreen$Look" mM := Bd
  obtain ⟨hx, hb, hml, hown, htb⟩ := id Bd
  have hl : lv_has ls 6 [(0, .ref a), (1, .ref b), (2, .int (nI t))] := hl
  refine lv_aload_n hx hb d_Look_study_0 rfl (lv_at hl 0 rfl) ?_
  refine lv_iconst (v := nI 0) hx hb d_Look_study_1 (by decide) ?_
  refine va_put (D := D) (ci := 4) (v := .int (nI 0)) (ty := .int) (C := "TileScreen$Look") (T := F_Look) (N := 3) hx hb htb i_Look t_Look t_Look_ok n_Look hown hG.1 hP hD hS 0 rfl rfl 1 (by decide) (htb _ k_105) (fun _ h9 => h9) rfl (by decide +kernel) rfl rfl (Nat.le_of_ble_eq_true rfl) d_Look_study_2 (fun H locs hP hD hS => ?_)
  have hP : va_P D classes [(a, .inr (4, [.ref pp, .int (nI 0), .int (nI ru)])), (pp, .inl (cI, 4, .inl (nF P))), (b, .inr (0, [.int (nI cnt), .ref qq])), (qq, .inl (cI, n, .inl (nF F)))] H := hP
  have hD : va_D AA [(a, .inr (4, [.ref pp, .int (nI 0), .int (nI ru)])), (pp, .inl (cI, 4, .inl (nF P))), (b, .inr (0, [.int (nI cnt), .ref qq])), (qq, .inl (cI, n, .inl (nF F)))] := hD
  refine lv_aload_n hx hb d_Look_study_5 rfl (lv_at hl 0 rfl) ?_
  refine lv_iconst (v := nI 0) hx hb d_Look_study_6 (by decide) ?_
  refine va_put (D := D) (ci := 4) (v := .int (nI 0)) (ty := .int) (C := "TileScreen$Look") (T := F_Look) (N := 3) hx hb htb i_Look t_Look t_Look_ok n_Look hown hG.1 hP hD hS 0 rfl rfl 2 (by decide) (htb _ k_107) (fun _ h9 => h9) rfl (by decide +kernel) rfl rfl (Nat.le_of_ble_eq_true rfl) d_Look_study_7 (fun H locs hP hD hS => ?_)
  have hP : va_P D classes [(a, .inr (4, [.ref pp, .int (nI 0), .int (nI 0)])), (pp, .inl (cI, 4, .inl (nF P))), (b, .inr (0, [.int (nI cnt), .ref qq])), (qq, .inl (cI, n, .inl (nF F)))] H := hP
  have hD : va_D AA [(a, .inr (4, [.ref pp, .int (nI 0), .int (nI 0)])), (pp, .inl (cI, 4, .inl (nF P))), (b, .inr (0, [.int (nI cnt), .ref qq])), (qq, .inl (cI, n, .inl (nF F)))] := hD
  refine lv_iconst (v := -1) hx hb d_Look_study_10 (by decide) ?_
  refine lv_istore_n (lv' := [(3, .int (-1)), (0, .ref a), (1, .ref b), (2, .int (nI t))]) hx hb d_Look_study_11 rfl hl (by decide) rfl (fun ls hl => ?_)
  refine lv_iconst (v := nI 0) hx hb d_Look_study_12 (by decide) ?_
  refine lv_istore (lv' := [(4, .int (nI 0)), (3, .int (-1)), (0, .ref a), (1, .ref b), (2, .int (nI t))]) hx hb d_Look_study_13 hl (by decide) rfl (fun ls hl => ?_)
  have lp_15 : ∀ (nn : Nat) (k : Nat) (hk : k ≤ 64), 64 - k < nn → ∀ (H : Heap) (locs : List Loc) (ls : Array Slot), va_P D classes [(a, .inr (4, [.ref pp, .int (nI ((stu (fun j => F (t * 64 + j)) P k).2)), .int (nI (runsN (fun j => F (t * 64 + j)) k))])), (pp, .inl (cI, 4, .inl (nF ((stu (fun j => F (t * 64 + j)) P k).1)))), (b, .inr (0, [.int (nI cnt), .ref qq])), (qq, .inl (cI, n, .inl (nF F)))] H → va_D AA [(a, .inr (4, [.ref pp, .int (nI ((stu (fun j => F (t * 64 + j)) P k).2)), .int (nI (runsN (fun j => F (t * 64 + j)) k))])), (pp, .inl (cI, 4, .inl (nF ((stu (fun j => F (t * 64 + j)) P k).1)))), (b, .inr (0, [.int (nI cnt), .ref qq])), (qq, .inl (cI, n, .inl (nF F)))] → va_S AA sT.heap H locs → lv_has ls 6 [(4, .int (nI k)), (3, .int (bef (fun j => F (t * 64 + j)) k)), (0, .ref a), (1, .ref b), (2, .int (nI t))] → W pr l ev ({ frames := 2, cells := 0, slots := 0, locals := 43 } : Room) sT mM aR bW mE cO H locs 0 0 QQ (F0 mM 15 ls []) := by
    intro nn
    induction nn with
    | zero => intro k hk hm; exact absurd hm (Nat.not_lt_zero _)
    | succ nn ih =>
      intro k hk hm H locs ls hP hD hS hl
      have hru := runsN_le (fun j => F (t * 64 + j)) k
      refine lv_iload hx hb d_Look_study_15 (lv_at hl 0 rfl) ?_
      refine lv_bipush (v := nI 64) hx hb d_Look_study_17 (by decide) ?_
      refine nv_icmp_ge (tgt := 62) hx hb d_Look_study_19 (by decide) (by omega) (by omega) (fun c_19 => ?_) (fun c_19 => ?_)
      · obtain rfl : k = 64 := by omega
        exact hret () _ _ _ _ d_Look_study_62 (trivial) hP hD hS
      · refine lv_aload_n hx hb d_Look_study_22 rfl (lv_at hl 3 rfl) ?_
        refine lv_iload_n hx hb d_Look_study_23 rfl (lv_at hl 4 rfl) ?_
        refine lv_iload hx hb d_Look_study_24 (lv_at hl 0 rfl) ?_
        refine kV_i (wc := [(b, .inr (0, [.int (nI cnt), .ref qq])), (qq, .inl (cI, n, .inl (nF F)))]) (wr := [(a, .inr (4, [.ref pp, .int (nI ((stu (fun j => F (t * 64 + j)) P k).2)), .int (nI (runsN (fun j => F (t * 64 + j)) k))])), (pp, .inl (cI, 4, .inl (nF ((stu (fun j => F (t * 64 + j)) P k).1))))]) (w2 := fun _ => [(a, .inr (4, [.ref pp, .int (nI ((stu (fun j => F (t * 64 + j)) P k).2)), .int (nI (runsN (fun j => F (t * 64 + j)) k))])), (pp, .inl (cI, 4, .inl (nF ((stu (fun j => F (t * 64 + j)) P k).1)))), (b, .inr (0, [.int (nI cnt), .ref qq])), (qq, .inl (cI, n, .inl (nF F)))]) [.int (nI t), .int (nI k)] [] Bd ⟨gi_app (gi_c0 k_365 (gi_c0 k_290 (gi_c0 k_291 (gi_c0 k_2 gi_nil)))) (gi_tb0 k_292), rfl, by decide, by decide⟩ (show (parseMethodDescriptor "(II)I").map (fun d => d.parameters.length) = some 2 by decide +kernel) (c_Tiles_get b qq cnt n F t k (by omega) (by omega)) (by decide +kernel) ⟨Nat.le_of_ble_eq_true rfl, Nat.le_of_ble_eq_true rfl⟩ hG hP hD hS hA [2, 3] [0, 1] [0, 1, 2, 3] (by decide) rfl rfl (fun _ => rfl) (q0 := 0) rfl rfl rfl hl.1 rfl (Nat.le_of_ble_eq_true rfl) d_Look_study_26 (fun r2 u4 H locs hp3 hP hD hS => ?_)
        have hP : va_P D classes [(a, .inr (4, [.ref pp, .int (nI ((stu (fun j => F (t * 64 + j)) P k).2)), .int (nI (runsN (fun j => F (t * 64 + j)) k))])), (pp, .inl (cI, 4, .inl (nF ((stu (fun j => F (t * 64 + j)) P k).1)))), (b, .inr (0, [.int (nI cnt), .ref qq])), (qq, .inl (cI, n, .inl (nF F)))] H := hP
        have hD : va_D AA [(a, .inr (4, [.ref pp, .int (nI ((stu (fun j => F (t * 64 + j)) P k).2)), .int (nI (runsN (fun j => F (t * 64 + j)) k))])), (pp, .inl (cI, 4, .inl (nF ((stu (fun j => F (t * 64 + j)) P k).1)))), (b, .inr (0, [.int (nI cnt), .ref qq])), (qq, .inl (cI, n, .inl (nF F)))] := hD
        subst hp3
        refine lv_istore (lv' := [(5, .int (nI (F (t * 64 + k)))), (4, .int (nI k)), (3, .int (bef (fun j => F (t * 64 + j)) k)), (0, .ref a), (1, .ref b), (2, .int (nI t))]) hx hb d_Look_study_29 hl (by decide) rfl (fun ls hl => ?_)
        refine lv_iload hx hb d_Look_study_31 (lv_at hl 0 rfl) ?_
        refine lv_iload_n hx hb d_Look_study_33 rfl (lv_at hl 2 rfl) ?_
        refine lv_icmp_eq (tgt := 53) hx hb d_Look_study_34 (by decide) (fun c_34 => ?_) (fun c_34 => ?_)
        · refine lv_iload hx hb d_Look_study_53 (lv_at hl 0 rfl) ?_
          refine lv_istore_n (lv' := [(3, .int (nI (F (t * 64 + k)))), (5, .int (nI (F (t * 64 + k)))), (4, .int (nI k)), (0, .ref a), (1, .ref b), (2, .int (nI t))]) hx hb d_Look_study_55 rfl hl (by decide) rfl (fun ls hl => ?_)
          refine lv_iinc (v := (nI (k + 1))) (lv' := [(4, .int (nI (k + 1))), (3, .int (nI (F (t * 64 + k)))), (5, .int (nI (F (t * 64 + k)))), (0, .ref a), (1, .ref b), (2, .int (nI t))]) hx hb d_Look_study_56 hl (k := 2) rfl (nI_add k 1) (by decide) rfl (fun ls hl => ?_)
          refine lv_goto (tgt := 15) hx hb d_Look_study_59 (by decide) ?_
          rw [show nI (F (t * 64 + k)) = bef (fun j => F (t * 64 + j)) (k + 1) from rfl] at hl
          have hq : sameP (fun j => F (t * 64 + j)) k = true := (bef_iff (T := (fun j => F (t * 64 + j))) (fun j => bF _) k).mp c_34
          rw [← stu_t (P0 := P) hq, ← runsN_t hq] at hP hD
          exact ih (k + 1) (by omega) (by omega) _ _ _ hP hD hS (lv_sub hl [0, 1, 3, 4, 5] rfl)
        · refine lv_aload_n hx hb d_Look_study_37 rfl (lv_at hl 3 rfl) ?_
          refine lv_dup hx hb d_Look_study_38 rfl ?_
          refine va_get (D := D) (ci := 4) (v := .int (nI (runsN (fun j => F (t * 64 + j)) k))) (C := "TileScreen$Look") (T := F_Look) (N := 3) hx hb htb i_Look hown hG.1 hP 0 rfl rfl 2 (by decide) (htb _ k_107) (fun _ h9 => h9) rfl d_Look_study_39 ?_
          refine lv_iconst (v := nI 1) hx hb d_Look_study_42 (by decide) ?_
          refine nv_iadd hx hb d_Look_study_43 ?_
          refine va_put (D := D) (ci := 4) (v := .int (nI (runsN (fun j => F (t * 64 + j)) k + 1))) (ty := .int) (C := "TileScreen$Look") (T := F_Look) (N := 3) hx hb htb i_Look t_Look t_Look_ok n_Look hown hG.1 hP hD hS 0 rfl rfl 2 (by decide) (htb _ k_107) (fun _ h9 => h9) rfl (by decide +kernel) rfl rfl (Nat.le_of_ble_eq_true rfl) d_Look_study_44 (fun H locs hP hD hS => ?_)
          have hP : va_P D classes [(a, .inr (4, [.ref pp, .int (nI ((stu (fun j => F (t * 64 + j)) P k).2)), .int (nI (runsN (fun j => F (t * 64 + j)) k + 1))])), (pp, .inl (cI, 4, .inl (nF ((stu (fun j => F (t * 64 + j)) P k).1)))), (b, .inr (0, [.int (nI cnt), .ref qq])), (qq, .inl (cI, n, .inl (nF F)))] H := hP
          have hD : va_D AA [(a, .inr (4, [.ref pp, .int (nI ((stu (fun j => F (t * 64 + j)) P k).2)), .int (nI (runsN (fun j => F (t * 64 + j)) k + 1))])), (pp, .inl (cI, 4, .inl (nF ((stu (fun j => F (t * 64 + j)) P k).1)))), (b, .inr (0, [.int (nI cnt), .ref qq])), (qq, .inl (cI, n, .inl (nF F)))] := hD
          refine lv_aload_n hx hb d_Look_study_47 rfl (lv_at hl 3 rfl) ?_
          refine lv_iload hx hb d_Look_study_48 (lv_at hl 0 rfl) ?_
          refine kV_v (wc := [(a, .inr (4, [.ref pp, .int (nI ((stu (fun j => F (t * 64 + j)) P k).2)), .int (nI (runsN (fun j => F (t * 64 + j)) k + 1))])), (pp, .inl (cI, 4, .inl (nF ((stu (fun j => F (t * 64 + j)) P k).1))))]) (wr := [(b, .inr (0, [.int (nI cnt), .ref qq])), (qq, .inl (cI, n, .inl (nF F)))]) (w2 := fun _ => [(a, .inr (4, [.ref pp, .int (nI (meN ((stu (fun j => F (t * 64 + j)) P k).1) ((stu (fun j => F (t * 64 + j)) P k).2) (F (t * 64 + k)))), .int (nI (runsN (fun j => F (t * 64 + j)) k + 1))])), (pp, .inl (cI, 4, .inl (nF (meP ((stu (fun j => F (t * 64 + j)) P k).1) ((stu (fun j => F (t * 64 + j)) P k).2) (F (t * 64 + k)))))), (b, .inr (0, [.int (nI cnt), .ref qq])), (qq, .inl (cI, n, .inl (nF F)))]) [.int (nI (F (t * 64 + k)))] [] Bd ⟨gi_app (gi_c0 k_366 (gi_c0 k_368 (gi_c0 s_1 (gi_c0 k_7 gi_nil)))) (gi_tb0 k_369), rfl, by decide, by decide⟩ (show (parseMethodDescriptor "(I)V").map (fun d => d.parameters.length) = some 1 by decide +kernel) (c_Look_meet a pp ((stu (fun j => F (t * 64 + j)) P k).2) (runsN (fun j => F (t * 64 + j)) k + 1) ((stu (fun j => F (t * 64 + j)) P k).1) (F (t * 64 + k)) (stu_lt (fun j => bF _) bP k) (bF _) (Nat.le_trans (stu_le _ _ k) (by omega))) (by decide +kernel) ⟨Nat.le_of_ble_eq_true rfl, Nat.le_of_ble_eq_true rfl⟩ hG hP hD hS hA [0, 1] [2, 3] [2, 3, 0, 1] (by decide) rfl rfl (fun _ => rfl) (q0 := 0) rfl rfl rfl hl.1 rfl (Nat.le_of_ble_eq_true rfl) d_Look_study_50 (fun u6 H locs hp5 hP hD hS => ?_)
          have hP : va_P D classes [(a, .inr (4, [.ref pp, .int (nI (meN ((stu (fun j => F (t * 64 + j)) P k).1) ((stu (fun j => F (t * 64 + j)) P k).2) (F (t * 64 + k)))), .int (nI (runsN (fun j => F (t * 64 + j)) k + 1))])), (pp, .inl (cI, 4, .inl (nF (meP ((stu (fun j => F (t * 64 + j)) P k).1) ((stu (fun j => F (t * 64 + j)) P k).2) (F (t * 64 + k)))))), (b, .inr (0, [.int (nI cnt), .ref qq])), (qq, .inl (cI, n, .inl (nF F)))] H := hP
          have hD : va_D AA [(a, .inr (4, [.ref pp, .int (nI (meN ((stu (fun j => F (t * 64 + j)) P k).1) ((stu (fun j => F (t * 64 + j)) P k).2) (F (t * 64 + k)))), .int (nI (runsN (fun j => F (t * 64 + j)) k + 1))])), (pp, .inl (cI, 4, .inl (nF (meP ((stu (fun j => F (t * 64 + j)) P k).1) ((stu (fun j => F (t * 64 + j)) P k).2) (F (t * 64 + k)))))), (b, .inr (0, [.int (nI cnt), .ref qq])), (qq, .inl (cI, n, .inl (nF F)))] := hD
          refine lv_iload hx hb d_Look_study_53 (lv_at hl 0 rfl) ?_
          refine lv_istore_n (lv' := [(3, .int (nI (F (t * 64 + k)))), (5, .int (nI (F (t * 64 + k)))), (4, .int (nI k)), (0, .ref a), (1, .ref b), (2, .int (nI t))]) hx hb d_Look_study_55 rfl hl (by decide) rfl (fun ls hl => ?_)
          refine lv_iinc (v := (nI (k + 1))) (lv' := [(4, .int (nI (k + 1))), (3, .int (nI (F (t * 64 + k)))), (5, .int (nI (F (t * 64 + k)))), (0, .ref a), (1, .ref b), (2, .int (nI t))]) hx hb d_Look_study_56 hl (k := 2) rfl (nI_add k 1) (by decide) rfl (fun ls hl => ?_)
          refine lv_goto (tgt := 15) hx hb d_Look_study_59 (by decide) ?_
          rw [show nI (F (t * 64 + k)) = bef (fun j => F (t * 64 + j)) (k + 1) from rfl] at hl
          have hq : ¬ sameP (fun j => F (t * 64 + j)) k = true := fun q => c_34 ((bef_iff (T := (fun j => F (t * 64 + j))) (fun j => bF _) k).mpr q)
          have e1 := stu_f (P0 := P) hq
          have e2 : (stu (fun j => F (t * 64 + j)) P (k + 1)).2 = meN (stu (fun j => F (t * 64 + j)) P k).1 (stu (fun j => F (t * 64 + j)) P k).2 (F (t * 64 + k)) := by rw [e1]
          have e3 : (stu (fun j => F (t * 64 + j)) P (k + 1)).1 = meP (stu (fun j => F (t * 64 + j)) P k).1 (stu (fun j => F (t * 64 + j)) P k).2 (F (t * 64 + k)) := by rw [e1]
          rw [← e2, ← e3, ← runsN_f hq] at hP hD
          exact ih (k + 1) (by omega) (by omega) _ _ _ hP hD hS (lv_sub hl [0, 1, 3, 4, 5] rfl)
  exact lp_15 _ 0 (Nat.zero_le _) (Nat.lt_succ_self _) _ _ _ hP hD hS (lv_sub hl [0, 1, 2, 3, 4] rfl)
end
end
section
/-! THE CODING OF A TILE, pure: lists of bytes, the colours of a tile, its runs, kinds of records and their choice -/
/-- a list of bytes written into a row from a place on -/
def wr (B : Nat → Nat) (i : Nat) (L : List Nat) : Nat → Nat := fun j => if i ≤ j ∧ j - i < L.length then L.getD (j - i) 0 else B j
theorem wr_nil (B : Nat → Nat) (i : Nat) : wr B i [] = B := by
  funext j
  unfold wr
  rw [if_neg (by simp)]
theorem wr_in {B : Nat → Nat} {i j : Nat} {L : List Nat} (h1 : i ≤ j) (h2 : j - i < L.length) : wr B i L j = L.getD (j - i) 0 := if_pos ⟨h1, h2⟩
theorem wr_out {B : Nat → Nat} {i j : Nat} {L : List Nat} (h : j < i ∨ i + L.length ≤ j) : wr B i L j = B j := if_neg (by omega)
theorem wr_snoc (B : Nat → Nat) (i : Nat) (L : List Nat) (x : Nat) : up (wr B i L) (i + L.length) x = wr B i (L ++ [x]) := by
  funext j
  by_cases h : j = i + L.length
  · subst h
    rw [up_s, wr_in (by omega) (by simp)]
    rw [List.getD_eq_getElem?_getD, show i + L.length - i = L.length by omega, List.getElem?_append_right (Nat.le_refl _)]
    simp
  · rw [up_n _ _ h]
    by_cases h1 : i ≤ j ∧ j - i < L.length
    · rw [wr_in h1.1 h1.2, wr_in h1.1 (by simp; omega)]
      rw [List.getD_eq_getElem?_getD, List.getD_eq_getElem?_getD, List.getElem?_append_left h1.2]
    · rw [wr_out (by omega), wr_out (by simp; omega)]
theorem wr_app (B : Nat → Nat) (i : Nat) (L M : List Nat) : wr (wr B i L) (i + L.length) M = wr B i (L ++ M) := by
  funext j
  by_cases h1 : i + L.length ≤ j ∧ j - (i + L.length) < M.length
  · rw [wr_in h1.1 h1.2, wr_in (by omega) (by simp; omega)]
    rw [List.getD_eq_getElem?_getD, List.getD_eq_getElem?_getD, List.getElem?_append_right (by omega), show j - i - L.length = j - (i + L.length) by omega]
  · rw [wr_out (by omega)]
    by_cases h2 : i ≤ j ∧ j - i < L.length
    · rw [wr_in h2.1 h2.2, wr_in h2.1 (by simp; omega)]
      rw [List.getD_eq_getElem?_getD, List.getD_eq_getElem?_getD, List.getElem?_append_left h2.2]
    · rw [wr_out (by omega), wr_out (by simp; omega)]
theorem wr_lt {B : Nat → Nat} {i b : Nat} {L : List Nat} (hB : ∀ j, B j < b) (hL : ∀ x ∈ L, x < b) : ∀ j, wr B i L j < b := fun j => by
  by_cases h : i ≤ j ∧ j - i < L.length
  · rw [wr_in h.1 h.2, List.getD_eq_getElem?_getD, List.getElem?_eq_getElem h.2]
    exact hL _ (List.getElem_mem h.2)
  · rw [wr_out (by omega)]; exact hB j
def p2 (x : Nat) : List Nat := [x / 256 % 256, x % 256]
theorem wr_p2 (B : Nat → Nat) (i : Nat) (L : List Nat) (x : Nat) : up (up (wr B i L) (i + L.length) (x / 256 % 256)) (i + L.length + 1) (x % 256) = wr B i (L ++ p2 x) := by
  have e := wr_snoc B i (L ++ [x / 256 % 256]) (x % 256)
  rw [List.length_append] at e
  rw [wr_snoc, show i + L.length + 1 = i + (L.length + [x / 256 % 256].length) from rfl, e, List.append_assoc]
  rfl
theorem p2_lt (x : Nat) : ∀ y ∈ p2 x, y < 256 := by
  intro y hy
  simp only [p2, List.mem_cons, List.not_mem_nil, or_false] at hy
  rcases hy with rfl | rfl <;> exact Nat.mod_lt _ (by decide)
def rawL (T : Nat → Nat) : Nat → List Nat
  | 0 => []
  | k + 1 => rawL T k ++ p2 (T k)
theorem rawL_len (T : Nat → Nat) : ∀ k, (rawL T k).length = 2 * k
  | 0 => rfl
  | k + 1 => by
    show (rawL T k ++ p2 (T k)).length = _
    rw [List.length_append, rawL_len T k]
    show 2 * k + 2 = _
    omega
theorem rawL_lt (T : Nat → Nat) : ∀ k, ∀ x ∈ rawL T k, x < 256
  | 0, x, h => by cases h
  | k + 1, x, h => by
    rcases List.mem_append.mp h with h | h
    · exact rawL_lt T k x h
    · exact p2_lt _ x h
theorem rawL_eq {T T' : Nat → Nat} : ∀ {k : Nat}, (∀ j, j < k → T j = T' j) → rawL T k = rawL T' k
  | 0, _ => rfl
  | k + 1, h => by
    show rawL T k ++ p2 (T k) = rawL T' k ++ p2 (T' k)
    rw [rawL_eq (fun j hj => h j (Nat.lt_succ_of_lt hj)), h k (Nat.lt_succ_self k)]
/-- bits of pixels, w a pixel: what is held, what has gone out -/
def bacc (f : Nat → Nat) (w : Nat) : Nat → Nat
  | 0 => 0
  | k + 1 => if (k + 1) * w % 8 = 0 then 0 else bacc f w k * 2 ^ w + f k
def bL (f : Nat → Nat) (w : Nat) : Nat → List Nat
  | 0 => []
  | k + 1 => if (k + 1) * w % 8 = 0 then bL f w k ++ [bacc f w k * 2 ^ w + f k] else bL f w k
theorem bacc_eq {f g : Nat → Nat} {w : Nat} : ∀ {k : Nat}, (∀ j, j < k → f j = g j) → bacc f w k = bacc g w k ∧ bL f w k = bL g w k
  | 0, _ => ⟨rfl, rfl⟩
  | k + 1, h => by
    obtain ⟨h1, h2⟩ := bacc_eq (w := w) (fun j hj => h j (Nat.lt_succ_of_lt hj))
    have h3 := h k (Nat.lt_succ_self k)
    unfold bacc bL
    rw [h1, h2, h3]
    exact ⟨rfl, rfl⟩
theorem bL_len {f : Nat → Nat} {w : Nat} (hw : w = 1 ∨ w = 2) : ∀ k, (bL f w k).length = k * w / 8
  | 0 => by rcases hw with rfl | rfl <;> rfl
  | k + 1 => by
    have h := bL_len (f := f) hw k
    unfold bL
    rcases hw with rfl | rfl <;> split <;> (try rw [List.length_append]) <;> (try rw [h]) <;> (try simp only [List.length_cons, List.length_nil]) <;> omega
theorem bacc_lt {f : Nat → Nat} {w n : Nat} (hw : w = 1 ∨ w = 2) (hf : ∀ j, j < n → f j < 2 ^ w) : ∀ k, k ≤ n → bacc f w k < 2 ^ (k * w % 8)
  | 0, _ => by rcases hw with rfl | rfl <;> exact Nat.zero_lt_one
  | k + 1, hk => by
    have h := bacc_lt hw hf k (by omega)
    have h2 := hf k (by omega)
    unfold bacc
    rcases hw with rfl | rfl
    · by_cases h3 : (k + 1) * 1 % 8 = 0
      · rw [if_pos h3, h3]; decide
      · rw [if_neg h3]
        rw [show (k + 1) * 1 % 8 = k * 1 % 8 + 1 by omega, Nat.pow_succ]
        omega
    · by_cases h3 : (k + 1) * 2 % 8 = 0
      · rw [if_pos h3, h3]; decide
      · rw [if_neg h3]
        rw [show (k + 1) * 2 % 8 = k * 2 % 8 + 2 by omega, Nat.pow_add]
        omega
theorem bacc_128 {f : Nat → Nat} {w n : Nat} (hw : w = 1 ∨ w = 2) (hf : ∀ j, j < n → f j < 2 ^ w) (k : Nat) (hk : k ≤ n) : bacc f w k < 128 := by
  have h := bacc_lt hw hf k hk
  have h3 : 2 ^ (k * w % 8) ≤ 2 ^ 7 := Nat.pow_le_pow_right (by decide) (by omega)
  omega
theorem bval_lt {f : Nat → Nat} {w n : Nat} (hw : w = 1 ∨ w = 2) (hf : ∀ j, j < n → f j < 2 ^ w) (k : Nat) (hk : k < n) : bacc f w k * 2 ^ w + f k < 256 := by
  have h := bacc_lt hw hf k (by omega)
  have h2 := hf k hk
  rcases hw with rfl | rfl
  · have h3 : 2 ^ (k * 1 % 8) ≤ 2 ^ 7 := Nat.pow_le_pow_right (by decide) (by omega)
    omega
  · have h3 : 2 ^ (k * 2 % 8) ≤ 2 ^ 6 := Nat.pow_le_pow_right (by decide) (by omega)
    omega
theorem bL_lt {f : Nat → Nat} {w n : Nat} (hw : w = 1 ∨ w = 2) (hf : ∀ j, j < n → f j < 2 ^ w) : ∀ k, k ≤ n → ∀ x ∈ bL f w k, x < 256
  | 0, _, x, h => by cases h
  | k + 1, hk, x, h => by
    unfold bL at h
    split at h
    · rcases List.mem_append.mp h with h | h
      · exact bL_lt hw hf k (by omega) x h
      · rw [List.mem_singleton] at h
        subst h
        exact bval_lt hw hf k (by omega)
    · exact bL_lt hw hf k (by omega) x h
/-- runs: where a pixel's run begins; what has gone out -/
def rst (T : Nat → Nat) : Nat → Nat
  | 0 => 0
  | k + 1 => if T (k + 1) = T k then rst T k else k + 1
theorem rst_le (T : Nat → Nat) : ∀ k, rst T k ≤ k
  | 0 => Nat.le_refl 0
  | k + 1 => by
    have := rst_le T k
    unfold rst
    split <;> omega
def rend (T : Nat → Nat) (k : Nat) : Prop := k = 63 ∨ T (k + 1) ≠ T k
theorem rend_or (T : Nat → Nat) (k : Nat) : rend T k ∨ ¬ rend T k := Classical.em _
noncomputable def runL (T : Nat → Nat) : Nat → List Nat
  | 0 => []
  | k + 1 => if (k == 63 || T (k + 1) != T k) = true then runL T k ++ (k + 1 - rst T k) :: p2 (T k) else runL T k
def rendB (T : Nat → Nat) (k : Nat) : Bool := k == 63 || T (k + 1) != T k
theorem rendB_t {T : Nat → Nat} {k : Nat} (h : k = 63 ∨ T (k + 1) ≠ T k) : rendB T k = true := by
  unfold rendB
  rcases h with h | h
  · rw [h]; rfl
  · simp [h]
theorem rendB_f {T : Nat → Nat} {k : Nat} (h1 : k ≠ 63) (h2 : T (k + 1) = T k) : ¬ rendB T k = true := by
  unfold rendB
  simp [h1, h2]
theorem runL_t {T : Nat → Nat} {k : Nat} (h : rendB T k = true) : runL T (k + 1) = runL T k ++ (k + 1 - rst T k) :: p2 (T k) := if_pos h
theorem runL_f {T : Nat → Nat} {k : Nat} (h : ¬ rendB T k = true) : runL T (k + 1) = runL T k := if_neg h
theorem runL_lt (T : Nat → Nat) : ∀ k, k ≤ 64 → ∀ x ∈ runL T k, x < 256
  | 0, _, x, h => by cases h
  | k + 1, hk, x, h => by
    by_cases hr : rendB T k = true
    · rw [runL_t hr] at h
      rcases List.mem_append.mp h with h | h
      · exact runL_lt T k (by omega) x h
      · rcases List.mem_cons.mp h with h | h
        · omega
        · exact p2_lt _ x h
    · rw [runL_f hr] at h
      exact runL_lt T k (by omega) x h
/-- as many ends of runs as beginnings -/
theorem runL_len (T : Nat → Nat) : ∀ k, k ≤ 63 → (runL T k).length + 3 = 3 * runsN T (k + 1)
  | 0, _ => by simp [runL, runsN, sameP]
  | k + 1, hk => by
    have h := runL_len T k (by omega)
    by_cases e : T (k + 1) = T k
    · rw [runL_f (rendB_f (by omega) e), runsN_t (by simp [sameP, e]), h]
    · rw [runL_t (rendB_t (Or.inr e)), runsN_f (by simp [sameP, e]), List.length_append]
      show (runL T k).length + 3 + 3 = _
      omega
theorem runL_64 (T : Nat → Nat) : (runL T 64).length = 3 * runsN T 64 := by
  have h := runL_len T 63 (by decide)
  rw [runL_t (rendB_t (Or.inl rfl)), List.length_append, ← h]
  rfl
theorem runsN_pos (T : Nat → Nat) : 0 < runsN T 64 := by
  have h := runL_len T 63 (by decide)
  show 0 < runsN T (63 + 1)
  omega
/-- the least place below n of a colour, or n -/
def numOf (P : Nat → Nat) (n x : Nat) : Nat := (List.range n).findIdx (fun i => P i == x)
theorem numOf_is {P : Nat → Nat} {n x i : Nat} (hi : i < n) (h : P i = x) (hl : ∀ j, j < i → P j ≠ x) : numOf P n x = i := by
  unfold numOf
  rw [List.findIdx_eq (by simpa using hi)]
  refine ⟨by simp [h], fun j hj => ?_⟩
  simp [hl j hj]
theorem numOf_no {P : Nat → Nat} {n x : Nat} (hl : ∀ j, j < n → P j ≠ x) : numOf P n x = n := by
  unfold numOf
  have : (List.range n).findIdx (fun i => P i == x) = (List.range n).length := List.findIdx_eq_length.mpr (fun i hi => by simp [hl i (List.mem_range.mp hi)])
  rw [this, List.length_range]
theorem numOf_le (P : Nat → Nat) (n x : Nat) : numOf P n x ≤ n := by
  unfold numOf
  have := List.findIdx_le_length (xs := List.range n) (p := fun i => P i == x)
  rw [List.length_range] at this
  exact this
theorem numOf_lt {P : Nat → Nat} {n x i : Nat} (hi : i < n) (h : P i = x) : numOf P n x < n := by
  unfold numOf
  have : (List.range n).findIdx (fun i => P i == x) < (List.range n).length := List.findIdx_lt_length.mpr ⟨i, List.mem_range.mpr hi, by simp [h]⟩
  rw [List.length_range] at this
  exact this
theorem numOf_eq {P P' : Nat → Nat} {n x : Nat} (h : ∀ i, i < n → P i = P' i) : numOf P n x = numOf P' n x := by
  by_cases q : ∃ i, i < n ∧ P i = x
  · obtain ⟨i, ⟨h1, h2⟩, h3⟩ := pk_least _ q
    rw [numOf_is h1 h2 (fun j hj e => h3 j hj ⟨by omega, e⟩), numOf_is h1 ((h i h1).symm.trans h2) (fun j hj e => h3 j hj ⟨by omega, (h j (by omega)).trans e⟩)]
  · rw [numOf_no (fun j hj e => q ⟨j, hj, e⟩), numOf_no (fun j hj e => q ⟨j, hj, (h j hj).trans e⟩)]
theorem wr_snoc' {B : Nat → Nat} {i s : Nat} {L : List Nat} {x : Nat} (h : s = i + L.length) : up (wr B i L) s x = wr B i (L ++ [x]) := by rw [h]; exact wr_snoc B i L x
theorem wr_p2' {B : Nat → Nat} {i s : Nat} {L : List Nat} {x : Nat} (h : s = i + L.length) : up (up (wr B i L) s (x / 256 % 256)) (s + 1) (x % 256) = wr B i (L ++ p2 x) := by rw [h]; exact wr_p2 B i L x
theorem wr_app' {B : Nat → Nat} {i s : Nat} {L M : List Nat} (h : s = i + L.length) : wr (wr B i L) s M = wr B i (L ++ M) := by rw [h]; exact wr_app B i L M
theorem or_add {a b w : Nat} (hb : b < 2 ^ w) : a * 2 ^ w ||| b = a * 2 ^ w + b := by
  rw [Nat.mul_comm, ← Nat.two_pow_add_eq_or_of_lt hb]
theorem held_8 {k w : Nat} (hw : w = 1 ∨ w = 2) (h : k * w % 8 + w = 8) : (k + 1) * w % 8 = 0 := by rcases hw with rfl | rfl <;> omega
theorem held_n {k w : Nat} (hw : w = 1 ∨ w = 2) (h : k * w % 8 + w ≠ 8) : (k + 1) * w % 8 = k * w % 8 + w := by rcases hw with rfl | rfl <;> omega
theorem bL_t {f : Nat → Nat} {w k : Nat} (h : (k + 1) * w % 8 = 0) : bL f w (k + 1) = bL f w k ++ [bacc f w k * 2 ^ w + f k] := if_pos h
theorem bL_f {f : Nat → Nat} {w k : Nat} (h : ¬ (k + 1) * w % 8 = 0) : bL f w (k + 1) = bL f w k := if_neg h
theorem bacc_t {f : Nat → Nat} {w k : Nat} (h : (k + 1) * w % 8 = 0) : bacc f w (k + 1) = 0 := if_pos h
theorem bacc_f {f : Nat → Nat} {w k : Nat} (h : ¬ (k + 1) * w % 8 = 0) : bacc f w (k + 1) = bacc f w k * 2 ^ w + f k := if_neg h
/-- a sum of m places from f on -/
def sumF (B : Nat → Nat) (f : Nat) : Nat → Nat
  | 0 => 0
  | m + 1 => sumF B f m + B (f + m)
theorem sumF_s (B : Nat → Nat) {f k : Nat} (h : f ≤ k) : sumF B f (k + 1 - f) = sumF B f (k - f) + B k := by
  rw [show k + 1 - f = (k - f) + 1 by omega]
  show sumF B f (k - f) + B (f + (k - f)) = _
  rw [show f + (k - f) = k by omega]
theorem sumF_le {B : Nat → Nat} {b : Nat} (h : ∀ j, B j < b) (f : Nat) : ∀ m, sumF B f m ≤ b * m
  | 0 => Nat.zero_le _
  | m + 1 => by
    have h1 := sumF_le h f m
    have h2 := h (f + m)
    show sumF B f m + B (f + m) ≤ b * (m + 1)
    rw [Nat.mul_succ]
    omega
theorem sumF_eq {B C : Nat → Nat} {f g : Nat} : ∀ {m : Nat}, (∀ j, j < m → B (f + j) = C (g + j)) → sumF B f m = sumF C g m
  | 0, _ => rfl
  | m + 1, h => by
    show sumF B f m + B (f + m) = sumF C g m + C (g + m)
    rw [sumF_eq (fun j hj => h j (Nat.lt_succ_of_lt hj)), h m (Nat.lt_succ_self m)]
/-- the colours of a tile's first k pixels, as they come first -/
def cols (T : Nat → Nat) : Nat → List Nat
  | 0 => []
  | k + 1 => if (cols T k).contains (T k) then cols T k else cols T k ++ [T k]
theorem cols_t {T : Nat → Nat} {k : Nat} (h : T k ∈ cols T k) : cols T (k + 1) = cols T k := if_pos (List.contains_iff_mem.mpr h)
theorem cols_f {T : Nat → Nat} {k : Nat} (h : T k ∉ cols T k) : cols T (k + 1) = cols T k ++ [T k] := if_neg (fun q => h (List.contains_iff_mem.mp q))
theorem cols_mem (T : Nat → Nat) : ∀ k j, j < k → T j ∈ cols T k
  | 0, j, h => absurd h (Nat.not_lt_zero j)
  | k + 1, j, h => by
    by_cases q : T k ∈ cols T k
    · rw [cols_t q]
      rcases (show j < k ∨ j = k by omega) with e | e
      · exact cols_mem T k j e
      · rw [e]; exact q
    · rw [cols_f q]
      rcases (show j < k ∨ j = k by omega) with e | e
      · exact List.mem_append_left _ (cols_mem T k j e)
      · rw [e]; exact List.mem_append_right _ (List.mem_singleton.mpr rfl)
theorem cols_eq {T T' : Nat → Nat} : ∀ {k : Nat}, (∀ j, j < k → T j = T' j) → cols T k = cols T' k
  | 0, _ => rfl
  | k + 1, h => by
    have h1 := cols_eq (fun j hj => h j (Nat.lt_succ_of_lt hj))
    unfold cols
    rw [h1, h k (Nat.lt_succ_self k)]
theorem cols_len (T : Nat → Nat) : ∀ k, (cols T k).length ≤ k
  | 0 => Nat.le_refl 0
  | k + 1 => by
    have h := cols_len T k
    by_cases q : T k ∈ cols T k
    · rw [cols_t q]; omega
    · rw [cols_f q, List.length_append]; simp only [List.length_cons, List.length_nil]; omega
theorem cols_lt {T : Nat → Nat} {b : Nat} (h : ∀ j, T j < b) : ∀ k, ∀ x ∈ cols T k, x < b
  | 0, x, hx => by cases hx
  | k + 1, x, hx => by
    by_cases q : T k ∈ cols T k
    · rw [cols_t q] at hx; exact cols_lt h k x hx
    · rw [cols_f q] at hx
      rcases List.mem_append.mp hx with g | g
      · exact cols_lt h k x g
      · rw [List.mem_singleton] at g; subst g; exact h k
def colN (T : Nat → Nat) : Nat := (cols T 64).length
def palA (T : Nat → Nat) (i : Nat) : Nat := (cols T 64).getD i 0
theorem getD_mem {L : List Nat} {i : Nat} (h : i < L.length) : L.getD i 0 ∈ L := by
  rw [List.getD_eq_getElem?_getD, List.getElem?_eq_getElem h]
  exact List.getElem_mem h
theorem mem_getD {L : List Nat} {x : Nat} (h : x ∈ L) : ∃ i, i < L.length ∧ L.getD i 0 = x := by
  obtain ⟨i, hi, e⟩ := List.getElem_of_mem h
  refine ⟨i, hi, ?_⟩
  rw [List.getD_eq_getElem?_getD, List.getElem?_eq_getElem hi]
  exact e
theorem getD_app {L M : List Nat} {i : Nat} (h : i < L.length) : (L ++ M).getD i 0 = L.getD i 0 := by
  rw [List.getD_eq_getElem?_getD, List.getD_eq_getElem?_getD, List.getElem?_append_left h]
theorem getD_new {L : List Nat} {x : Nat} : (L ++ [x]).getD L.length 0 = x := by
  rw [List.getD_eq_getElem?_getD, List.getElem?_append_right (Nat.le_refl _)]
  simp
/-- what the class's look holds against the colours themselves -/
def SR (L : List Nat) (P : Nat → Nat) (nc : Nat) : Prop := ((L.length ≤ 4 ∧ nc = L.length) ∨ (4 < L.length ∧ 4 < nc)) ∧ ∀ j, j < min L.length 4 → P j = L.getD j 0
theorem SR_me {L : List Nat} {P : Nat → Nat} {nc x : Nat} (h : SR L P nc) : SR (if L.contains x then L else L ++ [x]) (meP P nc x) (meN P nc x) := by
  obtain ⟨h1, h2⟩ := h
  rcases h1 with ⟨h1, h3⟩ | ⟨h1, h3⟩
  · have hin : inPal P nc x = true ↔ x ∈ L := by
      rw [inPal_iff]
      constructor
      · rintro ⟨i, g1, g2⟩
        rw [← g2, h2 i (by omega)]
        exact getD_mem (by omega)
      · intro g
        obtain ⟨i, g1, g2⟩ := mem_getD g
        exact ⟨i, by omega, by rw [h2 i (by omega)]; exact g2⟩
    by_cases q : x ∈ L
    · rw [if_pos (List.contains_iff_mem.mpr q), show meP P nc x = P from if_pos (hin.mpr q), show meN P nc x = nc from if_pos (hin.mpr q)]
      exact ⟨Or.inl ⟨h1, h3⟩, h2⟩
    · have q2 : ¬ inPal P nc x = true := fun g => q (hin.mp g)
      rw [if_neg (fun g => q (List.contains_iff_mem.mp g)), show meN P nc x = nc + 1 from if_neg q2]
      by_cases g : nc < 4
      · rw [show meP P nc x = up P nc x from (if_neg q2).trans (if_pos g)]
        refine ⟨Or.inl ⟨by simp; omega, by simp [h3]⟩, fun j hj => ?_⟩
        simp only [List.length_append, List.length_cons, List.length_nil] at hj
        by_cases e : j = nc
        · rw [e, up_s, h3, getD_new]
        · rw [up_n _ _ e, getD_app (by omega)]
          exact h2 j (by omega)
      · rw [show meP P nc x = P from (if_neg q2).trans (if_neg g)]
        refine ⟨Or.inr ⟨by simp; omega, by omega⟩, fun j hj => ?_⟩
        simp only [List.length_append, List.length_cons, List.length_nil] at hj
        rw [getD_app (by omega)]
        exact h2 j (by omega)
  · have hP : meP P nc x = P := by
      unfold meP
      split
      · rfl
      · rw [if_neg (by omega)]
    have hN : 4 < meN P nc x := by
      unfold meN
      split <;> omega
    rw [hP]
    split
    · exact ⟨Or.inr ⟨h1, hN⟩, h2⟩
    · refine ⟨Or.inr ⟨by simp; omega, hN⟩, fun j hj => ?_⟩
      rw [getD_app (by omega)]
      exact h2 j (by omega)
theorem stu_SR (T P0 : Nat → Nat) : ∀ k, SR (cols T k) (stu T P0 k).1 (stu T P0 k).2
  | 0 => ⟨Or.inl ⟨Nat.zero_le _, rfl⟩, fun j hj => absurd hj (by simp [cols])⟩
  | k + 1 => by
    have h := stu_SR T P0 k
    by_cases q : sameP T k = true
    · rw [stu_t q]
      have hk : k ≠ 0 ∧ T k = T (k - 1) := by
        unfold sameP at q
        simpa using q
      rw [cols_t (by rw [hk.2]; exact cols_mem T k (k - 1) (by omega))]
      exact h
    · rw [stu_f q]
      exact SR_me h
/-- kinds: which fit, how long, what follows; by the class's look, and by the tile alone -/
def fitC (nc : Nat) (tw en : Int32) (kd : Nat) : Bool := match kd with
  | 0 => nc == 1
  | 1 => tw != -1
  | 2 => en != -1
  | 3 => nc == 2
  | 4 => nc == 3 || nc == 4
  | _ => true
def lenC (nc ru kd : Nat) : Nat := match kd with
  | 0 => 2
  | 1 => 1
  | 2 => 1
  | 3 => 12
  | 4 => 1 + 2 * nc + 16
  | 5 => 1 + 3 * ru
  | _ => 128
noncomputable def contC (T P : Nat → Nat) (nc ru : Nat) (tw en : Int32) (kd : Nat) : List Nat := match kd with
  | 0 => p2 (P 0)
  | 1 => [tw.toNatClampNeg]
  | 2 => [en.toNatClampNeg]
  | 3 => rawL P nc ++ bL (fun k => numOf P nc (T k)) 1 64
  | 4 => nc :: (rawL P nc ++ bL (fun k => numOf P nc (T k)) 2 64)
  | 5 => ru :: runL T 64
  | _ => rawL T 64
def isBest (fit : Nat → Bool) (len : Nat → Nat) (kd : Nat) : Prop := kd < 7 ∧ fit kd = true ∧ ∀ j, j < 7 → fit j = true → len kd < len j ∨ (len kd = len j ∧ kd ≤ j)
theorem isBest_uniq {fit : Nat → Bool} {len : Nat → Nat} {a b : Nat} (ha : isBest fit len a) (hb : isBest fit len b) : a = b := by
  have h1 := ha.2.2 b hb.1 hb.2.1
  have h2 := hb.2.2 a ha.1 ha.2.1
  omega
theorem isBest_eq {fit fit' : Nat → Bool} {len len' : Nat → Nat} {a : Nat} (hf : ∀ j, j < 7 → fit j = fit' j) (hl : ∀ j, j < 7 → fit j = true → len j = len' j) (h : isBest fit len a) : isBest fit' len' a := by
  refine ⟨h.1, by rw [← hf a h.1]; exact h.2.1, fun j hj q => ?_⟩
  rw [← hf j hj] at q
  rw [← hl j hj q, ← hl a h.1 h.2.1]
  exact h.2.2 j hj q
theorem lt7 {j : Nat} (h : j < 7) : j = 0 ∨ j = 1 ∨ j = 2 ∨ j = 3 ∨ j = 4 ∨ j = 5 ∨ j = 6 := by omega
/-- a look that is a tile's: the kinds by it are the kinds by the tile's colours -/
theorem fit_SR {L : List Nat} {P : Nat → Nat} {nc : Nat} (h : SR L P nc) (tw en : Int32) {j : Nat} (hj : j < 7) : fitC nc tw en j = fitC L.length tw en j := by
  rcases h.1 with ⟨h1, h2⟩ | ⟨h1, h2⟩
  · rw [h2]
  · rcases lt7 hj with rfl | rfl | rfl | rfl | rfl | rfl | rfl
    · simp only [fitC]; rw [beq_false_of_ne (show nc ≠ 1 by omega), beq_false_of_ne (show L.length ≠ 1 by omega)]
    · rfl
    · rfl
    · simp only [fitC]; rw [beq_false_of_ne (show nc ≠ 2 by omega), beq_false_of_ne (show L.length ≠ 2 by omega)]
    · simp only [fitC]; rw [beq_false_of_ne (show nc ≠ 3 by omega), beq_false_of_ne (show nc ≠ 4 by omega), beq_false_of_ne (show L.length ≠ 3 by omega), beq_false_of_ne (show L.length ≠ 4 by omega)]
    · rfl
    · rfl
theorem len_SR {L : List Nat} {P : Nat → Nat} {nc ru : Nat} {tw en : Int32} (h : SR L P nc) {j : Nat} (hj : j < 7) (hf : fitC nc tw en j = true) : lenC nc ru j = lenC L.length ru j := by
  rcases lt7 hj with rfl | rfl | rfl | rfl | rfl | rfl | rfl <;> try rfl
  have h4 : nc = 3 ∨ nc = 4 := by simpa [fitC] using hf
  rcases h.1 with ⟨h1, h2⟩ | ⟨h1, h2⟩
  · rw [h2]
  · omega
theorem cont_SR {T : Nat → Nat} {L : List Nat} {P : Nat → Nat} {nc ru : Nat} {tw en : Int32} (h : SR L P nc) {j : Nat} (hj : j < 7) (hf : fitC nc tw en j = true) : contC T P nc ru tw en j = contC T (fun i => L.getD i 0) L.length ru tw en j := by
  have hh : (nc ≤ 4 ∧ 0 < nc) → nc = L.length ∧ ∀ i, i < nc → P i = L.getD i 0 := by
    intro q
    rcases h.1 with ⟨h1, h2⟩ | ⟨h1, h2⟩
    · exact ⟨h2, fun i hi => h.2 i (by omega)⟩
    · omega
  rcases lt7 hj with rfl | rfl | rfl | rfl | rfl | rfl | rfl <;> try rfl
  · have h4 : nc = 1 := by simpa [fitC] using hf
    obtain ⟨g1, g2⟩ := hh (by omega)
    show p2 (P 0) = p2 (L.getD 0 0)
    rw [g2 0 (by omega)]
  · have h4 : nc = 2 := by simpa [fitC] using hf
    obtain ⟨g1, g2⟩ := hh (by omega)
    show rawL P nc ++ bL (fun k => numOf P nc (T k)) 1 64 = rawL _ L.length ++ bL (fun k => numOf _ L.length (T k)) 1 64
    rw [rawL_eq g2, ← g1, (bacc_eq (fun k _ => numOf_eq g2)).2]
  · have h4 : nc = 3 ∨ nc = 4 := by simpa [fitC] using hf
    obtain ⟨g1, g2⟩ := hh (by omega)
    show nc :: (rawL P nc ++ bL (fun k => numOf P nc (T k)) 2 64) = L.length :: (rawL _ L.length ++ bL (fun k => numOf _ L.length (T k)) 2 64)
    rw [rawL_eq g2, ← g1, (bacc_eq (fun k _ => numOf_eq g2)).2]
theorem cont_len {T P : Nat → Nat} {nc ru : Nat} {tw en : Int32} {j : Nat} (hj : j < 7) (hf : fitC nc tw en j = true) (hru : ru = runsN T 64) : (contC T P nc ru tw en j).length = lenC nc ru j := by
  rcases lt7 hj with rfl | rfl | rfl | rfl | rfl | rfl | rfl
  · rfl
  · rfl
  · rfl
  · have h4 : nc = 2 := by simpa [fitC] using hf
    show (rawL P nc ++ bL _ 1 64).length = 12
    rw [List.length_append, rawL_len, bL_len (Or.inl rfl), h4]
  · show (nc :: (rawL P nc ++ bL _ 2 64)).length = 1 + 2 * nc + 16
    rw [List.length_cons, List.length_append, rawL_len, bL_len (Or.inr rfl)]
    omega
  · show (ru :: runL T 64).length = 1 + 3 * ru
    rw [List.length_cons, runL_64, hru]
    omega
  · show (rawL T 64).length = 128
    rw [rawL_len]
theorem wr_1 (B : Nat → Nat) (i x : Nat) : up B i x = wr B i [x] := by
  have h := wr_snoc B i [] x
  rw [wr_nil] at h
  exact h
theorem wr_2 (B : Nat → Nat) (i x : Nat) : up (up B i (x / 256 % 256)) (i + 1) (x % 256) = wr B i (p2 x) := by
  have h := wr_p2 B i [] x
  rw [wr_nil] at h
  exact h
theorem runL_mono (T : Nat → Nat) {k : Nat} : ∀ {m : Nat}, k ≤ m → (runL T k).length ≤ (runL T m).length := by
  intro m
  induction m with
  | zero => intro h; rw [show k = 0 by omega]; exact Nat.le_refl _
  | succ m ih =>
    intro h
    rcases (show k ≤ m ∨ k = m + 1 by omega) with q | q
    · refine Nat.le_trans (ih q) ?_
      by_cases hr : rendB T m = true
      · rw [runL_t hr, List.length_append]; omega
      · rw [runL_f hr]; exact Nat.le_refl _
    · rw [q]; exact Nat.le_refl _
theorem runL_cap {T : Nat → Nat} {k : Nat} (hk : k ≤ 64) : (runL T k).length ≤ 3 * runsN T 64 := by
  rw [← runL_64]
  exact runL_mono T hk
theorem rst_eq {T : Nat → Nat} {k : Nat} (h : T (k + 1) = T k) : rst T (k + 1) = rst T k := if_pos h
theorem rst_ne {T : Nat → Nat} {k : Nat} (h : T (k + 1) ≠ T k) : rst T (k + 1) = k + 1 := if_neg h
end
section
section
variable {l : Launch} {D : va_G} {cI cZ cL cV : ClassId}
theorem ln_lt {nc ru kd : Nat} (hc : nc ≤ 1000) (hr : ru ≤ 1000) : lenC nc ru kd < 2 ^ 31 := by
  unfold lenC
  split <;> omega
set_option maxHeartbeats 4000000 in
set_option maxRecDepth 100000 in
theorem c_Line_add0 (a : Nat) (pp : Nat) (sz : Nat) (B : Nat → Nat) (x : Nat) (h0 : sz < 6247) : CV (S := Unit) l classes NW D (TYS cI cZ cL cV) y_Line_add (.code y_Line_add b_Line_add 2 none :: TB) { frames := 0, cells := 0, slots := 0, locals := 0 } [.ref a, .int (nI x)] [(a, .inr (2, [.ref pp, .int (nI 0), .int (nI sz)])), (pp, .inl (cI, 6247, .inl (nF B)))] (fun u => True) (fun u => [(a, .inr (2, [.ref pp, .int (nI 0), .int (nI (sz + 1))])), (pp, .inl (cI, 6247, .inl (nF (up B sz x))))]) := by
  refine CV.of (by decide) (Nat.le_of_ble_eq_true rfl) ?_
  intro pr ev sT mM aR bW mE cO AA QQ ls Bd hG hA hP hD hS hl hnm hret
  have Bd : bd pr cO b_Line_add 2 sT aR TB "TileScreen$Line" mM := Bd
  obtain ⟨hx, hb, hml, hown, htb⟩ := id Bd
  have hl : lv_has ls 2 [(0, .ref a), (1, .int (nI x))] := hl
  refine lv_aload_n hx hb d_Line_add_0 rfl (lv_at hl 0 rfl) ?_
  refine va_get (D := D) (ci := 2) (v := .int (nI 0)) (C := "TileScreen$Line") (T := F_Line) (N := 3) hx hb htb i_Line hown hG.1 hP 0 rfl rfl 1 (by decide) (htb _ k_86) (fun _ h9 => h9) rfl d_Line_add_1 ?_
  refine lv_aload_n hx hb d_Line_add_4 rfl (lv_at hl 0 rfl) ?_
  refine va_get (D := D) (ci := 2) (v := .int (nI sz)) (C := "TileScreen$Line") (T := F_Line) (N := 3) hx hb htb i_Line hown hG.1 hP 0 rfl rfl 2 (by decide) (htb _ k_87) (fun _ h9 => h9) rfl d_Line_add_5 ?_
  refine nv_iadd hx hb d_Line_add_8 ?_
  refine lv_aload_n hx hb d_Line_add_9 rfl (lv_at hl 0 rfl) ?_
  refine va_get (D := D) (ci := 2) (v := .ref pp) (C := "TileScreen$Line") (T := F_Line) (N := 3) hx hb htb i_Line hown hG.1 hP 0 rfl rfl 0 (by decide) (htb _ k_84) (fun _ h9 => h9) rfl d_Line_add_10 ?_
  refine va_alen (v := nI 6247) hx hb hG.1 hP 1 0 rfl rfl rfl d_Line_add_13 ?_
  refine nv_icmp_ge (tgt := 42) hx hb d_Line_add_14 (by decide) (by omega) (by omega) (fun c_14 => ?_) (fun c_14 => ?_)
  · omega
  · refine lv_aload_n hx hb d_Line_add_17 rfl (lv_at hl 0 rfl) ?_
    refine va_get (D := D) (ci := 2) (v := .ref pp) (C := "TileScreen$Line") (T := F_Line) (N := 3) hx hb htb i_Line hown hG.1 hP 0 rfl rfl 0 (by decide) (htb _ k_84) (fun _ h9 => h9) rfl d_Line_add_18 ?_
    refine lv_aload_n hx hb d_Line_add_21 rfl (lv_at hl 0 rfl) ?_
    refine va_get (D := D) (ci := 2) (v := .int (nI 0)) (C := "TileScreen$Line") (T := F_Line) (N := 3) hx hb htb i_Line hown hG.1 hP 0 rfl rfl 1 (by decide) (htb _ k_86) (fun _ h9 => h9) rfl d_Line_add_22 ?_
    refine lv_aload_n hx hb d_Line_add_25 rfl (lv_at hl 0 rfl) ?_
    refine va_get (D := D) (ci := 2) (v := .int (nI sz)) (C := "TileScreen$Line") (T := F_Line) (N := 3) hx hb htb i_Line hown hG.1 hP 0 rfl rfl 2 (by decide) (htb _ k_87) (fun _ h9 => h9) rfl d_Line_add_26 ?_
    refine nv_iadd hx hb d_Line_add_29 ?_
    refine nv_top (y := nI sz) (congrArg nI (Nat.zero_add sz)) ?_
    refine lv_iload_n hx hb d_Line_add_30 rfl (lv_at hl 1 rfl) ?_
    refine nv_iast hx hb hG.1 hP hD hS 1 0 rfl rfl (by omega) (by omega) d_Line_add_31 (fun H locs hP hD hS => ?_)
    have hP : va_P D classes [(a, .inr (2, [.ref pp, .int (nI 0), .int (nI sz)])), (pp, .inl (cI, 6247, .inl (nF (up B sz x))))] H := hP
    have hD : va_D AA [(a, .inr (2, [.ref pp, .int (nI 0), .int (nI sz)])), (pp, .inl (cI, 6247, .inl (nF (up B sz x))))] := hD
    refine lv_aload_n hx hb d_Line_add_32 rfl (lv_at hl 0 rfl) ?_
    refine lv_dup hx hb d_Line_add_33 rfl ?_
    refine va_get (D := D) (ci := 2) (v := .int (nI sz)) (C := "TileScreen$Line") (T := F_Line) (N := 3) hx hb htb i_Line hown hG.1 hP 0 rfl rfl 2 (by decide) (htb _ k_87) (fun _ h9 => h9) rfl d_Line_add_34 ?_
    refine lv_iconst (v := nI 1) hx hb d_Line_add_37 (by decide) ?_
    refine nv_iadd hx hb d_Line_add_38 ?_
    refine va_put (D := D) (ci := 2) (v := .int (nI (sz + 1))) (ty := .int) (C := "TileScreen$Line") (T := F_Line) (N := 3) hx hb htb i_Line t_Line t_Line_ok n_Line hown hG.1 hP hD hS 0 rfl rfl 2 (by decide) (htb _ k_87) (fun _ h9 => h9) rfl (by decide +kernel) rfl rfl (Nat.le_of_ble_eq_true rfl) d_Line_add_39 (fun H locs hP hD hS => ?_)
    have hP : va_P D classes [(a, .inr (2, [.ref pp, .int (nI 0), .int (nI (sz + 1))])), (pp, .inl (cI, 6247, .inl (nF (up B sz x))))] H := hP
    have hD : va_D AA [(a, .inr (2, [.ref pp, .int (nI 0), .int (nI (sz + 1))])), (pp, .inl (cI, 6247, .inl (nF (up B sz x))))] := hD
    exact hret () _ _ _ _ d_Line_add_42 (trivial) hP hD hS
set_option maxHeartbeats 4000000 in
set_option maxRecDepth 100000 in
theorem c_Line_addPair0 (a : Nat) (pp : Nat) (sz : Nat) (B : Nat → Nat) (x : Nat) (h0 : sz + 1 < 6247) (hx1 : x < 2 ^ 31) : CV (S := Unit) l classes NW D (TYS cI cZ cL cV) y_Line_addPair (.code y_Line_addPair b_Line_addPair 2 none :: TB) { frames := 1, cells := 0, slots := 0, locals := 21 } [.ref a, .int (nI x)] [(a, .inr (2, [.ref pp, .int (nI 0), .int (nI sz)])), (pp, .inl (cI, 6247, .inl (nF B)))] (fun u => True) (fun u => [(a, .inr (2, [.ref pp, .int (nI 0), .int (nI (sz + 2))])), (pp, .inl (cI, 6247, .inl (nF (up (up B sz (x / 256 % 256)) (sz + 1) (x % 256)))))]) := by
  refine CV.of (by decide) (Nat.le_of_ble_eq_true rfl) ?_
  intro pr ev sT mM aR bW mE cO AA QQ ls Bd hG hA hP hD hS hl hnm hret
  have Bd : bd pr cO b_Line_addPair 2 sT aR TB "TileScreen$Line" mM := Bd
  obtain ⟨hx, hb, hml, hown, htb⟩ := id Bd
  have hl : lv_has ls 2 [(0, .ref a), (1, .int (nI x))] := hl
  refine lv_aload_n hx hb d_Line_addPair_0 rfl (lv_at hl 0 rfl) ?_
  refine lv_iload_n hx hb d_Line_addPair_1 rfl (lv_at hl 1 rfl) ?_
  refine lv_bipush (v := nI 8) hx hb d_Line_addPair_2 (by decide) ?_
  refine nv_ishr hx hb (by omega) (by omega) d_Line_addPair_4 ?_
  refine lv_sipush (v := nI 255) hx hb d_Line_addPair_5 (by decide) ?_
  refine nv_iandm hx hb 8 rfl d_Line_addPair_8 ?_
  refine kV_v (wc := [(a, .inr (2, [.ref pp, .int (nI 0), .int (nI sz)])), (pp, .inl (cI, 6247, .inl (nF B)))]) (wr := []) (w2 := fun _ => [(a, .inr (2, [.ref pp, .int (nI 0), .int (nI (sz + 1))])), (pp, .inl (cI, 6247, .inl (nF (up B sz ((x / 2 ^ 8) % 256)))))]) [.int (nI ((x / 2 ^ 8) % 256))] [] Bd ⟨gi_app (gi_c0 k_352 (gi_c0 k_345 (gi_c0 k_346 (gi_c0 k_6 gi_nil)))) (gi_tb0 k_347), rfl, by decide, by decide⟩ (show (parseMethodDescriptor "(I)V").map (fun d => d.parameters.length) = some 1 by decide +kernel) (c_Line_add0 a pp sz B ((x / 2 ^ 8) % 256) (by omega)) (by decide +kernel) ⟨Nat.le_of_ble_eq_true rfl, Nat.le_of_ble_eq_true rfl⟩ hG hP hD hS hA [0, 1] [] [0, 1] (by decide) rfl rfl (fun _ => rfl) (q0 := 0) rfl rfl rfl hl.1 rfl (Nat.le_of_ble_eq_true rfl) d_Line_addPair_9 (fun u2 H locs hp1 hP hD hS => ?_)
  have hP : va_P D classes [(a, .inr (2, [.ref pp, .int (nI 0), .int (nI (sz + 1))])), (pp, .inl (cI, 6247, .inl (nF (up B sz ((x / 2 ^ 8) % 256)))))] H := hP
  have hD : va_D AA [(a, .inr (2, [.ref pp, .int (nI 0), .int (nI (sz + 1))])), (pp, .inl (cI, 6247, .inl (nF (up B sz ((x / 2 ^ 8) % 256)))))] := hD
  refine lv_aload_n hx hb d_Line_addPair_12 rfl (lv_at hl 0 rfl) ?_
  refine lv_iload_n hx hb d_Line_addPair_13 rfl (lv_at hl 1 rfl) ?_
  refine lv_sipush (v := nI 255) hx hb d_Line_addPair_14 (by decide) ?_
  refine nv_iandm hx hb 8 rfl d_Line_addPair_17 ?_
  refine kV_v (wc := [(a, .inr (2, [.ref pp, .int (nI 0), .int (nI (sz + 1))])), (pp, .inl (cI, 6247, .inl (nF (up B sz ((x / 2 ^ 8) % 256)))))]) (wr := []) (w2 := fun _ => [(a, .inr (2, [.ref pp, .int (nI 0), .int (nI ((sz + 1) + 1))])), (pp, .inl (cI, 6247, .inl (nF (up (up B sz ((x / 2 ^ 8) % 256)) (sz + 1) (x % 256)))))]) [.int (nI (x % 256))] [] Bd ⟨gi_app (gi_c0 k_352 (gi_c0 k_345 (gi_c0 k_346 (gi_c0 k_6 gi_nil)))) (gi_tb0 k_347), rfl, by decide, by decide⟩ (show (parseMethodDescriptor "(I)V").map (fun d => d.parameters.length) = some 1 by decide +kernel) (c_Line_add0 a pp (sz + 1) (up B sz ((x / 2 ^ 8) % 256)) (x % 256) (by omega)) (by decide +kernel) ⟨Nat.le_of_ble_eq_true rfl, Nat.le_of_ble_eq_true rfl⟩ hG hP hD hS hA [0, 1] [] [0, 1] (by decide) rfl rfl (fun _ => rfl) (q0 := 0) rfl rfl rfl hl.1 rfl (Nat.le_of_ble_eq_true rfl) d_Line_addPair_18 (fun u4 H locs hp3 hP hD hS => ?_)
  have hP : va_P D classes [(a, .inr (2, [.ref pp, .int (nI 0), .int (nI ((sz + 1) + 1))])), (pp, .inl (cI, 6247, .inl (nF (up (up B sz ((x / 2 ^ 8) % 256)) (sz + 1) (x % 256)))))] H := hP
  have hD : va_D AA [(a, .inr (2, [.ref pp, .int (nI 0), .int (nI ((sz + 1) + 1))])), (pp, .inl (cI, 6247, .inl (nF (up (up B sz ((x / 2 ^ 8) % 256)) (sz + 1) (x % 256)))))] := hD
  exact hret () _ _ _ _ d_Line_addPair_21 (trivial) hP hD hS
set_option maxHeartbeats 4000000 in
set_option maxRecDepth 100000 in
theorem c_Scr_sumOf (pp : Nat) (n : Nat) (B : Nat → Nat) (f : Nat) (e9 : Nat) (h0 : f ≤ e9) (h1 : e9 ≤ n) (hn : n < 100000) (bB : ∀ j, B j < 256) : CI (S := Unit) l classes NW D (TYS cI cZ cL cV) y_Scr_sumOf (.code y_Scr_sumOf b_Scr_sumOf 5 (some .int) :: TB) { frames := 0, cells := 0, slots := 0, locals := 0 } [.ref pp, .int (nI f), .int (nI e9)] [(pp, .inl (cI, n, .inl (nF B)))] (fun r u => r = nI (sumF B f (e9 - f) % 65536)) (fun u => [(pp, .inl (cI, n, .inl (nF B)))]) := by
  refine CI.of (by decide) (Nat.le_of_ble_eq_true rfl) ?_
  intro pr ev sT mM aR bW mE cO AA QQ ls Bd hG hA hP hD hS hl hret
  have Bd : bd pr cO b_Scr_sumOf 5 sT aR TB "TileScreen" mM := Bd
  obtain ⟨hx, hb, hml, hown, htb⟩ := id Bd
  have hl : lv_has ls 5 [(0, .ref pp), (1, .int (nI f)), (2, .int (nI e9))] := hl
  refine lv_iconst (v := nI 0) hx hb d_Scr_sumOf_0 (by decide) ?_
  refine lv_istore_n (lv' := [(3, .int (nI 0)), (0, .ref pp), (1, .int (nI f)), (2, .int (nI e9))]) hx hb d_Scr_sumOf_1 rfl hl (by decide) rfl (fun ls hl => ?_)
  refine lv_iload_n hx hb d_Scr_sumOf_2 rfl (lv_at hl 2 rfl) ?_
  refine lv_istore (lv' := [(4, .int (nI f)), (3, .int (nI 0)), (0, .ref pp), (1, .int (nI f)), (2, .int (nI e9))]) hx hb d_Scr_sumOf_3 hl (by decide) rfl (fun ls hl => ?_)
  have lp_5 : ∀ (nn : Nat) (k : Nat) (hk0 : f ≤ k) (hk : k ≤ e9), e9 - k < nn → ∀ (H : Heap) (locs : List Loc) (ls : Array Slot), va_P D classes [(pp, .inl (cI, n, .inl (nF B)))] H → va_D AA [(pp, .inl (cI, n, .inl (nF B)))] → va_S AA sT.heap H locs → lv_has ls 5 [(4, .int (nI k)), (3, .int (nI (sumF B f (k - f)))), (0, .ref pp), (1, .int (nI f)), (2, .int (nI e9))] → W pr l ev ({ frames := 0, cells := 0, slots := 0, locals := 0 } : Room) sT mM aR bW mE cO H locs 0 0 QQ (F0 mM 5 ls []) := by
    intro nn
    induction nn with
    | zero => intro k hk0 hk hm; exact absurd hm (Nat.not_lt_zero _)
    | succ nn ih =>
      intro k hk0 hk hm H locs ls hP hD hS hl
      refine lv_iload hx hb d_Scr_sumOf_5 (lv_at hl 0 rfl) ?_
      refine lv_iload_n hx hb d_Scr_sumOf_7 rfl (lv_at hl 4 rfl) ?_
      refine nv_icmp_ge (tgt := 24) hx hb d_Scr_sumOf_8 (by decide) (by omega) (by omega) (fun c_8 => ?_) (fun c_8 => ?_)
      · refine lv_iload_n hx hb d_Scr_sumOf_24 rfl (lv_at hl 1 rfl) ?_
        have hse : k = e9 := by omega
        refine lv_ldc (v := nI 65536) hx hb hown (htb _ k_264) d_Scr_sumOf_25 ?_
        refine nv_irem hx hb (by have := sumF_le bB f (k - f); omega) (by omega) (by omega) d_Scr_sumOf_27 ?_
        exact hret _ () _ _ _ _ d_Scr_sumOf_28 rfl (by rw [hse]) hP hD hS
      · refine lv_iload_n hx hb d_Scr_sumOf_11 rfl (lv_at hl 1 rfl) ?_
        refine lv_aload_n hx hb d_Scr_sumOf_12 rfl (lv_at hl 2 rfl) ?_
        refine lv_iload hx hb d_Scr_sumOf_13 (lv_at hl 0 rfl) ?_
        refine nv_iald hx hb hG.1 hP 0 0 rfl rfl (by omega) (by omega) d_Scr_sumOf_15 ?_
        refine nv_iadd hx hb d_Scr_sumOf_16 ?_
        refine lv_istore_n (lv' := [(3, .int (nI ((sumF B f (k - f)) + (B k)))), (4, .int (nI k)), (0, .ref pp), (1, .int (nI f)), (2, .int (nI e9))]) hx hb d_Scr_sumOf_17 rfl hl (by decide) rfl (fun ls hl => ?_)
        refine lv_iinc (v := (nI (k + 1))) (lv' := [(4, .int (nI (k + 1))), (3, .int (nI ((sumF B f (k - f)) + (B k)))), (0, .ref pp), (1, .int (nI f)), (2, .int (nI e9))]) hx hb d_Scr_sumOf_18 hl (k := 1) rfl (nI_add k 1) (by decide) rfl (fun ls hl => ?_)
        refine lv_goto (tgt := 5) hx hb d_Scr_sumOf_21 (by decide) ?_
        rw [← sumF_s B hk0] at hl
        exact ih (k + 1) (by omega) (by omega) (by omega) _ _ _ hP hD hS (lv_sub hl [0, 1, 2, 3, 4] rfl)
  rw [show nI 0 = nI (sumF B f (f - f)) by rw [Nat.sub_self]; rfl] at hl
  exact lp_5 _ f (Nat.le_refl f) (h0) (Nat.lt_succ_self _) _ _ _ hP hD hS (lv_sub hl [0, 1, 2, 3, 4] rfl)
set_option maxHeartbeats 4000000 in
set_option maxRecDepth 100000 in
theorem c_Feed_isFit (a : Nat) (se : Nat) (sn : Nat) (ca : Nat) (li : Nat) (co : Nat) (lo : Nat) (tw : Int32) (en : Int32) (lp : Nat) (nc : Nat) (ru : Nat) (kd : Nat) (hk : kd < 7) (hc : nc ≤ 1000) : CI (S := Unit) l classes NW D (TYS cI cZ cL cV) y_Feed_isFit (.code y_Feed_isFit b_Feed_isFit 2 (some .boolean) :: TB) { frames := 0, cells := 0, slots := 0, locals := 0 } [.ref a, .int (nI kd)] [(a, .inr (5, [.ref se, .int (nI sn), .ref ca, .ref li, .ref co, .ref lo, .int tw, .int en])), (lo, .inr (4, [.ref lp, .int (nI nc), .int (nI ru)]))] (fun r u => r = nI ((fitC nc tw en kd).toNat)) (fun u => [(a, .inr (5, [.ref se, .int (nI sn), .ref ca, .ref li, .ref co, .ref lo, .int tw, .int en])), (lo, .inr (4, [.ref lp, .int (nI nc), .int (nI ru)]))]) := by
  refine CI.of (by decide) (Nat.le_of_ble_eq_true rfl) ?_
  intro pr ev sT mM aR bW mE cO AA QQ ls Bd hG hA hP hD hS hl hret
  have Bd : bd pr cO b_Feed_isFit 2 sT aR TB "TileScreen$Feed" mM := Bd
  obtain ⟨hx, hb, hml, hown, htb⟩ := id Bd
  have hl : lv_has ls 2 [(0, .ref a), (1, .int (nI kd))] := hl
  refine lv_iload_n hx hb d_Feed_isFit_0 rfl (lv_at hl 1 rfl) ?_
  rcases (show kd = 0 ∨ kd = 1 ∨ kd = 2 ∨ kd = 3 ∨ kd = 4 ∨ kd = 5 ∨ kd = 6 by omega) with rfl | rfl | rfl | rfl | rfl | rfl | rfl
  · refine lv_tableIn (off := 35) (tgt := 36) hx hb d_Feed_isFit_1 (by decide) (by decide) (by decide) (by decide) ?_
    refine lv_aload_n hx hb d_Feed_isFit_36 rfl (lv_at hl 0 rfl) ?_
    refine va_get (D := D) (ci := 5) (v := .ref lo) (C := "TileScreen$Feed") (T := F_Feed) (N := 8) hx hb htb i_Feed hown hG.1 hP 0 rfl rfl 5 (by decide) (htb _ k_130) (fun _ h9 => h9) rfl d_Feed_isFit_37 ?_
    refine va_getN (D := D) (ci := 4) (v := .int (nI nc)) (C := "TileScreen$Look") (T := F_Look) (N := 3) hx hb htb i_Look hown hG.1 hP 1 rfl rfl 1 (by decide) (va_Nw.use rfl (hG.2 _ k_106).2) (fun _ h9 => h9) rfl d_Feed_isFit_40 ?_
    refine lv_iconst (v := nI 1) hx hb d_Feed_isFit_43 (by decide) ?_
    refine nv_icmp_ne (tgt := 51) hx hb d_Feed_isFit_44 (by decide) (by omega) (by omega) (fun c_44 => ?_) (fun c_44 => ?_)
    · refine lv_iconst (v := nI 0) hx hb d_Feed_isFit_51 (by decide) ?_
      exact hret _ () _ _ _ _ d_Feed_isFit_52 (by first | rfl | decide) (by rw [show fitC nc tw en 0 = false from beq_false_of_ne c_44]; rfl) hP hD hS
    · refine lv_iconst (v := nI 1) hx hb d_Feed_isFit_47 (by decide) ?_
      refine lv_goto (tgt := 52) hx hb d_Feed_isFit_48 (by decide) ?_
      exact hret _ () _ _ _ _ d_Feed_isFit_52 (by first | rfl | decide) (by rw [show fitC nc tw en 0 = true from beq_iff_eq.mpr c_44]; rfl) hP hD hS
  · refine lv_tableIn (off := 52) (tgt := 53) hx hb d_Feed_isFit_1 (by decide) (by decide) (by decide) (by decide) ?_
    refine lv_aload_n hx hb d_Feed_isFit_53 rfl (lv_at hl 0 rfl) ?_
    refine va_get (D := D) (ci := 5) (v := .int tw) (C := "TileScreen$Feed") (T := F_Feed) (N := 8) hx hb htb i_Feed hown hG.1 hP 0 rfl rfl 6 (by decide) (htb _ k_131) (fun _ h9 => h9) rfl d_Feed_isFit_54 ?_
    refine lv_iconst (v := -1) hx hb d_Feed_isFit_57 (by decide) ?_
    refine lv_icmp_eq (tgt := 65) hx hb d_Feed_isFit_58 (by decide) (fun c_58 => ?_) (fun c_58 => ?_)
    · refine lv_iconst (v := nI 0) hx hb d_Feed_isFit_65 (by decide) ?_
      exact hret _ () _ _ _ _ d_Feed_isFit_66 (by first | rfl | decide) (by rw [c_58]; rfl) hP hD hS
    · refine lv_iconst (v := nI 1) hx hb d_Feed_isFit_61 (by decide) ?_
      refine lv_goto (tgt := 66) hx hb d_Feed_isFit_62 (by decide) ?_
      exact hret _ () _ _ _ _ d_Feed_isFit_66 (by first | rfl | decide) (by rw [show fitC nc tw en 1 = true from bne_iff_ne.mpr c_58]; rfl) hP hD hS
  · refine lv_tableIn (off := 66) (tgt := 67) hx hb d_Feed_isFit_1 (by decide) (by decide) (by decide) (by decide) ?_
    refine lv_aload_n hx hb d_Feed_isFit_67 rfl (lv_at hl 0 rfl) ?_
    refine va_get (D := D) (ci := 5) (v := .int en) (C := "TileScreen$Feed") (T := F_Feed) (N := 8) hx hb htb i_Feed hown hG.1 hP 0 rfl rfl 7 (by decide) (htb _ k_132) (fun _ h9 => h9) rfl d_Feed_isFit_68 ?_
    refine lv_iconst (v := -1) hx hb d_Feed_isFit_71 (by decide) ?_
    refine lv_icmp_eq (tgt := 79) hx hb d_Feed_isFit_72 (by decide) (fun c_72 => ?_) (fun c_72 => ?_)
    · refine lv_iconst (v := nI 0) hx hb d_Feed_isFit_79 (by decide) ?_
      exact hret _ () _ _ _ _ d_Feed_isFit_80 (by first | rfl | decide) (by rw [c_72]; rfl) hP hD hS
    · refine lv_iconst (v := nI 1) hx hb d_Feed_isFit_75 (by decide) ?_
      refine lv_goto (tgt := 80) hx hb d_Feed_isFit_76 (by decide) ?_
      exact hret _ () _ _ _ _ d_Feed_isFit_80 (by first | rfl | decide) (by rw [show fitC nc tw en 2 = true from bne_iff_ne.mpr c_72]; rfl) hP hD hS
  · refine lv_tableIn (off := 80) (tgt := 81) hx hb d_Feed_isFit_1 (by decide) (by decide) (by decide) (by decide) ?_
    refine lv_aload_n hx hb d_Feed_isFit_81 rfl (lv_at hl 0 rfl) ?_
    refine va_get (D := D) (ci := 5) (v := .ref lo) (C := "TileScreen$Feed") (T := F_Feed) (N := 8) hx hb htb i_Feed hown hG.1 hP 0 rfl rfl 5 (by decide) (htb _ k_130) (fun _ h9 => h9) rfl d_Feed_isFit_82 ?_
    refine va_getN (D := D) (ci := 4) (v := .int (nI nc)) (C := "TileScreen$Look") (T := F_Look) (N := 3) hx hb htb i_Look hown hG.1 hP 1 rfl rfl 1 (by decide) (va_Nw.use rfl (hG.2 _ k_106).2) (fun _ h9 => h9) rfl d_Feed_isFit_85 ?_
    refine lv_iconst (v := nI 2) hx hb d_Feed_isFit_88 (by decide) ?_
    refine nv_icmp_ne (tgt := 96) hx hb d_Feed_isFit_89 (by decide) (by omega) (by omega) (fun c_89 => ?_) (fun c_89 => ?_)
    · refine lv_iconst (v := nI 0) hx hb d_Feed_isFit_96 (by decide) ?_
      exact hret _ () _ _ _ _ d_Feed_isFit_97 (by first | rfl | decide) (by rw [show fitC nc tw en 3 = false from beq_false_of_ne c_89]; rfl) hP hD hS
    · refine lv_iconst (v := nI 1) hx hb d_Feed_isFit_92 (by decide) ?_
      refine lv_goto (tgt := 97) hx hb d_Feed_isFit_93 (by decide) ?_
      exact hret _ () _ _ _ _ d_Feed_isFit_97 (by first | rfl | decide) (by rw [show fitC nc tw en 3 = true from beq_iff_eq.mpr c_89]; rfl) hP hD hS
  · refine lv_tableIn (off := 97) (tgt := 98) hx hb d_Feed_isFit_1 (by decide) (by decide) (by decide) (by decide) ?_
    refine lv_aload_n hx hb d_Feed_isFit_98 rfl (lv_at hl 0 rfl) ?_
    refine va_get (D := D) (ci := 5) (v := .ref lo) (C := "TileScreen$Feed") (T := F_Feed) (N := 8) hx hb htb i_Feed hown hG.1 hP 0 rfl rfl 5 (by decide) (htb _ k_130) (fun _ h9 => h9) rfl d_Feed_isFit_99 ?_
    refine va_getN (D := D) (ci := 4) (v := .int (nI nc)) (C := "TileScreen$Look") (T := F_Look) (N := 3) hx hb htb i_Look hown hG.1 hP 1 rfl rfl 1 (by decide) (va_Nw.use rfl (hG.2 _ k_106).2) (fun _ h9 => h9) rfl d_Feed_isFit_102 ?_
    refine lv_iconst (v := nI 3) hx hb d_Feed_isFit_105 (by decide) ?_
    refine nv_icmp_lt (tgt := 124) hx hb d_Feed_isFit_106 (by decide) (by omega) (by omega) (fun c_106 => ?_) (fun c_106 => ?_)
    · refine lv_iconst (v := nI 0) hx hb d_Feed_isFit_124 (by decide) ?_
      exact hret _ () _ _ _ _ d_Feed_isFit_125 (by first | rfl | decide) (by rw [show fitC nc tw en 4 = false by simp only [fitC]; rw [beq_false_of_ne (show nc ≠ 3 by omega), beq_false_of_ne (show nc ≠ 4 by omega)]; rfl]; rfl) hP hD hS
    · refine lv_aload_n hx hb d_Feed_isFit_109 rfl (lv_at hl 0 rfl) ?_
      refine va_get (D := D) (ci := 5) (v := .ref lo) (C := "TileScreen$Feed") (T := F_Feed) (N := 8) hx hb htb i_Feed hown hG.1 hP 0 rfl rfl 5 (by decide) (htb _ k_130) (fun _ h9 => h9) rfl d_Feed_isFit_110 ?_
      refine va_getN (D := D) (ci := 4) (v := .int (nI nc)) (C := "TileScreen$Look") (T := F_Look) (N := 3) hx hb htb i_Look hown hG.1 hP 1 rfl rfl 1 (by decide) (va_Nw.use rfl (hG.2 _ k_106).2) (fun _ h9 => h9) rfl d_Feed_isFit_113 ?_
      refine lv_iconst (v := nI 4) hx hb d_Feed_isFit_116 (by decide) ?_
      refine nv_icmp_gt (tgt := 124) hx hb d_Feed_isFit_117 (by decide) (by omega) (by omega) (fun c_117 => ?_) (fun c_117 => ?_)
      · refine lv_iconst (v := nI 0) hx hb d_Feed_isFit_124 (by decide) ?_
        exact hret _ () _ _ _ _ d_Feed_isFit_125 (by first | rfl | decide) (by rw [show fitC nc tw en 4 = false by simp only [fitC]; rw [beq_false_of_ne (show nc ≠ 3 by omega), beq_false_of_ne (show nc ≠ 4 by omega)]; rfl]; rfl) hP hD hS
      · refine lv_iconst (v := nI 1) hx hb d_Feed_isFit_120 (by decide) ?_
        refine lv_goto (tgt := 125) hx hb d_Feed_isFit_121 (by decide) ?_
        exact hret _ () _ _ _ _ d_Feed_isFit_125 (by first | rfl | decide) (by rcases (show nc = 3 ∨ nc = 4 by omega) with rfl | rfl <;> rfl) hP hD hS
  · refine lv_tableOut (tgt := 126) hx hb d_Feed_isFit_1 (Or.inr (by decide)) (by decide) ?_
    refine lv_iconst (v := nI 1) hx hb d_Feed_isFit_126 (by decide) ?_
    exact hret _ () _ _ _ _ d_Feed_isFit_127 (by first | rfl | decide) (rfl) hP hD hS
  · refine lv_tableOut (tgt := 126) hx hb d_Feed_isFit_1 (Or.inr (by decide)) (by decide) ?_
    refine lv_iconst (v := nI 1) hx hb d_Feed_isFit_126 (by decide) ?_
    exact hret _ () _ _ _ _ d_Feed_isFit_127 (by first | rfl | decide) (rfl) hP hD hS
set_option maxHeartbeats 4000000 in
set_option maxRecDepth 100000 in
theorem c_Feed_lengthOf (a : Nat) (se : Nat) (sn : Nat) (ca : Nat) (li : Nat) (co : Nat) (lo : Nat) (tw : Int32) (en : Int32) (lp : Nat) (nc : Nat) (ru : Nat) (kd : Nat) (hk : kd < 7) : CI (S := Unit) l classes NW D (TYS cI cZ cL cV) y_Feed_lengthOf (.code y_Feed_lengthOf b_Feed_lengthOf 2 (some .int) :: TB) { frames := 0, cells := 0, slots := 0, locals := 0 } [.ref a, .int (nI kd)] [(a, .inr (5, [.ref se, .int (nI sn), .ref ca, .ref li, .ref co, .ref lo, .int tw, .int en])), (lo, .inr (4, [.ref lp, .int (nI nc), .int (nI ru)]))] (fun r u => r = nI (lenC nc ru kd)) (fun u => [(a, .inr (5, [.ref se, .int (nI sn), .ref ca, .ref li, .ref co, .ref lo, .int tw, .int en])), (lo, .inr (4, [.ref lp, .int (nI nc), .int (nI ru)]))]) := by
  refine CI.of (by decide) (Nat.le_of_ble_eq_true rfl) ?_
  intro pr ev sT mM aR bW mE cO AA QQ ls Bd hG hA hP hD hS hl hret
  have Bd : bd pr cO b_Feed_lengthOf 2 sT aR TB "TileScreen$Feed" mM := Bd
  obtain ⟨hx, hb, hml, hown, htb⟩ := id Bd
  have hl : lv_has ls 2 [(0, .ref a), (1, .int (nI kd))] := hl
  refine lv_iload_n hx hb d_Feed_lengthOf_0 rfl (lv_at hl 1 rfl) ?_
  rcases (show kd = 0 ∨ kd = 1 ∨ kd = 2 ∨ kd = 3 ∨ kd = 4 ∨ kd = 5 ∨ kd = 6 by omega) with rfl | rfl | rfl | rfl | rfl | rfl | rfl
  · refine lv_tableIn (off := 39) (tgt := 40) hx hb d_Feed_lengthOf_1 (by decide) (by decide) (by decide) (by decide) ?_
    refine lv_iconst (v := nI 2) hx hb d_Feed_lengthOf_40 (by decide) ?_
    exact hret _ () _ _ _ _ d_Feed_lengthOf_41 rfl (rfl) hP hD hS
  · refine lv_tableIn (off := 41) (tgt := 42) hx hb d_Feed_lengthOf_1 (by decide) (by decide) (by decide) (by decide) ?_
    refine lv_iconst (v := nI 1) hx hb d_Feed_lengthOf_42 (by decide) ?_
    exact hret _ () _ _ _ _ d_Feed_lengthOf_43 rfl (rfl) hP hD hS
  · refine lv_tableIn (off := 41) (tgt := 42) hx hb d_Feed_lengthOf_1 (by decide) (by decide) (by decide) (by decide) ?_
    refine lv_iconst (v := nI 1) hx hb d_Feed_lengthOf_42 (by decide) ?_
    exact hret _ () _ _ _ _ d_Feed_lengthOf_43 rfl (rfl) hP hD hS
  · refine lv_tableIn (off := 43) (tgt := 44) hx hb d_Feed_lengthOf_1 (by decide) (by decide) (by decide) (by decide) ?_
    refine lv_bipush (v := nI 12) hx hb d_Feed_lengthOf_44 (by decide) ?_
    exact hret _ () _ _ _ _ d_Feed_lengthOf_46 rfl (rfl) hP hD hS
  · refine lv_tableIn (off := 46) (tgt := 47) hx hb d_Feed_lengthOf_1 (by decide) (by decide) (by decide) (by decide) ?_
    refine lv_iconst (v := nI 1) hx hb d_Feed_lengthOf_47 (by decide) ?_
    refine lv_iconst (v := nI 2) hx hb d_Feed_lengthOf_48 (by decide) ?_
    refine lv_aload_n hx hb d_Feed_lengthOf_49 rfl (lv_at hl 0 rfl) ?_
    refine va_get (D := D) (ci := 5) (v := .ref lo) (C := "TileScreen$Feed") (T := F_Feed) (N := 8) hx hb htb i_Feed hown hG.1 hP 0 rfl rfl 5 (by decide) (htb _ k_130) (fun _ h9 => h9) rfl d_Feed_lengthOf_50 ?_
    refine va_getN (D := D) (ci := 4) (v := .int (nI nc)) (C := "TileScreen$Look") (T := F_Look) (N := 3) hx hb htb i_Look hown hG.1 hP 1 rfl rfl 1 (by decide) (va_Nw.use rfl (hG.2 _ k_106).2) (fun _ h9 => h9) rfl d_Feed_lengthOf_53 ?_
    refine nv_imul hx hb d_Feed_lengthOf_56 ?_
    refine nv_iadd hx hb d_Feed_lengthOf_57 ?_
    refine lv_bipush (v := nI 16) hx hb d_Feed_lengthOf_58 (by decide) ?_
    refine nv_iadd hx hb d_Feed_lengthOf_60 ?_
    exact hret _ () _ _ _ _ d_Feed_lengthOf_61 rfl (rfl) hP hD hS
  · refine lv_tableIn (off := 61) (tgt := 62) hx hb d_Feed_lengthOf_1 (by decide) (by decide) (by decide) (by decide) ?_
    refine lv_iconst (v := nI 1) hx hb d_Feed_lengthOf_62 (by decide) ?_
    refine lv_iconst (v := nI 3) hx hb d_Feed_lengthOf_63 (by decide) ?_
    refine lv_aload_n hx hb d_Feed_lengthOf_64 rfl (lv_at hl 0 rfl) ?_
    refine va_get (D := D) (ci := 5) (v := .ref lo) (C := "TileScreen$Feed") (T := F_Feed) (N := 8) hx hb htb i_Feed hown hG.1 hP 0 rfl rfl 5 (by decide) (htb _ k_130) (fun _ h9 => h9) rfl d_Feed_lengthOf_65 ?_
    refine va_getN (D := D) (ci := 4) (v := .int (nI ru)) (C := "TileScreen$Look") (T := F_Look) (N := 3) hx hb htb i_Look hown hG.1 hP 1 rfl rfl 2 (by decide) (va_Nw.use rfl (hG.2 _ k_108).2) (fun _ h9 => h9) rfl d_Feed_lengthOf_68 ?_
    refine nv_imul hx hb d_Feed_lengthOf_71 ?_
    refine nv_iadd hx hb d_Feed_lengthOf_72 ?_
    exact hret _ () _ _ _ _ d_Feed_lengthOf_73 rfl (rfl) hP hD hS
  · refine lv_tableOut (tgt := 74) hx hb d_Feed_lengthOf_1 (Or.inr (by decide)) (by decide) ?_
    refine lv_sipush (v := nI 128) hx hb d_Feed_lengthOf_74 (by decide) ?_
    exact hret _ () _ _ _ _ d_Feed_lengthOf_77 rfl (rfl) hP hD hS
set_option maxHeartbeats 4000000 in
set_option maxRecDepth 100000 in
theorem c_Feed_chooseKind (a : Nat) (se : Nat) (sn : Nat) (ca : Nat) (li : Nat) (co : Nat) (lo : Nat) (tw : Int32) (en : Int32) (lp : Nat) (nc : Nat) (ru : Nat) (hc : nc ≤ 1000) (hr9 : ru ≤ 1000) : CI (S := Nat) l classes NW D (TYS cI cZ cL cV) y_Feed_chooseKind (.code y_Feed_chooseKind b_Feed_chooseKind 3 (some .int) :: TB) { frames := 1, cells := 0, slots := 0, locals := 21 } [.ref a] [(a, .inr (5, [.ref se, .int (nI sn), .ref ca, .ref li, .ref co, .ref lo, .int tw, .int en])), (lo, .inr (4, [.ref lp, .int (nI nc), .int (nI ru)]))] (fun r u => r = nI u ∧ isBest (fitC nc tw en) (lenC nc ru) u) (fun u => [(a, .inr (5, [.ref se, .int (nI sn), .ref ca, .ref li, .ref co, .ref lo, .int tw, .int en])), (lo, .inr (4, [.ref lp, .int (nI nc), .int (nI ru)]))]) := by
  refine CI.of (by decide) (Nat.le_of_ble_eq_true rfl) ?_
  intro pr ev sT mM aR bW mE cO AA QQ ls Bd hG hA hP hD hS hl hret
  have Bd : bd pr cO b_Feed_chooseKind 3 sT aR TB "TileScreen$Feed" mM := Bd
  obtain ⟨hx, hb, hml, hown, htb⟩ := id Bd
  have hl : lv_has ls 3 [(0, .ref a)] := hl
  refine lv_bipush (v := nI 6) hx hb d_Feed_chooseKind_0 (by decide) ?_
  refine lv_istore_n (lv' := [(1, .int (nI 6)), (0, .ref a)]) hx hb d_Feed_chooseKind_2 rfl hl (by decide) rfl (fun ls hl => ?_)
  refine lv_bipush (v := nI 6) hx hb d_Feed_chooseKind_3 (by decide) ?_
  refine lv_istore_n (lv' := [(2, .int (nI 6)), (1, .int (nI 6)), (0, .ref a)]) hx hb d_Feed_chooseKind_5 rfl hl (by decide) rfl (fun ls hl => ?_)
  have lp_6 : ∀ (nn : Nat) (k9 : Nat) (z : Nat) (hb1 : z < 7) (hb2 : fitC nc tw en z = true) (hb3 : ∀ j, k9 ≤ j → j < 7 → fitC nc tw en j = true → lenC nc ru z < lenC nc ru j ∨ (lenC nc ru z = lenC nc ru j ∧ z ≤ j)) (hk9 : k9 ≤ 7) (hz : k9 ≤ z ∨ z = 6), k9 < nn → ∀ (H : Heap) (locs : List Loc) (ls : Array Slot), va_P D classes [(a, .inr (5, [.ref se, .int (nI sn), .ref ca, .ref li, .ref co, .ref lo, .int tw, .int en])), (lo, .inr (4, [.ref lp, .int (nI nc), .int (nI ru)]))] H → va_D AA [(a, .inr (5, [.ref se, .int (nI sn), .ref ca, .ref li, .ref co, .ref lo, .int tw, .int en])), (lo, .inr (4, [.ref lp, .int (nI nc), .int (nI ru)]))] → va_S AA sT.heap H locs → lv_has ls 3 [(2, .int (nI k9 + (-1))), (1, .int (nI z)), (0, .ref a)] → W pr l ev ({ frames := 1, cells := 0, slots := 0, locals := 21 } : Room) sT mM aR bW mE cO H locs 0 0 QQ (F0 mM 6 ls []) := by
    intro nn
    induction nn with
    | zero => intro k9 z hb1 hb2 hb3 hk9 hz hm; exact absurd hm (Nat.not_lt_zero _)
    | succ nn ih =>
      intro k9 z hb1 hb2 hb3 hk9 hz hm H locs ls hP hD hS hl
      refine lv_iload_n hx hb d_Feed_chooseKind_6 rfl (lv_at hl 0 rfl) ?_
      refine lv_if_lt (tgt := 39) hx hb d_Feed_chooseKind_7 (by decide) (fun c_7 => ?_) (fun c_7 => ?_)
      · refine lv_iload_n hx hb d_Feed_chooseKind_39 rfl (lv_at hl 1 rfl) ?_
        exact hret _ z _ _ _ _ d_Feed_chooseKind_40 rfl (⟨rfl, hb1, hb2, fun j h7 hf => hb3 j (by rw [show k9 = 0 by rcases Nat.eq_zero_or_pos k9 with q | q; exact q; (obtain ⟨k, rfl⟩ : ∃ k, k9 = k + 1 := ⟨k9 - 1, by omega⟩); rw [pk_m1] at c_7; exact absurd c_7 (nI_pos (by omega))]; exact Nat.zero_le j) h7 hf⟩) hP hD hS
      · obtain ⟨k, rfl⟩ : ∃ k, k9 = k + 1 := ⟨k9 - 1, by rcases Nat.eq_zero_or_pos k9 with q | q; (rw [q] at c_7; exact absurd (by decide) c_7); omega⟩
        rw [pk_m1] at hl
        refine lv_aload_n hx hb d_Feed_chooseKind_10 rfl (lv_at hl 2 rfl) ?_
        refine lv_iload_n hx hb d_Feed_chooseKind_11 rfl (lv_at hl 0 rfl) ?_
        refine kV_i (wc := [(a, .inr (5, [.ref se, .int (nI sn), .ref ca, .ref li, .ref co, .ref lo, .int tw, .int en])), (lo, .inr (4, [.ref lp, .int (nI nc), .int (nI ru)]))]) (wr := []) (w2 := fun _ => [(a, .inr (5, [.ref se, .int (nI sn), .ref ca, .ref li, .ref co, .ref lo, .int tw, .int en])), (lo, .inr (4, [.ref lp, .int (nI nc), .int (nI ru)]))]) [.int (nI k)] [] Bd ⟨gi_app (gi_c0 k_383 (gi_c0 k_385 (gi_c0 s_3 (gi_c0 k_4 gi_nil)))) (gi_tb0 k_386), rfl, by decide, by decide⟩ (show (parseMethodDescriptor "(I)Z").map (fun d => d.parameters.length) = some 1 by decide +kernel) (c_Feed_isFit a se sn ca li co lo tw en lp nc ru k (by omega) (by omega)) (by decide +kernel) ⟨Nat.le_of_ble_eq_true rfl, Nat.le_of_ble_eq_true rfl⟩ hG hP hD hS hA [0, 1] [] [0, 1] (by decide) rfl rfl (fun _ => rfl) (q0 := 0) rfl rfl rfl hl.1 rfl (Nat.le_of_ble_eq_true rfl) d_Feed_chooseKind_12 (fun r2 u4 H locs hp3 hP hD hS => ?_)
        have hP : va_P D classes [(a, .inr (5, [.ref se, .int (nI sn), .ref ca, .ref li, .ref co, .ref lo, .int tw, .int en])), (lo, .inr (4, [.ref lp, .int (nI nc), .int (nI ru)]))] H := hP
        have hD : va_D AA [(a, .inr (5, [.ref se, .int (nI sn), .ref ca, .ref li, .ref co, .ref lo, .int tw, .int en])), (lo, .inr (4, [.ref lp, .int (nI nc), .int (nI ru)]))] := hD
        subst hp3
        refine nv_if_eq (tgt := 33) hx hb d_Feed_chooseKind_15 (by decide) (bt_lt _) (fun c_15 => ?_) (fun c_15 => ?_)
        · refine lv_iinc (v := ((nI k) + (-1))) (lv' := [(2, .int ((nI k) + (-1))), (1, .int (nI z)), (0, .ref a)]) hx hb d_Feed_chooseKind_33 hl (k := 0) rfl (rfl) (by decide) rfl (fun ls hl => ?_)
          refine lv_goto (tgt := 6) hx hb d_Feed_chooseKind_36 (by decide) ?_
          exact ih k z (by omega) (hb2) (fun j hj h7 hf => (show j = k ∨ k + 1 ≤ j by omega).elim (fun q => by rw [q, bt0 c_15] at hf; exact absurd hf (by decide)) (fun q => hb3 j q h7 hf)) (by omega) (by omega) (by omega) _ _ _ hP hD hS (lv_sub hl [0, 1, 2] rfl)
        · refine lv_aload_n hx hb d_Feed_chooseKind_18 rfl (lv_at hl 2 rfl) ?_
          refine lv_iload_n hx hb d_Feed_chooseKind_19 rfl (lv_at hl 0 rfl) ?_
          refine kV_i (wc := [(a, .inr (5, [.ref se, .int (nI sn), .ref ca, .ref li, .ref co, .ref lo, .int tw, .int en])), (lo, .inr (4, [.ref lp, .int (nI nc), .int (nI ru)]))]) (wr := []) (w2 := fun _ => [(a, .inr (5, [.ref se, .int (nI sn), .ref ca, .ref li, .ref co, .ref lo, .int tw, .int en])), (lo, .inr (4, [.ref lp, .int (nI nc), .int (nI ru)]))]) [.int (nI k)] [] Bd ⟨gi_app (gi_c0 k_387 (gi_c0 k_389 (gi_c0 s_4 (gi_c0 k_4 gi_nil)))) (gi_tb0 k_390), rfl, by decide, by decide⟩ (show (parseMethodDescriptor "(I)I").map (fun d => d.parameters.length) = some 1 by decide +kernel) (c_Feed_lengthOf a se sn ca li co lo tw en lp nc ru k (by omega)) (by decide +kernel) ⟨Nat.le_of_ble_eq_true rfl, Nat.le_of_ble_eq_true rfl⟩ hG hP hD hS hA [0, 1] [] [0, 1] (by decide) rfl rfl (fun _ => rfl) (q0 := 0) rfl rfl rfl hl.1 rfl (Nat.le_of_ble_eq_true rfl) d_Feed_chooseKind_20 (fun r5 u7 H locs hp6 hP hD hS => ?_)
          have hP : va_P D classes [(a, .inr (5, [.ref se, .int (nI sn), .ref ca, .ref li, .ref co, .ref lo, .int tw, .int en])), (lo, .inr (4, [.ref lp, .int (nI nc), .int (nI ru)]))] H := hP
          have hD : va_D AA [(a, .inr (5, [.ref se, .int (nI sn), .ref ca, .ref li, .ref co, .ref lo, .int tw, .int en])), (lo, .inr (4, [.ref lp, .int (nI nc), .int (nI ru)]))] := hD
          subst hp6
          refine lv_aload_n hx hb d_Feed_chooseKind_23 rfl (lv_at hl 2 rfl) ?_
          refine lv_iload_n hx hb d_Feed_chooseKind_24 rfl (lv_at hl 1 rfl) ?_
          refine kV_i (wc := [(a, .inr (5, [.ref se, .int (nI sn), .ref ca, .ref li, .ref co, .ref lo, .int tw, .int en])), (lo, .inr (4, [.ref lp, .int (nI nc), .int (nI ru)]))]) (wr := []) (w2 := fun _ => [(a, .inr (5, [.ref se, .int (nI sn), .ref ca, .ref li, .ref co, .ref lo, .int tw, .int en])), (lo, .inr (4, [.ref lp, .int (nI nc), .int (nI ru)]))]) [.int (nI z)] [.int (nI (lenC nc ru k))] Bd ⟨gi_app (gi_c0 k_387 (gi_c0 k_389 (gi_c0 s_4 (gi_c0 k_4 gi_nil)))) (gi_tb0 k_390), rfl, by decide, by decide⟩ (show (parseMethodDescriptor "(I)I").map (fun d => d.parameters.length) = some 1 by decide +kernel) (c_Feed_lengthOf a se sn ca li co lo tw en lp nc ru z (by omega)) (by decide +kernel) ⟨Nat.le_of_ble_eq_true rfl, Nat.le_of_ble_eq_true rfl⟩ hG hP hD hS hA [0, 1] [] [0, 1] (by decide) rfl rfl (fun _ => rfl) (q0 := 0) rfl rfl rfl hl.1 rfl (Nat.le_of_ble_eq_true rfl) d_Feed_chooseKind_25 (fun r8 u10 H locs hp9 hP hD hS => ?_)
          have hP : va_P D classes [(a, .inr (5, [.ref se, .int (nI sn), .ref ca, .ref li, .ref co, .ref lo, .int tw, .int en])), (lo, .inr (4, [.ref lp, .int (nI nc), .int (nI ru)]))] H := hP
          have hD : va_D AA [(a, .inr (5, [.ref se, .int (nI sn), .ref ca, .ref li, .ref co, .ref lo, .int tw, .int en])), (lo, .inr (4, [.ref lp, .int (nI nc), .int (nI ru)]))] := hD
          subst hp9
          refine nv_icmp_gt (tgt := 33) hx hb d_Feed_chooseKind_28 (by decide) (ln_lt hc hr9) (ln_lt hc hr9) (fun c_28 => ?_) (fun c_28 => ?_)
          · refine lv_iinc (v := ((nI k) + (-1))) (lv' := [(2, .int ((nI k) + (-1))), (1, .int (nI z)), (0, .ref a)]) hx hb d_Feed_chooseKind_33 hl (k := 0) rfl (rfl) (by decide) rfl (fun ls hl => ?_)
            refine lv_goto (tgt := 6) hx hb d_Feed_chooseKind_36 (by decide) ?_
            exact ih k z (by omega) (hb2) (fun j hj h7 hf => (show j = k ∨ k + 1 ≤ j by omega).elim (fun q => by rw [q]; exact Or.inl c_28) (fun q => hb3 j q h7 hf)) (by omega) (by omega) (by omega) _ _ _ hP hD hS (lv_sub hl [0, 1, 2] rfl)
          · refine lv_iload_n hx hb d_Feed_chooseKind_31 rfl (lv_at hl 0 rfl) ?_
            refine lv_istore_n (lv' := [(1, .int (nI k)), (2, .int (nI k)), (0, .ref a)]) hx hb d_Feed_chooseKind_32 rfl hl (by decide) rfl (fun ls hl => ?_)
            refine lv_iinc (v := ((nI k) + (-1))) (lv' := [(2, .int ((nI k) + (-1))), (1, .int (nI k)), (0, .ref a)]) hx hb d_Feed_chooseKind_33 hl (k := 1) rfl (rfl) (by decide) rfl (fun ls hl => ?_)
            refine lv_goto (tgt := 6) hx hb d_Feed_chooseKind_36 (by decide) ?_
            exact ih k k (by omega) (bt1 c_15) (fun j hj h7 hf => (show j = k ∨ k + 1 ≤ j by omega).elim (fun q => by rw [q]; exact Or.inr ⟨rfl, Nat.le_refl _⟩) (fun q => by have := hb3 j q h7 hf; omega)) (by omega) (by omega) (by omega) _ _ _ hP hD hS (lv_sub hl [0, 1, 2] rfl)
  exact lp_6 _ 7 6 (by decide) (rfl) (fun j h1 h2 _ => absurd h1 (by omega)) (by decide) (Or.inr rfl) (Nat.lt_succ_self _) _ _ _ hP hD hS (lv_sub hl [0, 1, 2] rfl)
end
end
section
section
variable {l : Launch} {D : va_G} {cI cZ cL cV : ClassId}
theorem wr_run {B : Nat → Nat} {i s ru n x k r : Nat} {M : List Nat} (hn : n + 1 = k + 1 - r) (h : s = i + (ru :: M).length) : up (up (up (wr B i (ru :: M)) s (n + 1)) (s + 1) (x / 256 % 256)) (s + 1 + 1) (x % 256) = wr B i (ru :: (M ++ (k + 1 - r) :: p2 x)) := by
  rw [wr_snoc' h, wr_p2' (by rw [List.length_append, h]; rfl), ← hn, List.append_assoc]
  rfl
set_option maxHeartbeats 4000000 in
set_option maxRecDepth 100000 in
theorem c_Feed_addPalette (a : Nat) (se : Nat) (sn : Nat) (ca : Nat) (li : Nat) (co : Nat) (lo : Nat) (tw : Int32) (en : Int32) (lb : Nat) (sz : Nat) (B : Nat → Nat) (lp : Nat) (nc : Nat) (ru : Nat) (P : Nat → Nat) (hc : nc ≤ 4) (hcap : sz + 2 * nc ≤ 6247) (bP : ∀ j, P j < 65536) : CV (S := Unit) l classes NW D (TYS cI cZ cL cV) y_Feed_addPalette (.code y_Feed_addPalette b_Feed_addPalette 2 none :: TB) { frames := 2, cells := 0, slots := 0, locals := 42 } [.ref a] [(a, .inr (5, [.ref se, .int (nI sn), .ref ca, .ref li, .ref co, .ref lo, .int tw, .int en])), (li, .inr (2, [.ref lb, .int (nI 0), .int (nI sz)])), (lb, .inl (cI, 6247, .inl (nF B))), (lo, .inr (4, [.ref lp, .int (nI nc), .int (nI ru)])), (lp, .inl (cI, 4, .inl (nF P)))] (fun u => True) (fun u => [(a, .inr (5, [.ref se, .int (nI sn), .ref ca, .ref li, .ref co, .ref lo, .int tw, .int en])), (li, .inr (2, [.ref lb, .int (nI 0), .int (nI (sz + 2 * nc))])), (lb, .inl (cI, 6247, .inl (nF (wr B sz (rawL P nc))))), (lo, .inr (4, [.ref lp, .int (nI nc), .int (nI ru)])), (lp, .inl (cI, 4, .inl (nF P)))]) := by
  refine CV.of (by decide) (Nat.le_of_ble_eq_true rfl) ?_
  intro pr ev sT mM aR bW mE cO AA QQ ls Bd hG hA hP hD hS hl hnm hret
  have Bd : bd pr cO b_Feed_addPalette 2 sT aR TB "TileScreen$Feed" mM := Bd
  obtain ⟨hx, hb, hml, hown, htb⟩ := id Bd
  have hl : lv_has ls 2 [(0, .ref a)] := hl
  refine lv_iconst (v := nI 0) hx hb d_Feed_addPalette_0 (by decide) ?_
  refine lv_istore_n (lv' := [(1, .int (nI 0)), (0, .ref a)]) hx hb d_Feed_addPalette_1 rfl hl (by decide) rfl (fun ls hl => ?_)
  have lp_2 : ∀ (nn : Nat) (k : Nat) (s1 : Nat) (B1 : Nat → Nat) (hk : k ≤ nc) (hs : s1 = sz + 2 * k) (hB : B1 = wr B sz (rawL P k)), nc - k < nn → ∀ (H : Heap) (locs : List Loc) (ls : Array Slot), va_P D classes [(a, .inr (5, [.ref se, .int (nI sn), .ref ca, .ref li, .ref co, .ref lo, .int tw, .int en])), (li, .inr (2, [.ref lb, .int (nI 0), .int (nI s1)])), (lb, .inl (cI, 6247, .inl (nF B1))), (lo, .inr (4, [.ref lp, .int (nI nc), .int (nI ru)])), (lp, .inl (cI, 4, .inl (nF P)))] H → va_D AA [(a, .inr (5, [.ref se, .int (nI sn), .ref ca, .ref li, .ref co, .ref lo, .int tw, .int en])), (li, .inr (2, [.ref lb, .int (nI 0), .int (nI s1)])), (lb, .inl (cI, 6247, .inl (nF B1))), (lo, .inr (4, [.ref lp, .int (nI nc), .int (nI ru)])), (lp, .inl (cI, 4, .inl (nF P)))] → va_S AA sT.heap H locs → lv_has ls 2 [(1, .int (nI k)), (0, .ref a)] → W pr l ev ({ frames := 2, cells := 0, slots := 0, locals := 42 } : Room) sT mM aR bW mE cO H locs 0 0 QQ (F0 mM 2 ls []) := by
    intro nn
    induction nn with
    | zero => intro k s1 B1 hk hs hB hm; exact absurd hm (Nat.not_lt_zero _)
    | succ nn ih =>
      intro k s1 B1 hk hs hB hm H locs ls hP hD hS hl
      refine lv_iload_n hx hb d_Feed_addPalette_2 rfl (lv_at hl 0 rfl) ?_
      refine lv_aload_n hx hb d_Feed_addPalette_3 rfl (lv_at hl 1 rfl) ?_
      refine va_get (D := D) (ci := 5) (v := .ref lo) (C := "TileScreen$Feed") (T := F_Feed) (N := 8) hx hb htb i_Feed hown hG.1 hP 0 rfl rfl 5 (by decide) (htb _ k_130) (fun _ h9 => h9) rfl d_Feed_addPalette_4 ?_
      refine va_getN (D := D) (ci := 4) (v := .int (nI nc)) (C := "TileScreen$Look") (T := F_Look) (N := 3) hx hb htb i_Look hown hG.1 hP 3 rfl rfl 1 (by decide) (va_Nw.use rfl (hG.2 _ k_106).2) (fun _ h9 => h9) rfl d_Feed_addPalette_7 ?_
      refine nv_icmp_ge (tgt := 40) hx hb d_Feed_addPalette_10 (by decide) (by omega) (by omega) (fun c_10 => ?_) (fun c_10 => ?_)
      · obtain rfl : k = nc := by omega
        subst hs
        subst hB
        exact hret () _ _ _ _ d_Feed_addPalette_40 (trivial) hP hD hS
      · refine lv_iload_n hx hb d_Feed_addPalette_13 rfl (lv_at hl 0 rfl) ?_
        refine lv_iconst (v := nI 4) hx hb d_Feed_addPalette_14 (by decide) ?_
        refine nv_icmp_ge (tgt := 40) hx hb d_Feed_addPalette_15 (by decide) (by omega) (by omega) (fun c_15 => ?_) (fun c_15 => ?_)
        · omega
        · refine lv_aload_n hx hb d_Feed_addPalette_18 rfl (lv_at hl 1 rfl) ?_
          refine va_get (D := D) (ci := 5) (v := .ref li) (C := "TileScreen$Feed") (T := F_Feed) (N := 8) hx hb htb i_Feed hown hG.1 hP 0 rfl rfl 3 (by decide) (htb _ k_125) (fun _ h9 => h9) rfl d_Feed_addPalette_19 ?_
          refine lv_aload_n hx hb d_Feed_addPalette_22 rfl (lv_at hl 1 rfl) ?_
          refine va_get (D := D) (ci := 5) (v := .ref lo) (C := "TileScreen$Feed") (T := F_Feed) (N := 8) hx hb htb i_Feed hown hG.1 hP 0 rfl rfl 5 (by decide) (htb _ k_130) (fun _ h9 => h9) rfl d_Feed_addPalette_23 ?_
          refine va_getN (D := D) (ci := 4) (v := .ref lp) (C := "TileScreen$Look") (T := F_Look) (N := 3) hx hb htb i_Look hown hG.1 hP 3 rfl rfl 0 (by decide) (va_Nw.use rfl (hG.2 _ k_104).2) (fun _ h9 => h9) rfl d_Feed_addPalette_26 ?_
          refine lv_iload_n hx hb d_Feed_addPalette_29 rfl (lv_at hl 0 rfl) ?_
          refine nv_iald hx hb hG.1 hP 4 0 rfl rfl (by omega) (by omega) d_Feed_addPalette_30 ?_
          refine kV_v (wc := [(li, .inr (2, [.ref lb, .int (nI 0), .int (nI s1)])), (lb, .inl (cI, 6247, .inl (nF B1)))]) (wr := [(a, .inr (5, [.ref se, .int (nI sn), .ref ca, .ref li, .ref co, .ref lo, .int tw, .int en])), (lo, .inr (4, [.ref lp, .int (nI nc), .int (nI ru)])), (lp, .inl (cI, 4, .inl (nF P)))]) (w2 := fun _ => [(a, .inr (5, [.ref se, .int (nI sn), .ref ca, .ref li, .ref co, .ref lo, .int tw, .int en])), (li, .inr (2, [.ref lb, .int (nI 0), .int (nI (s1 + 2))])), (lb, .inl (cI, 6247, .inl (nF (up (up B1 s1 ((P k) / 256 % 256)) (s1 + 1) ((P k) % 256))))), (lo, .inr (4, [.ref lp, .int (nI nc), .int (nI ru)])), (lp, .inl (cI, 4, .inl (nF P)))]) [.int (nI (P k))] [] Bd ⟨gi_app (gi_c0 k_348 (gi_c0 k_349 (gi_c0 k_350 (gi_c0 k_6 gi_nil)))) (gi_tb0 k_351), rfl, by decide, by decide⟩ (show (parseMethodDescriptor "(I)V").map (fun d => d.parameters.length) = some 1 by decide +kernel) (c_Line_addPair0 li lb s1 B1 (P k) (by omega) (Nat.lt_trans (bP k) (by decide))) (by decide +kernel) ⟨Nat.le_of_ble_eq_true rfl, Nat.le_of_ble_eq_true rfl⟩ hG hP hD hS hA [1, 2] [0, 3, 4] [0, 3, 4, 1, 2] (by decide) rfl rfl (fun _ => rfl) (q0 := 0) rfl rfl rfl hl.1 rfl (Nat.le_of_ble_eq_true rfl) d_Feed_addPalette_31 (fun u3 H locs hp2 hP hD hS => ?_)
          have hP : va_P D classes [(a, .inr (5, [.ref se, .int (nI sn), .ref ca, .ref li, .ref co, .ref lo, .int tw, .int en])), (li, .inr (2, [.ref lb, .int (nI 0), .int (nI (s1 + 2))])), (lb, .inl (cI, 6247, .inl (nF (up (up B1 s1 ((P k) / 256 % 256)) (s1 + 1) ((P k) % 256))))), (lo, .inr (4, [.ref lp, .int (nI nc), .int (nI ru)])), (lp, .inl (cI, 4, .inl (nF P)))] H := hP
          have hD : va_D AA [(a, .inr (5, [.ref se, .int (nI sn), .ref ca, .ref li, .ref co, .ref lo, .int tw, .int en])), (li, .inr (2, [.ref lb, .int (nI 0), .int (nI (s1 + 2))])), (lb, .inl (cI, 6247, .inl (nF (up (up B1 s1 ((P k) / 256 % 256)) (s1 + 1) ((P k) % 256))))), (lo, .inr (4, [.ref lp, .int (nI nc), .int (nI ru)])), (lp, .inl (cI, 4, .inl (nF P)))] := hD
          refine lv_iinc (v := (nI (k + 1))) (lv' := [(1, .int (nI (k + 1))), (0, .ref a)]) hx hb d_Feed_addPalette_34 hl (k := 0) rfl (nI_add k 1) (by decide) rfl (fun ls hl => ?_)
          refine lv_goto (tgt := 2) hx hb d_Feed_addPalette_37 (by decide) ?_
          exact ih (k + 1) (s1 + 2) (up (up B1 s1 ((P k) / 256 % 256)) (s1 + 1) ((P k) % 256)) (by omega) (by omega) (by rw [hB]; exact wr_p2' (by rw [rawL_len]; exact hs)) (by omega) _ _ _ hP hD hS (lv_sub hl [0, 1] rfl)
  exact lp_2 _ 0 sz B (Nat.zero_le _) (rfl) ((wr_nil B sz).symm) (Nat.lt_succ_self _) _ _ _ hP hD hS (lv_sub hl [0, 1] rfl)
set_option maxHeartbeats 4000000 in
set_option maxRecDepth 100000 in
theorem c_Feed_addBits (a : Nat) (se : Nat) (sn : Nat) (ca : Nat) (li : Nat) (co : Nat) (lo : Nat) (tw : Int32) (en : Int32) (lb : Nat) (sz : Nat) (B : Nat → Nat) (lp : Nat) (nc : Nat) (ru : Nat) (P : Nat → Nat) (b : Nat) (cnt : Nat) (qq : Nat) (F : Nat → Nat) (t : Nat) (w : Nat) (hw : w = 1 ∨ w = 2) (hc : nc ≤ 2 ^ w) (hc4 : nc ≤ 4) (hin : ∀ k, k < 64 → ∃ i, i < nc ∧ P i = F (t * 64 + k)) (hcap : sz + 16 ≤ 6247) (ht : t < 48) (bP : ∀ j, P j < 65536) (bF : ∀ j, F j < 65536) : CV (S := Unit) l classes NW D (TYS cI cZ cL cV) y_Feed_addBits (.code y_Feed_addBits b_Feed_addBits 7 none :: TB) { frames := 1, cells := 0, slots := 0, locals := 22 } [.ref a, .ref b, .int (nI t), .int (nI w)] [(a, .inr (5, [.ref se, .int (nI sn), .ref ca, .ref li, .ref co, .ref lo, .int tw, .int en])), (li, .inr (2, [.ref lb, .int (nI 0), .int (nI sz)])), (lb, .inl (cI, 6247, .inl (nF B))), (lo, .inr (4, [.ref lp, .int (nI nc), .int (nI ru)])), (lp, .inl (cI, 4, .inl (nF P))), (b, .inr (0, [.int (nI cnt), .ref qq])), (qq, .inl (cI, 3072, .inl (nF F)))] (fun u => True) (fun u => [(a, .inr (5, [.ref se, .int (nI sn), .ref ca, .ref li, .ref co, .ref lo, .int tw, .int en])), (li, .inr (2, [.ref lb, .int (nI 0), .int (nI (sz + (bL (fun k => numOf P nc (F (t * 64 + k))) w 64).length))])), (lb, .inl (cI, 6247, .inl (nF (wr B sz (bL (fun k => numOf P nc (F (t * 64 + k))) w 64))))), (lo, .inr (4, [.ref lp, .int (nI nc), .int (nI ru)])), (lp, .inl (cI, 4, .inl (nF P))), (b, .inr (0, [.int (nI cnt), .ref qq])), (qq, .inl (cI, 3072, .inl (nF F)))]) := by
  refine CV.of (by decide) (Nat.le_of_ble_eq_true rfl) ?_
  intro pr ev sT mM aR bW mE cO AA QQ ls Bd hG hA hP hD hS hl hnm hret
  have Bd : bd pr cO b_Feed_addBits 7 sT aR TB "TileScreen$Feed" mM := Bd
  obtain ⟨hx, hb, hml, hown, htb⟩ := id Bd
  have hl : lv_has ls 7 [(0, .ref a), (1, .ref b), (2, .int (nI t)), (3, .int (nI w))] := hl
  have hf : ∀ j, j < 64 → (fun k => numOf P nc (F (t * 64 + k))) j < 2 ^ w := fun j hj => by obtain ⟨i9, hi9, he9⟩ := hin j hj; exact Nat.lt_of_lt_of_le (numOf_lt hi9 he9) hc
  refine lv_iconst (v := nI 0) hx hb d_Feed_addBits_0 (by decide) ?_
  refine lv_istore (lv' := [(4, .int (nI 0)), (0, .ref a), (1, .ref b), (2, .int (nI t)), (3, .int (nI w))]) hx hb d_Feed_addBits_1 hl (by decide) rfl (fun ls hl => ?_)
  refine lv_iconst (v := nI 0) hx hb d_Feed_addBits_3 (by decide) ?_
  refine lv_istore (lv' := [(5, .int (nI 0)), (4, .int (nI 0)), (0, .ref a), (1, .ref b), (2, .int (nI t)), (3, .int (nI w))]) hx hb d_Feed_addBits_4 hl (by decide) rfl (fun ls hl => ?_)
  refine lv_iconst (v := nI 0) hx hb d_Feed_addBits_6 (by decide) ?_
  refine lv_istore (lv' := [(6, .int (nI 0)), (5, .int (nI 0)), (4, .int (nI 0)), (0, .ref a), (1, .ref b), (2, .int (nI t)), (3, .int (nI w))]) hx hb d_Feed_addBits_7 hl (by decide) rfl (fun ls hl => ?_)
  have lp_9 : ∀ (nn : Nat) (k : Nat) (s1 : Nat) (B1 : Nat → Nat) (b1 : Nat) (e1 : Nat) (hk : k ≤ 64) (hs : s1 = sz + (bL (fun k => numOf P nc (F (t * 64 + k))) w k).length) (hB : B1 = wr B sz (bL (fun k => numOf P nc (F (t * 64 + k))) w k)) (hb1 : b1 = bacc (fun k => numOf P nc (F (t * 64 + k))) w k) (he : e1 = k * w % 8), 64 - k < nn → ∀ (H : Heap) (locs : List Loc) (ls : Array Slot), va_P D classes [(a, .inr (5, [.ref se, .int (nI sn), .ref ca, .ref li, .ref co, .ref lo, .int tw, .int en])), (li, .inr (2, [.ref lb, .int (nI 0), .int (nI s1)])), (lb, .inl (cI, 6247, .inl (nF B1))), (lo, .inr (4, [.ref lp, .int (nI nc), .int (nI ru)])), (lp, .inl (cI, 4, .inl (nF P))), (b, .inr (0, [.int (nI cnt), .ref qq])), (qq, .inl (cI, 3072, .inl (nF F)))] H → va_D AA [(a, .inr (5, [.ref se, .int (nI sn), .ref ca, .ref li, .ref co, .ref lo, .int tw, .int en])), (li, .inr (2, [.ref lb, .int (nI 0), .int (nI s1)])), (lb, .inl (cI, 6247, .inl (nF B1))), (lo, .inr (4, [.ref lp, .int (nI nc), .int (nI ru)])), (lp, .inl (cI, 4, .inl (nF P))), (b, .inr (0, [.int (nI cnt), .ref qq])), (qq, .inl (cI, 3072, .inl (nF F)))] → va_S AA sT.heap H locs → lv_has ls 7 [(6, .int (nI k)), (5, .int (nI e1)), (4, .int (nI b1)), (0, .ref a), (1, .ref b), (2, .int (nI t)), (3, .int (nI w))] → W pr l ev ({ frames := 1, cells := 0, slots := 0, locals := 22 } : Room) sT mM aR bW mE cO H locs 0 0 QQ (F0 mM 9 ls []) := by
    intro nn
    induction nn with
    | zero => intro k s1 B1 b1 e1 hk hs hB hb1 he hm; exact absurd hm (Nat.not_lt_zero _)
    | succ nn ih =>
      intro k s1 B1 b1 e1 hk hs hB hb1 he hm H locs ls hP hD hS hl
      have hlen := bL_len (f := (fun k => numOf P nc (F (t * 64 + k)))) hw k
      have hk16 : k * w / 8 ≤ 16 := by rcases hw with rfl | rfl <;> omega
      have hk15 : k < 64 → k * w / 8 < 16 := by intro _; rcases hw with rfl | rfl <;> omega
      refine lv_iload hx hb d_Feed_addBits_9 (lv_at hl 0 rfl) ?_
      refine lv_bipush (v := nI 64) hx hb d_Feed_addBits_11 (by decide) ?_
      refine nv_icmp_ge (tgt := 71) hx hb d_Feed_addBits_13 (by decide) (by omega) (by omega) (fun c_13 => ?_) (fun c_13 => ?_)
      · obtain rfl : k = 64 := by omega
        subst hs
        subst hB
        exact hret () _ _ _ _ d_Feed_addBits_71 (trivial) hP hD hS
      · refine lv_iload hx hb d_Feed_addBits_16 (lv_at hl 2 rfl) ?_
        refine lv_iload_n hx hb d_Feed_addBits_18 rfl (lv_at hl 6 rfl) ?_
        refine nv_ishl hx hb (by omega) (by have h128 := bacc_128 hw hf k (by omega); rcases hw with rfl | rfl <;> omega) d_Feed_addBits_19 ?_
        refine lv_aload_n hx hb d_Feed_addBits_20 rfl (lv_at hl 3 rfl) ?_
        refine va_get (D := D) (ci := 5) (v := .ref lo) (C := "TileScreen$Feed") (T := F_Feed) (N := 8) hx hb htb i_Feed hown hG.1 hP 0 rfl rfl 5 (by decide) (htb _ k_130) (fun _ h9 => h9) rfl d_Feed_addBits_21 ?_
        refine lv_aload_n hx hb d_Feed_addBits_24 rfl (lv_at hl 4 rfl) ?_
        refine lv_iload_n hx hb d_Feed_addBits_25 rfl (lv_at hl 5 rfl) ?_
        refine lv_iload hx hb d_Feed_addBits_26 (lv_at hl 0 rfl) ?_
        refine kV_i (wc := [(b, .inr (0, [.int (nI cnt), .ref qq])), (qq, .inl (cI, 3072, .inl (nF F)))]) (wr := [(a, .inr (5, [.ref se, .int (nI sn), .ref ca, .ref li, .ref co, .ref lo, .int tw, .int en])), (li, .inr (2, [.ref lb, .int (nI 0), .int (nI s1)])), (lb, .inl (cI, 6247, .inl (nF B1))), (lo, .inr (4, [.ref lp, .int (nI nc), .int (nI ru)])), (lp, .inl (cI, 4, .inl (nF P)))]) (w2 := fun _ => [(a, .inr (5, [.ref se, .int (nI sn), .ref ca, .ref li, .ref co, .ref lo, .int tw, .int en])), (li, .inr (2, [.ref lb, .int (nI 0), .int (nI s1)])), (lb, .inl (cI, 6247, .inl (nF B1))), (lo, .inr (4, [.ref lp, .int (nI nc), .int (nI ru)])), (lp, .inl (cI, 4, .inl (nF P))), (b, .inr (0, [.int (nI cnt), .ref qq])), (qq, .inl (cI, 3072, .inl (nF F)))]) [.int (nI t), .int (nI k)] [.ref lo, .int (nI (b1 * 2 ^ w))] Bd ⟨gi_app (gi_c0 k_403 (gi_c0 k_290 (gi_c0 k_291 (gi_c0 k_2 gi_nil)))) (gi_tb0 k_292), rfl, by decide, by decide⟩ (show (parseMethodDescriptor "(II)I").map (fun d => d.parameters.length) = some 2 by decide +kernel) (c_Tiles_get b qq cnt 3072 F t k (by omega) (by omega)) (by decide +kernel) ⟨Nat.le_of_ble_eq_true rfl, Nat.le_of_ble_eq_true rfl⟩ hG hP hD hS hA [5, 6] [0, 1, 2, 3, 4] [0, 1, 2, 3, 4, 5, 6] (by decide) rfl rfl (fun _ => rfl) (q0 := 0) rfl rfl rfl hl.1 rfl (Nat.le_of_ble_eq_true rfl) d_Feed_addBits_28 (fun r2 u4 H locs hp3 hP hD hS => ?_)
        have hP : va_P D classes [(a, .inr (5, [.ref se, .int (nI sn), .ref ca, .ref li, .ref co, .ref lo, .int tw, .int en])), (li, .inr (2, [.ref lb, .int (nI 0), .int (nI s1)])), (lb, .inl (cI, 6247, .inl (nF B1))), (lo, .inr (4, [.ref lp, .int (nI nc), .int (nI ru)])), (lp, .inl (cI, 4, .inl (nF P))), (b, .inr (0, [.int (nI cnt), .ref qq])), (qq, .inl (cI, 3072, .inl (nF F)))] H := hP
        have hD : va_D AA [(a, .inr (5, [.ref se, .int (nI sn), .ref ca, .ref li, .ref co, .ref lo, .int tw, .int en])), (li, .inr (2, [.ref lb, .int (nI 0), .int (nI s1)])), (lb, .inl (cI, 6247, .inl (nF B1))), (lo, .inr (4, [.ref lp, .int (nI nc), .int (nI ru)])), (lp, .inl (cI, 4, .inl (nF P))), (b, .inr (0, [.int (nI cnt), .ref qq])), (qq, .inl (cI, 3072, .inl (nF F)))] := hD
        subst hp3
        refine kV_i (wc := [(lo, .inr (4, [.ref lp, .int (nI nc), .int (nI ru)])), (lp, .inl (cI, 4, .inl (nF P)))]) (wr := [(a, .inr (5, [.ref se, .int (nI sn), .ref ca, .ref li, .ref co, .ref lo, .int tw, .int en])), (li, .inr (2, [.ref lb, .int (nI 0), .int (nI s1)])), (lb, .inl (cI, 6247, .inl (nF B1))), (b, .inr (0, [.int (nI cnt), .ref qq])), (qq, .inl (cI, 3072, .inl (nF F)))]) (w2 := fun _ => [(a, .inr (5, [.ref se, .int (nI sn), .ref ca, .ref li, .ref co, .ref lo, .int tw, .int en])), (li, .inr (2, [.ref lb, .int (nI 0), .int (nI s1)])), (lb, .inl (cI, 6247, .inl (nF B1))), (lo, .inr (4, [.ref lp, .int (nI nc), .int (nI ru)])), (lp, .inl (cI, 4, .inl (nF P))), (b, .inr (0, [.int (nI cnt), .ref qq])), (qq, .inl (cI, 3072, .inl (nF F)))]) [.int (nI (F (t * 64 + k)))] [.int (nI (b1 * 2 ^ w))] Bd ⟨gi_app (gi_c0 k_404 (gi_c0 k_371 (gi_c0 k_372 (gi_c0 k_7 gi_nil)))) (gi_tb0 k_373), rfl, by decide, by decide⟩ (show (parseMethodDescriptor "(I)I").map (fun d => d.parameters.length) = some 1 by decide +kernel) (c_Look_indexOf lo lp nc ru P (F (t * 64 + k)) (bP) (bF _) (by omega)) (by decide +kernel) ⟨Nat.le_of_ble_eq_true rfl, Nat.le_of_ble_eq_true rfl⟩ hG hP hD hS hA [3, 4] [0, 1, 2, 5, 6] [0, 1, 2, 5, 6, 3, 4] (by decide) rfl rfl (fun _ => rfl) (q0 := 0) rfl rfl rfl hl.1 rfl (Nat.le_of_ble_eq_true rfl) d_Feed_addBits_31 (fun r5 u7 H locs hp6 hP hD hS => ?_)
        have hP : va_P D classes [(a, .inr (5, [.ref se, .int (nI sn), .ref ca, .ref li, .ref co, .ref lo, .int tw, .int en])), (li, .inr (2, [.ref lb, .int (nI 0), .int (nI s1)])), (lb, .inl (cI, 6247, .inl (nF B1))), (lo, .inr (4, [.ref lp, .int (nI nc), .int (nI ru)])), (lp, .inl (cI, 4, .inl (nF P))), (b, .inr (0, [.int (nI cnt), .ref qq])), (qq, .inl (cI, 3072, .inl (nF F)))] H := hP
        have hD : va_D AA [(a, .inr (5, [.ref se, .int (nI sn), .ref ca, .ref li, .ref co, .ref lo, .int tw, .int en])), (li, .inr (2, [.ref lb, .int (nI 0), .int (nI s1)])), (lb, .inl (cI, 6247, .inl (nF B1))), (lo, .inr (4, [.ref lp, .int (nI nc), .int (nI ru)])), (lp, .inl (cI, 4, .inl (nF P))), (b, .inr (0, [.int (nI cnt), .ref qq])), (qq, .inl (cI, 3072, .inl (nF F)))] := hD
        obtain rfl : r5 = nI (numOf P nc (F (t * 64 + k))) := by
          obtain ⟨i9, hi9, he9⟩ := hin k (by omega)
          rcases hp6 with ⟨_, g2⟩ | ⟨i8, g1, g2, g3, g4⟩
          · have := g2 i9 (by omega); simp [he9] at this
          · rw [g2, numOf_is (by omega) (eq_of_beq g3) (fun j hj e => by have := g4 j hj; simp [e] at this)]
        refine nv_ior (r := bacc (fun k => numOf P nc (F (t * 64 + k))) w k * 2 ^ w + numOf P nc (F (t * 64 + k))) hx hb (by rw [hb1]; exact or_add (hf k (by omega))) d_Feed_addBits_34 ?_
        refine lv_istore (lv' := [(4, .int (nI (bacc (fun k => numOf P nc (F (t * 64 + k))) w k * 2 ^ w + numOf P nc (F (t * 64 + k))))), (6, .int (nI k)), (5, .int (nI e1)), (0, .ref a), (1, .ref b), (2, .int (nI t)), (3, .int (nI w))]) hx hb d_Feed_addBits_35 hl (by decide) rfl (fun ls hl => ?_)
        refine lv_iload hx hb d_Feed_addBits_37 (lv_at hl 2 rfl) ?_
        refine lv_iload_n hx hb d_Feed_addBits_39 rfl (lv_at hl 6 rfl) ?_
        refine nv_iadd hx hb d_Feed_addBits_40 ?_
        refine lv_istore (lv' := [(5, .int (nI (e1 + w))), (4, .int (nI (bacc (fun k => numOf P nc (F (t * 64 + k))) w k * 2 ^ w + numOf P nc (F (t * 64 + k))))), (6, .int (nI k)), (0, .ref a), (1, .ref b), (2, .int (nI t)), (3, .int (nI w))]) hx hb d_Feed_addBits_41 hl (by decide) rfl (fun ls hl => ?_)
        refine lv_iload hx hb d_Feed_addBits_43 (lv_at hl 0 rfl) ?_
        refine lv_bipush (v := nI 8) hx hb d_Feed_addBits_45 (by decide) ?_
        refine nv_icmp_ne (tgt := 65) hx hb d_Feed_addBits_47 (by decide) (by rcases hw with rfl | rfl <;> omega) (by omega) (fun c_47 => ?_) (fun c_47 => ?_)
        · refine lv_iinc (v := (nI (k + 1))) (lv' := [(6, .int (nI (k + 1))), (5, .int (nI (e1 + w))), (4, .int (nI (bacc (fun k => numOf P nc (F (t * 64 + k))) w k * 2 ^ w + numOf P nc (F (t * 64 + k))))), (0, .ref a), (1, .ref b), (2, .int (nI t)), (3, .int (nI w))]) hx hb d_Feed_addBits_65 hl (k := 2) rfl (nI_add k 1) (by decide) rfl (fun ls hl => ?_)
          refine lv_goto (tgt := 9) hx hb d_Feed_addBits_68 (by decide) ?_
          have c9 : k * w % 8 + w ≠ 8 := by rw [← he]; exact c_47
          have h9 : ¬ (k + 1) * w % 8 = 0 := by rw [held_n hw c9]; rcases hw with rfl | rfl <;> omega
          exact ih (k + 1) s1 B1 (bacc (fun k => numOf P nc (F (t * 64 + k))) w k * 2 ^ w + numOf P nc (F (t * 64 + k))) (e1 + w) (by omega) (by rw [bL_f h9, hs]) (by rw [bL_f h9, hB]) (by rw [bacc_f h9]) (by rw [held_n hw c9, he]) (by omega) _ _ _ hP hD hS (lv_sub hl [0, 1, 2, 3, 4, 5, 6] rfl)
        · refine lv_aload_n hx hb d_Feed_addBits_50 rfl (lv_at hl 3 rfl) ?_
          refine va_get (D := D) (ci := 5) (v := .ref li) (C := "TileScreen$Feed") (T := F_Feed) (N := 8) hx hb htb i_Feed hown hG.1 hP 0 rfl rfl 3 (by decide) (htb _ k_125) (fun _ h9 => h9) rfl d_Feed_addBits_51 ?_
          refine lv_iload hx hb d_Feed_addBits_54 (lv_at hl 1 rfl) ?_
          refine kV_v (wc := [(li, .inr (2, [.ref lb, .int (nI 0), .int (nI s1)])), (lb, .inl (cI, 6247, .inl (nF B1)))]) (wr := [(a, .inr (5, [.ref se, .int (nI sn), .ref ca, .ref li, .ref co, .ref lo, .int tw, .int en])), (lo, .inr (4, [.ref lp, .int (nI nc), .int (nI ru)])), (lp, .inl (cI, 4, .inl (nF P))), (b, .inr (0, [.int (nI cnt), .ref qq])), (qq, .inl (cI, 3072, .inl (nF F)))]) (w2 := fun _ => [(a, .inr (5, [.ref se, .int (nI sn), .ref ca, .ref li, .ref co, .ref lo, .int tw, .int en])), (li, .inr (2, [.ref lb, .int (nI 0), .int (nI (s1 + 1))])), (lb, .inl (cI, 6247, .inl (nF (up B1 s1 (bacc (fun k => numOf P nc (F (t * 64 + k))) w k * 2 ^ w + numOf P nc (F (t * 64 + k))))))), (lo, .inr (4, [.ref lp, .int (nI nc), .int (nI ru)])), (lp, .inl (cI, 4, .inl (nF P))), (b, .inr (0, [.int (nI cnt), .ref qq])), (qq, .inl (cI, 3072, .inl (nF F)))]) [.int (nI (bacc (fun k => numOf P nc (F (t * 64 + k))) w k * 2 ^ w + numOf P nc (F (t * 64 + k))))] [] Bd ⟨gi_app (gi_c0 k_344 (gi_c0 k_345 (gi_c0 k_346 (gi_c0 k_6 gi_nil)))) (gi_tb0 k_347), rfl, by decide, by decide⟩ (show (parseMethodDescriptor "(I)V").map (fun d => d.parameters.length) = some 1 by decide +kernel) (c_Line_add0 li lb s1 B1 (bacc (fun k => numOf P nc (F (t * 64 + k))) w k * 2 ^ w + numOf P nc (F (t * 64 + k))) (by omega)) (by decide +kernel) ⟨Nat.le_of_ble_eq_true rfl, Nat.le_of_ble_eq_true rfl⟩ hG hP hD hS hA [1, 2] [0, 3, 4, 5, 6] [0, 5, 6, 1, 2, 3, 4] (by decide) rfl rfl (fun _ => rfl) (q0 := 0) rfl rfl rfl hl.1 rfl (Nat.le_of_ble_eq_true rfl) d_Feed_addBits_56 (fun u9 H locs hp8 hP hD hS => ?_)
          have hP : va_P D classes [(a, .inr (5, [.ref se, .int (nI sn), .ref ca, .ref li, .ref co, .ref lo, .int tw, .int en])), (li, .inr (2, [.ref lb, .int (nI 0), .int (nI (s1 + 1))])), (lb, .inl (cI, 6247, .inl (nF (up B1 s1 (bacc (fun k => numOf P nc (F (t * 64 + k))) w k * 2 ^ w + numOf P nc (F (t * 64 + k))))))), (lo, .inr (4, [.ref lp, .int (nI nc), .int (nI ru)])), (lp, .inl (cI, 4, .inl (nF P))), (b, .inr (0, [.int (nI cnt), .ref qq])), (qq, .inl (cI, 3072, .inl (nF F)))] H := hP
          have hD : va_D AA [(a, .inr (5, [.ref se, .int (nI sn), .ref ca, .ref li, .ref co, .ref lo, .int tw, .int en])), (li, .inr (2, [.ref lb, .int (nI 0), .int (nI (s1 + 1))])), (lb, .inl (cI, 6247, .inl (nF (up B1 s1 (bacc (fun k => numOf P nc (F (t * 64 + k))) w k * 2 ^ w + numOf P nc (F (t * 64 + k))))))), (lo, .inr (4, [.ref lp, .int (nI nc), .int (nI ru)])), (lp, .inl (cI, 4, .inl (nF P))), (b, .inr (0, [.int (nI cnt), .ref qq])), (qq, .inl (cI, 3072, .inl (nF F)))] := hD
          refine lv_iconst (v := nI 0) hx hb d_Feed_addBits_59 (by decide) ?_
          refine lv_istore (lv' := [(4, .int (nI 0)), (5, .int (nI (e1 + w))), (6, .int (nI k)), (0, .ref a), (1, .ref b), (2, .int (nI t)), (3, .int (nI w))]) hx hb d_Feed_addBits_60 hl (by decide) rfl (fun ls hl => ?_)
          refine lv_iconst (v := nI 0) hx hb d_Feed_addBits_62 (by decide) ?_
          refine lv_istore (lv' := [(5, .int (nI 0)), (4, .int (nI 0)), (6, .int (nI k)), (0, .ref a), (1, .ref b), (2, .int (nI t)), (3, .int (nI w))]) hx hb d_Feed_addBits_63 hl (by decide) rfl (fun ls hl => ?_)
          refine lv_iinc (v := (nI (k + 1))) (lv' := [(6, .int (nI (k + 1))), (5, .int (nI 0)), (4, .int (nI 0)), (0, .ref a), (1, .ref b), (2, .int (nI t)), (3, .int (nI w))]) hx hb d_Feed_addBits_65 hl (k := 2) rfl (nI_add k 1) (by decide) rfl (fun ls hl => ?_)
          refine lv_goto (tgt := 9) hx hb d_Feed_addBits_68 (by decide) ?_
          have c9 : k * w % 8 + w = 8 := by rw [← he]; exact c_47
          exact ih (k + 1) (s1 + 1) (up B1 s1 (bacc (fun k => numOf P nc (F (t * 64 + k))) w k * 2 ^ w + numOf P nc (F (t * 64 + k)))) 0 0 (by omega) (by rw [bL_t (held_8 hw c9), List.length_append, hs]; rfl) (by rw [hB, bL_t (held_8 hw c9)]; exact wr_snoc' hs) ((bacc_t (held_8 hw c9)).symm) ((held_8 hw c9).symm) (by omega) _ _ _ hP hD hS (lv_sub hl [0, 1, 2, 3, 4, 5, 6] rfl)
  exact lp_9 _ 0 sz B 0 0 (Nat.zero_le _) (rfl) ((wr_nil B sz).symm) (rfl) (by omega) (Nat.lt_succ_self _) _ _ _ hP hD hS (lv_sub hl [0, 1, 2, 3, 4, 5, 6] rfl)
set_option maxHeartbeats 4000000 in
set_option maxRecDepth 100000 in
theorem c_Feed_addRaw (a : Nat) (se : Nat) (sn : Nat) (ca : Nat) (li : Nat) (co : Nat) (lo : Nat) (tw : Int32) (en : Int32) (lb : Nat) (sz : Nat) (B : Nat → Nat) (b : Nat) (cnt : Nat) (qq : Nat) (F : Nat → Nat) (t : Nat) (hcap : sz + 128 ≤ 6247) (ht : t < 48) (bF : ∀ j, F j < 65536) : CV (S := Unit) l classes NW D (TYS cI cZ cL cV) y_Feed_addRaw (.code y_Feed_addRaw b_Feed_addRaw 4 none :: TB) { frames := 2, cells := 0, slots := 0, locals := 42 } [.ref a, .ref b, .int (nI t)] [(a, .inr (5, [.ref se, .int (nI sn), .ref ca, .ref li, .ref co, .ref lo, .int tw, .int en])), (li, .inr (2, [.ref lb, .int (nI 0), .int (nI sz)])), (lb, .inl (cI, 6247, .inl (nF B))), (b, .inr (0, [.int (nI cnt), .ref qq])), (qq, .inl (cI, 3072, .inl (nF F)))] (fun u => True) (fun u => [(a, .inr (5, [.ref se, .int (nI sn), .ref ca, .ref li, .ref co, .ref lo, .int tw, .int en])), (li, .inr (2, [.ref lb, .int (nI 0), .int (nI (sz + 128))])), (lb, .inl (cI, 6247, .inl (nF (wr B sz (rawL (fun j => F (t * 64 + j)) 64))))), (b, .inr (0, [.int (nI cnt), .ref qq])), (qq, .inl (cI, 3072, .inl (nF F)))]) := by
  refine CV.of (by decide) (Nat.le_of_ble_eq_true rfl) ?_
  intro pr ev sT mM aR bW mE cO AA QQ ls Bd hG hA hP hD hS hl hnm hret
  have Bd : bd pr cO b_Feed_addRaw 4 sT aR TB "TileScreen$Feed" mM := Bd
  obtain ⟨hx, hb, hml, hown, htb⟩ := id Bd
  have hl : lv_has ls 4 [(0, .ref a), (1, .ref b), (2, .int (nI t))] := hl
  refine lv_iconst (v := nI 0) hx hb d_Feed_addRaw_0 (by decide) ?_
  refine lv_istore_n (lv' := [(3, .int (nI 0)), (0, .ref a), (1, .ref b), (2, .int (nI t))]) hx hb d_Feed_addRaw_1 rfl hl (by decide) rfl (fun ls hl => ?_)
  have lp_2 : ∀ (nn : Nat) (k : Nat) (s1 : Nat) (B1 : Nat → Nat) (hk : k ≤ 64) (hs : s1 = sz + 2 * k) (hB : B1 = wr B sz (rawL (fun j => F (t * 64 + j)) k)), 64 - k < nn → ∀ (H : Heap) (locs : List Loc) (ls : Array Slot), va_P D classes [(a, .inr (5, [.ref se, .int (nI sn), .ref ca, .ref li, .ref co, .ref lo, .int tw, .int en])), (li, .inr (2, [.ref lb, .int (nI 0), .int (nI s1)])), (lb, .inl (cI, 6247, .inl (nF B1))), (b, .inr (0, [.int (nI cnt), .ref qq])), (qq, .inl (cI, 3072, .inl (nF F)))] H → va_D AA [(a, .inr (5, [.ref se, .int (nI sn), .ref ca, .ref li, .ref co, .ref lo, .int tw, .int en])), (li, .inr (2, [.ref lb, .int (nI 0), .int (nI s1)])), (lb, .inl (cI, 6247, .inl (nF B1))), (b, .inr (0, [.int (nI cnt), .ref qq])), (qq, .inl (cI, 3072, .inl (nF F)))] → va_S AA sT.heap H locs → lv_has ls 4 [(3, .int (nI k)), (0, .ref a), (1, .ref b), (2, .int (nI t))] → W pr l ev ({ frames := 2, cells := 0, slots := 0, locals := 42 } : Room) sT mM aR bW mE cO H locs 0 0 QQ (F0 mM 2 ls []) := by
    intro nn
    induction nn with
    | zero => intro k s1 B1 hk hs hB hm; exact absurd hm (Nat.not_lt_zero _)
    | succ nn ih =>
      intro k s1 B1 hk hs hB hm H locs ls hP hD hS hl
      refine lv_iload_n hx hb d_Feed_addRaw_2 rfl (lv_at hl 0 rfl) ?_
      refine lv_bipush (v := nI 64) hx hb d_Feed_addRaw_3 (by decide) ?_
      refine nv_icmp_ge (tgt := 27) hx hb d_Feed_addRaw_5 (by decide) (by omega) (by omega) (fun c_5 => ?_) (fun c_5 => ?_)
      · obtain rfl : k = 64 := by omega
        subst hs
        subst hB
        exact hret () _ _ _ _ d_Feed_addRaw_27 (trivial) hP hD hS
      · refine lv_aload_n hx hb d_Feed_addRaw_8 rfl (lv_at hl 1 rfl) ?_
        refine va_get (D := D) (ci := 5) (v := .ref li) (C := "TileScreen$Feed") (T := F_Feed) (N := 8) hx hb htb i_Feed hown hG.1 hP 0 rfl rfl 3 (by decide) (htb _ k_125) (fun _ h9 => h9) rfl d_Feed_addRaw_9 ?_
        refine lv_aload_n hx hb d_Feed_addRaw_12 rfl (lv_at hl 2 rfl) ?_
        refine lv_iload_n hx hb d_Feed_addRaw_13 rfl (lv_at hl 3 rfl) ?_
        refine lv_iload_n hx hb d_Feed_addRaw_14 rfl (lv_at hl 0 rfl) ?_
        refine kV_i (wc := [(b, .inr (0, [.int (nI cnt), .ref qq])), (qq, .inl (cI, 3072, .inl (nF F)))]) (wr := [(a, .inr (5, [.ref se, .int (nI sn), .ref ca, .ref li, .ref co, .ref lo, .int tw, .int en])), (li, .inr (2, [.ref lb, .int (nI 0), .int (nI s1)])), (lb, .inl (cI, 6247, .inl (nF B1)))]) (w2 := fun _ => [(a, .inr (5, [.ref se, .int (nI sn), .ref ca, .ref li, .ref co, .ref lo, .int tw, .int en])), (li, .inr (2, [.ref lb, .int (nI 0), .int (nI s1)])), (lb, .inl (cI, 6247, .inl (nF B1))), (b, .inr (0, [.int (nI cnt), .ref qq])), (qq, .inl (cI, 3072, .inl (nF F)))]) [.int (nI t), .int (nI k)] [.ref li] Bd ⟨gi_app (gi_c0 k_403 (gi_c0 k_290 (gi_c0 k_291 (gi_c0 k_2 gi_nil)))) (gi_tb0 k_292), rfl, by decide, by decide⟩ (show (parseMethodDescriptor "(II)I").map (fun d => d.parameters.length) = some 2 by decide +kernel) (c_Tiles_get b qq cnt 3072 F t k (by omega) (by omega)) (by decide +kernel) ⟨Nat.le_of_ble_eq_true rfl, Nat.le_of_ble_eq_true rfl⟩ hG hP hD hS hA [3, 4] [0, 1, 2] [0, 1, 2, 3, 4] (by decide) rfl rfl (fun _ => rfl) (q0 := 0) rfl rfl rfl hl.1 rfl (Nat.le_of_ble_eq_true rfl) d_Feed_addRaw_15 (fun r2 u4 H locs hp3 hP hD hS => ?_)
        have hP : va_P D classes [(a, .inr (5, [.ref se, .int (nI sn), .ref ca, .ref li, .ref co, .ref lo, .int tw, .int en])), (li, .inr (2, [.ref lb, .int (nI 0), .int (nI s1)])), (lb, .inl (cI, 6247, .inl (nF B1))), (b, .inr (0, [.int (nI cnt), .ref qq])), (qq, .inl (cI, 3072, .inl (nF F)))] H := hP
        have hD : va_D AA [(a, .inr (5, [.ref se, .int (nI sn), .ref ca, .ref li, .ref co, .ref lo, .int tw, .int en])), (li, .inr (2, [.ref lb, .int (nI 0), .int (nI s1)])), (lb, .inl (cI, 6247, .inl (nF B1))), (b, .inr (0, [.int (nI cnt), .ref qq])), (qq, .inl (cI, 3072, .inl (nF F)))] := hD
        subst hp3
        refine kV_v (wc := [(li, .inr (2, [.ref lb, .int (nI 0), .int (nI s1)])), (lb, .inl (cI, 6247, .inl (nF B1)))]) (wr := [(a, .inr (5, [.ref se, .int (nI sn), .ref ca, .ref li, .ref co, .ref lo, .int tw, .int en])), (b, .inr (0, [.int (nI cnt), .ref qq])), (qq, .inl (cI, 3072, .inl (nF F)))]) (w2 := fun _ => [(a, .inr (5, [.ref se, .int (nI sn), .ref ca, .ref li, .ref co, .ref lo, .int tw, .int en])), (li, .inr (2, [.ref lb, .int (nI 0), .int (nI (s1 + 2))])), (lb, .inl (cI, 6247, .inl (nF (up (up B1 s1 ((F (t * 64 + k)) / 256 % 256)) (s1 + 1) ((F (t * 64 + k)) % 256))))), (b, .inr (0, [.int (nI cnt), .ref qq])), (qq, .inl (cI, 3072, .inl (nF F)))]) [.int (nI (F (t * 64 + k)))] [] Bd ⟨gi_app (gi_c0 k_348 (gi_c0 k_349 (gi_c0 k_350 (gi_c0 k_6 gi_nil)))) (gi_tb0 k_351), rfl, by decide, by decide⟩ (show (parseMethodDescriptor "(I)V").map (fun d => d.parameters.length) = some 1 by decide +kernel) (c_Line_addPair0 li lb s1 B1 (F (t * 64 + k)) (by omega) (Nat.lt_trans (bF _) (by decide))) (by decide +kernel) ⟨Nat.le_of_ble_eq_true rfl, Nat.le_of_ble_eq_true rfl⟩ hG hP hD hS hA [1, 2] [0, 3, 4] [0, 3, 4, 1, 2] (by decide) rfl rfl (fun _ => rfl) (q0 := 0) rfl rfl rfl hl.1 rfl (Nat.le_of_ble_eq_true rfl) d_Feed_addRaw_18 (fun u6 H locs hp5 hP hD hS => ?_)
        have hP : va_P D classes [(a, .inr (5, [.ref se, .int (nI sn), .ref ca, .ref li, .ref co, .ref lo, .int tw, .int en])), (li, .inr (2, [.ref lb, .int (nI 0), .int (nI (s1 + 2))])), (lb, .inl (cI, 6247, .inl (nF (up (up B1 s1 ((F (t * 64 + k)) / 256 % 256)) (s1 + 1) ((F (t * 64 + k)) % 256))))), (b, .inr (0, [.int (nI cnt), .ref qq])), (qq, .inl (cI, 3072, .inl (nF F)))] H := hP
        have hD : va_D AA [(a, .inr (5, [.ref se, .int (nI sn), .ref ca, .ref li, .ref co, .ref lo, .int tw, .int en])), (li, .inr (2, [.ref lb, .int (nI 0), .int (nI (s1 + 2))])), (lb, .inl (cI, 6247, .inl (nF (up (up B1 s1 ((F (t * 64 + k)) / 256 % 256)) (s1 + 1) ((F (t * 64 + k)) % 256))))), (b, .inr (0, [.int (nI cnt), .ref qq])), (qq, .inl (cI, 3072, .inl (nF F)))] := hD
        refine lv_iinc (v := (nI (k + 1))) (lv' := [(3, .int (nI (k + 1))), (0, .ref a), (1, .ref b), (2, .int (nI t))]) hx hb d_Feed_addRaw_21 hl (k := 0) rfl (nI_add k 1) (by decide) rfl (fun ls hl => ?_)
        refine lv_goto (tgt := 2) hx hb d_Feed_addRaw_24 (by decide) ?_
        exact ih (k + 1) (s1 + 2) (up (up B1 s1 ((F (t * 64 + k)) / 256 % 256)) (s1 + 1) ((F (t * 64 + k)) % 256)) (by omega) (by omega) (by rw [hB]; exact wr_p2' (by rw [rawL_len]; exact hs)) (by omega) _ _ _ hP hD hS (lv_sub hl [0, 1, 2, 3] rfl)
  exact lp_2 _ 0 sz B (Nat.zero_le _) (rfl) ((wr_nil B sz).symm) (Nat.lt_succ_self _) _ _ _ hP hD hS (lv_sub hl [0, 1, 2, 3] rfl)
set_option maxHeartbeats 4000000 in
set_option maxRecDepth 100000 in
theorem c_Feed_addRuns (a : Nat) (se : Nat) (sn : Nat) (ca : Nat) (li : Nat) (co : Nat) (lo : Nat) (tw : Int32) (en : Int32) (lb : Nat) (sz : Nat) (B : Nat → Nat) (lp : Nat) (nc : Nat) (ru : Nat) (P : Nat → Nat) (b : Nat) (cnt : Nat) (qq : Nat) (F : Nat → Nat) (t : Nat) (hru : ru = runsN (fun j => F (t * 64 + j)) 64) (hcap : sz + 1 + 3 * ru ≤ 6247) (ht : t < 48) (bF : ∀ j, F j < 65536) : CV (S := Unit) l classes NW D (TYS cI cZ cL cV) y_Feed_addRuns (.code y_Feed_addRuns b_Feed_addRuns 6 none :: TB) { frames := 2, cells := 0, slots := 0, locals := 42 } [.ref a, .ref b, .int (nI t)] [(a, .inr (5, [.ref se, .int (nI sn), .ref ca, .ref li, .ref co, .ref lo, .int tw, .int en])), (li, .inr (2, [.ref lb, .int (nI 0), .int (nI sz)])), (lb, .inl (cI, 6247, .inl (nF B))), (lo, .inr (4, [.ref lp, .int (nI nc), .int (nI ru)])), (lp, .inl (cI, 4, .inl (nF P))), (b, .inr (0, [.int (nI cnt), .ref qq])), (qq, .inl (cI, 3072, .inl (nF F)))] (fun u => True) (fun u => [(a, .inr (5, [.ref se, .int (nI sn), .ref ca, .ref li, .ref co, .ref lo, .int tw, .int en])), (li, .inr (2, [.ref lb, .int (nI 0), .int (nI (sz + 1 + (runL (fun j => F (t * 64 + j)) 64).length))])), (lb, .inl (cI, 6247, .inl (nF (wr B sz (ru :: runL (fun j => F (t * 64 + j)) 64))))), (lo, .inr (4, [.ref lp, .int (nI nc), .int (nI ru)])), (lp, .inl (cI, 4, .inl (nF P))), (b, .inr (0, [.int (nI cnt), .ref qq])), (qq, .inl (cI, 3072, .inl (nF F)))]) := by
  refine CV.of (by decide) (Nat.le_of_ble_eq_true rfl) ?_
  intro pr ev sT mM aR bW mE cO AA QQ ls Bd hG hA hP hD hS hl hnm hret
  have Bd : bd pr cO b_Feed_addRuns 6 sT aR TB "TileScreen$Feed" mM := Bd
  obtain ⟨hx, hb, hml, hown, htb⟩ := id Bd
  have hl : lv_has ls 6 [(0, .ref a), (1, .ref b), (2, .int (nI t))] := hl
  refine lv_aload_n hx hb d_Feed_addRuns_0 rfl (lv_at hl 0 rfl) ?_
  refine va_get (D := D) (ci := 5) (v := .ref li) (C := "TileScreen$Feed") (T := F_Feed) (N := 8) hx hb htb i_Feed hown hG.1 hP 0 rfl rfl 3 (by decide) (htb _ k_125) (fun _ h9 => h9) rfl d_Feed_addRuns_1 ?_
  refine lv_aload_n hx hb d_Feed_addRuns_4 rfl (lv_at hl 0 rfl) ?_
  refine va_get (D := D) (ci := 5) (v := .ref lo) (C := "TileScreen$Feed") (T := F_Feed) (N := 8) hx hb htb i_Feed hown hG.1 hP 0 rfl rfl 5 (by decide) (htb _ k_130) (fun _ h9 => h9) rfl d_Feed_addRuns_5 ?_
  refine va_getN (D := D) (ci := 4) (v := .int (nI ru)) (C := "TileScreen$Look") (T := F_Look) (N := 3) hx hb htb i_Look hown hG.1 hP 3 rfl rfl 2 (by decide) (va_Nw.use rfl (hG.2 _ k_108).2) (fun _ h9 => h9) rfl d_Feed_addRuns_8 ?_
  refine kV_v (wc := [(li, .inr (2, [.ref lb, .int (nI 0), .int (nI sz)])), (lb, .inl (cI, 6247, .inl (nF B)))]) (wr := [(a, .inr (5, [.ref se, .int (nI sn), .ref ca, .ref li, .ref co, .ref lo, .int tw, .int en])), (lo, .inr (4, [.ref lp, .int (nI nc), .int (nI ru)])), (lp, .inl (cI, 4, .inl (nF P))), (b, .inr (0, [.int (nI cnt), .ref qq])), (qq, .inl (cI, 3072, .inl (nF F)))]) (w2 := fun _ => [(a, .inr (5, [.ref se, .int (nI sn), .ref ca, .ref li, .ref co, .ref lo, .int tw, .int en])), (li, .inr (2, [.ref lb, .int (nI 0), .int (nI (sz + 1))])), (lb, .inl (cI, 6247, .inl (nF (up B sz ru)))), (lo, .inr (4, [.ref lp, .int (nI nc), .int (nI ru)])), (lp, .inl (cI, 4, .inl (nF P))), (b, .inr (0, [.int (nI cnt), .ref qq])), (qq, .inl (cI, 3072, .inl (nF F)))]) [.int (nI ru)] [] Bd ⟨gi_app (gi_c0 k_344 (gi_c0 k_345 (gi_c0 k_346 (gi_c0 k_6 gi_nil)))) (gi_tb0 k_347), rfl, by decide, by decide⟩ (show (parseMethodDescriptor "(I)V").map (fun d => d.parameters.length) = some 1 by decide +kernel) (c_Line_add0 li lb sz B ru (by omega)) (by decide +kernel) ⟨Nat.le_of_ble_eq_true rfl, Nat.le_of_ble_eq_true rfl⟩ hG hP hD hS hA [1, 2] [0, 3, 4, 5, 6] [0, 5, 6, 1, 2, 3, 4] (by decide) rfl rfl (fun _ => rfl) (q0 := 0) rfl rfl rfl hl.1 rfl (Nat.le_of_ble_eq_true rfl) d_Feed_addRuns_11 (fun u2 H locs hp1 hP hD hS => ?_)
  have hP : va_P D classes [(a, .inr (5, [.ref se, .int (nI sn), .ref ca, .ref li, .ref co, .ref lo, .int tw, .int en])), (li, .inr (2, [.ref lb, .int (nI 0), .int (nI (sz + 1))])), (lb, .inl (cI, 6247, .inl (nF (up B sz ru)))), (lo, .inr (4, [.ref lp, .int (nI nc), .int (nI ru)])), (lp, .inl (cI, 4, .inl (nF P))), (b, .inr (0, [.int (nI cnt), .ref qq])), (qq, .inl (cI, 3072, .inl (nF F)))] H := hP
  have hD : va_D AA [(a, .inr (5, [.ref se, .int (nI sn), .ref ca, .ref li, .ref co, .ref lo, .int tw, .int en])), (li, .inr (2, [.ref lb, .int (nI 0), .int (nI (sz + 1))])), (lb, .inl (cI, 6247, .inl (nF (up B sz ru)))), (lo, .inr (4, [.ref lp, .int (nI nc), .int (nI ru)])), (lp, .inl (cI, 4, .inl (nF P))), (b, .inr (0, [.int (nI cnt), .ref qq])), (qq, .inl (cI, 3072, .inl (nF F)))] := hD
  refine lv_iconst (v := nI 0) hx hb d_Feed_addRuns_14 (by decide) ?_
  refine lv_istore_n (lv' := [(3, .int (nI 0)), (0, .ref a), (1, .ref b), (2, .int (nI t))]) hx hb d_Feed_addRuns_15 rfl hl (by decide) rfl (fun ls hl => ?_)
  refine lv_iconst (v := nI 0) hx hb d_Feed_addRuns_16 (by decide) ?_
  refine lv_istore (lv' := [(4, .int (nI 0)), (3, .int (nI 0)), (0, .ref a), (1, .ref b), (2, .int (nI t))]) hx hb d_Feed_addRuns_17 hl (by decide) rfl (fun ls hl => ?_)
  have lp_19 : ∀ (nn : Nat) (k : Nat) (s1 : Nat) (B1 : Nat → Nat) (n1 : Nat) (hk : k ≤ 64) (hs : s1 = sz + 1 + (runL (fun j => F (t * 64 + j)) k).length) (hB : B1 = wr B sz (ru :: runL (fun j => F (t * 64 + j)) k)) (hn1 : k < 64 → n1 = k - rst (fun j => F (t * 64 + j)) k), 64 - k < nn → ∀ (H : Heap) (locs : List Loc) (ls : Array Slot), va_P D classes [(a, .inr (5, [.ref se, .int (nI sn), .ref ca, .ref li, .ref co, .ref lo, .int tw, .int en])), (li, .inr (2, [.ref lb, .int (nI 0), .int (nI s1)])), (lb, .inl (cI, 6247, .inl (nF B1))), (lo, .inr (4, [.ref lp, .int (nI nc), .int (nI ru)])), (lp, .inl (cI, 4, .inl (nF P))), (b, .inr (0, [.int (nI cnt), .ref qq])), (qq, .inl (cI, 3072, .inl (nF F)))] H → va_D AA [(a, .inr (5, [.ref se, .int (nI sn), .ref ca, .ref li, .ref co, .ref lo, .int tw, .int en])), (li, .inr (2, [.ref lb, .int (nI 0), .int (nI s1)])), (lb, .inl (cI, 6247, .inl (nF B1))), (lo, .inr (4, [.ref lp, .int (nI nc), .int (nI ru)])), (lp, .inl (cI, 4, .inl (nF P))), (b, .inr (0, [.int (nI cnt), .ref qq])), (qq, .inl (cI, 3072, .inl (nF F)))] → va_S AA sT.heap H locs → lv_has ls 6 [(4, .int (nI k)), (3, .int (nI n1)), (0, .ref a), (1, .ref b), (2, .int (nI t))] → W pr l ev ({ frames := 2, cells := 0, slots := 0, locals := 42 } : Room) sT mM aR bW mE cO H locs 0 0 QQ (F0 mM 19 ls []) := by
    intro nn
    induction nn with
    | zero => intro k s1 B1 n1 hk hs hB hn1 hm; exact absurd hm (Nat.not_lt_zero _)
    | succ nn ih =>
      intro k s1 B1 n1 hk hs hB hn1 hm H locs ls hP hD hS hl
      refine lv_iload hx hb d_Feed_addRuns_19 (lv_at hl 0 rfl) ?_
      refine lv_bipush (v := nI 64) hx hb d_Feed_addRuns_21 (by decide) ?_
      refine nv_icmp_ge (tgt := 84) hx hb d_Feed_addRuns_23 (by decide) (by omega) (by omega) (fun c_23 => ?_) (fun c_23 => ?_)
      · obtain rfl : k = 64 := by omega
        subst hs
        subst hB
        exact hret () _ _ _ _ d_Feed_addRuns_84 (trivial) hP hD hS
      · refine lv_aload_n hx hb d_Feed_addRuns_26 rfl (lv_at hl 3 rfl) ?_
        refine lv_iload_n hx hb d_Feed_addRuns_27 rfl (lv_at hl 4 rfl) ?_
        refine lv_iload hx hb d_Feed_addRuns_28 (lv_at hl 0 rfl) ?_
        refine kV_i (wc := [(b, .inr (0, [.int (nI cnt), .ref qq])), (qq, .inl (cI, 3072, .inl (nF F)))]) (wr := [(a, .inr (5, [.ref se, .int (nI sn), .ref ca, .ref li, .ref co, .ref lo, .int tw, .int en])), (li, .inr (2, [.ref lb, .int (nI 0), .int (nI s1)])), (lb, .inl (cI, 6247, .inl (nF B1))), (lo, .inr (4, [.ref lp, .int (nI nc), .int (nI ru)])), (lp, .inl (cI, 4, .inl (nF P)))]) (w2 := fun _ => [(a, .inr (5, [.ref se, .int (nI sn), .ref ca, .ref li, .ref co, .ref lo, .int tw, .int en])), (li, .inr (2, [.ref lb, .int (nI 0), .int (nI s1)])), (lb, .inl (cI, 6247, .inl (nF B1))), (lo, .inr (4, [.ref lp, .int (nI nc), .int (nI ru)])), (lp, .inl (cI, 4, .inl (nF P))), (b, .inr (0, [.int (nI cnt), .ref qq])), (qq, .inl (cI, 3072, .inl (nF F)))]) [.int (nI t), .int (nI k)] [] Bd ⟨gi_app (gi_c0 k_403 (gi_c0 k_290 (gi_c0 k_291 (gi_c0 k_2 gi_nil)))) (gi_tb0 k_292), rfl, by decide, by decide⟩ (show (parseMethodDescriptor "(II)I").map (fun d => d.parameters.length) = some 2 by decide +kernel) (c_Tiles_get b qq cnt 3072 F t k (by omega) (by omega)) (by decide +kernel) ⟨Nat.le_of_ble_eq_true rfl, Nat.le_of_ble_eq_true rfl⟩ hG hP hD hS hA [5, 6] [0, 1, 2, 3, 4] [0, 1, 2, 3, 4, 5, 6] (by decide) rfl rfl (fun _ => rfl) (q0 := 0) rfl rfl rfl hl.1 rfl (Nat.le_of_ble_eq_true rfl) d_Feed_addRuns_30 (fun r4 u6 H locs hp5 hP hD hS => ?_)
        have hP : va_P D classes [(a, .inr (5, [.ref se, .int (nI sn), .ref ca, .ref li, .ref co, .ref lo, .int tw, .int en])), (li, .inr (2, [.ref lb, .int (nI 0), .int (nI s1)])), (lb, .inl (cI, 6247, .inl (nF B1))), (lo, .inr (4, [.ref lp, .int (nI nc), .int (nI ru)])), (lp, .inl (cI, 4, .inl (nF P))), (b, .inr (0, [.int (nI cnt), .ref qq])), (qq, .inl (cI, 3072, .inl (nF F)))] H := hP
        have hD : va_D AA [(a, .inr (5, [.ref se, .int (nI sn), .ref ca, .ref li, .ref co, .ref lo, .int tw, .int en])), (li, .inr (2, [.ref lb, .int (nI 0), .int (nI s1)])), (lb, .inl (cI, 6247, .inl (nF B1))), (lo, .inr (4, [.ref lp, .int (nI nc), .int (nI ru)])), (lp, .inl (cI, 4, .inl (nF P))), (b, .inr (0, [.int (nI cnt), .ref qq])), (qq, .inl (cI, 3072, .inl (nF F)))] := hD
        subst hp5
        refine lv_istore (lv' := [(5, .int (nI (F (t * 64 + k)))), (4, .int (nI k)), (3, .int (nI n1)), (0, .ref a), (1, .ref b), (2, .int (nI t))]) hx hb d_Feed_addRuns_33 hl (by decide) rfl (fun ls hl => ?_)
        refine lv_iinc (v := (nI (n1 + 1))) (lv' := [(3, .int (nI (n1 + 1))), (5, .int (nI (F (t * 64 + k)))), (4, .int (nI k)), (0, .ref a), (1, .ref b), (2, .int (nI t))]) hx hb d_Feed_addRuns_35 hl (k := 2) rfl (nI_add n1 1) (by decide) rfl (fun ls hl => ?_)
        refine lv_iload hx hb d_Feed_addRuns_38 (lv_at hl 2 rfl) ?_
        refine lv_bipush (v := nI 63) hx hb d_Feed_addRuns_40 (by decide) ?_
        refine nv_icmp_eq (tgt := 59) hx hb d_Feed_addRuns_42 (by decide) (by omega) (by omega) (fun c_42 => ?_) (fun c_42 => ?_)
        · have hcp : (runL (fun j => F (t * 64 + j)) k).length + 3 ≤ 3 * ru := by
            have h9 := runL_cap (T := (fun j => F (t * 64 + j))) (show k + 1 ≤ 64 by omega)
            rw [runL_t (rendB_t (T := (fun j => F (t * 64 + j))) (k := k) (Or.inl c_42)), List.length_append] at h9
            rw [hru]; exact h9
          refine lv_aload_n hx hb d_Feed_addRuns_59 rfl (lv_at hl 3 rfl) ?_
          refine va_get (D := D) (ci := 5) (v := .ref li) (C := "TileScreen$Feed") (T := F_Feed) (N := 8) hx hb htb i_Feed hown hG.1 hP 0 rfl rfl 3 (by decide) (htb _ k_125) (fun _ h9 => h9) rfl d_Feed_addRuns_60 ?_
          refine lv_iload_n hx hb d_Feed_addRuns_63 rfl (lv_at hl 0 rfl) ?_
          refine kV_v (wc := [(li, .inr (2, [.ref lb, .int (nI 0), .int (nI s1)])), (lb, .inl (cI, 6247, .inl (nF B1)))]) (wr := [(a, .inr (5, [.ref se, .int (nI sn), .ref ca, .ref li, .ref co, .ref lo, .int tw, .int en])), (lo, .inr (4, [.ref lp, .int (nI nc), .int (nI ru)])), (lp, .inl (cI, 4, .inl (nF P))), (b, .inr (0, [.int (nI cnt), .ref qq])), (qq, .inl (cI, 3072, .inl (nF F)))]) (w2 := fun _ => [(a, .inr (5, [.ref se, .int (nI sn), .ref ca, .ref li, .ref co, .ref lo, .int tw, .int en])), (li, .inr (2, [.ref lb, .int (nI 0), .int (nI (s1 + 1))])), (lb, .inl (cI, 6247, .inl (nF (up B1 s1 (n1 + 1))))), (lo, .inr (4, [.ref lp, .int (nI nc), .int (nI ru)])), (lp, .inl (cI, 4, .inl (nF P))), (b, .inr (0, [.int (nI cnt), .ref qq])), (qq, .inl (cI, 3072, .inl (nF F)))]) [.int (nI (n1 + 1))] [] Bd ⟨gi_app (gi_c0 k_344 (gi_c0 k_345 (gi_c0 k_346 (gi_c0 k_6 gi_nil)))) (gi_tb0 k_347), rfl, by decide, by decide⟩ (show (parseMethodDescriptor "(I)V").map (fun d => d.parameters.length) = some 1 by decide +kernel) (c_Line_add0 li lb s1 B1 (n1 + 1) (by omega)) (by decide +kernel) ⟨Nat.le_of_ble_eq_true rfl, Nat.le_of_ble_eq_true rfl⟩ hG hP hD hS hA [1, 2] [0, 3, 4, 5, 6] [0, 5, 6, 1, 2, 3, 4] (by decide) rfl rfl (fun _ => rfl) (q0 := 0) rfl rfl rfl hl.1 rfl (Nat.le_of_ble_eq_true rfl) d_Feed_addRuns_64 (fun u8 H locs hp7 hP hD hS => ?_)
          have hP : va_P D classes [(a, .inr (5, [.ref se, .int (nI sn), .ref ca, .ref li, .ref co, .ref lo, .int tw, .int en])), (li, .inr (2, [.ref lb, .int (nI 0), .int (nI (s1 + 1))])), (lb, .inl (cI, 6247, .inl (nF (up B1 s1 (n1 + 1))))), (lo, .inr (4, [.ref lp, .int (nI nc), .int (nI ru)])), (lp, .inl (cI, 4, .inl (nF P))), (b, .inr (0, [.int (nI cnt), .ref qq])), (qq, .inl (cI, 3072, .inl (nF F)))] H := hP
          have hD : va_D AA [(a, .inr (5, [.ref se, .int (nI sn), .ref ca, .ref li, .ref co, .ref lo, .int tw, .int en])), (li, .inr (2, [.ref lb, .int (nI 0), .int (nI (s1 + 1))])), (lb, .inl (cI, 6247, .inl (nF (up B1 s1 (n1 + 1))))), (lo, .inr (4, [.ref lp, .int (nI nc), .int (nI ru)])), (lp, .inl (cI, 4, .inl (nF P))), (b, .inr (0, [.int (nI cnt), .ref qq])), (qq, .inl (cI, 3072, .inl (nF F)))] := hD
          refine lv_aload_n hx hb d_Feed_addRuns_67 rfl (lv_at hl 3 rfl) ?_
          refine va_get (D := D) (ci := 5) (v := .ref li) (C := "TileScreen$Feed") (T := F_Feed) (N := 8) hx hb htb i_Feed hown hG.1 hP 0 rfl rfl 3 (by decide) (htb _ k_125) (fun _ h9 => h9) rfl d_Feed_addRuns_68 ?_
          refine lv_iload hx hb d_Feed_addRuns_71 (lv_at hl 1 rfl) ?_
          refine kV_v (wc := [(li, .inr (2, [.ref lb, .int (nI 0), .int (nI (s1 + 1))])), (lb, .inl (cI, 6247, .inl (nF (up B1 s1 (n1 + 1)))))]) (wr := [(a, .inr (5, [.ref se, .int (nI sn), .ref ca, .ref li, .ref co, .ref lo, .int tw, .int en])), (lo, .inr (4, [.ref lp, .int (nI nc), .int (nI ru)])), (lp, .inl (cI, 4, .inl (nF P))), (b, .inr (0, [.int (nI cnt), .ref qq])), (qq, .inl (cI, 3072, .inl (nF F)))]) (w2 := fun _ => [(a, .inr (5, [.ref se, .int (nI sn), .ref ca, .ref li, .ref co, .ref lo, .int tw, .int en])), (li, .inr (2, [.ref lb, .int (nI 0), .int (nI ((s1 + 1) + 2))])), (lb, .inl (cI, 6247, .inl (nF (up (up (up B1 s1 (n1 + 1)) (s1 + 1) ((F (t * 64 + k)) / 256 % 256)) ((s1 + 1) + 1) ((F (t * 64 + k)) % 256))))), (lo, .inr (4, [.ref lp, .int (nI nc), .int (nI ru)])), (lp, .inl (cI, 4, .inl (nF P))), (b, .inr (0, [.int (nI cnt), .ref qq])), (qq, .inl (cI, 3072, .inl (nF F)))]) [.int (nI (F (t * 64 + k)))] [] Bd ⟨gi_app (gi_c0 k_348 (gi_c0 k_349 (gi_c0 k_350 (gi_c0 k_6 gi_nil)))) (gi_tb0 k_351), rfl, by decide, by decide⟩ (show (parseMethodDescriptor "(I)V").map (fun d => d.parameters.length) = some 1 by decide +kernel) (c_Line_addPair0 li lb (s1 + 1) (up B1 s1 (n1 + 1)) (F (t * 64 + k)) (by omega) (Nat.lt_trans (bF _) (by decide))) (by decide +kernel) ⟨Nat.le_of_ble_eq_true rfl, Nat.le_of_ble_eq_true rfl⟩ hG hP hD hS hA [1, 2] [0, 3, 4, 5, 6] [0, 5, 6, 1, 2, 3, 4] (by decide) rfl rfl (fun _ => rfl) (q0 := 0) rfl rfl rfl hl.1 rfl (Nat.le_of_ble_eq_true rfl) d_Feed_addRuns_73 (fun u10 H locs hp9 hP hD hS => ?_)
          have hP : va_P D classes [(a, .inr (5, [.ref se, .int (nI sn), .ref ca, .ref li, .ref co, .ref lo, .int tw, .int en])), (li, .inr (2, [.ref lb, .int (nI 0), .int (nI ((s1 + 1) + 2))])), (lb, .inl (cI, 6247, .inl (nF (up (up (up B1 s1 (n1 + 1)) (s1 + 1) ((F (t * 64 + k)) / 256 % 256)) ((s1 + 1) + 1) ((F (t * 64 + k)) % 256))))), (lo, .inr (4, [.ref lp, .int (nI nc), .int (nI ru)])), (lp, .inl (cI, 4, .inl (nF P))), (b, .inr (0, [.int (nI cnt), .ref qq])), (qq, .inl (cI, 3072, .inl (nF F)))] H := hP
          have hD : va_D AA [(a, .inr (5, [.ref se, .int (nI sn), .ref ca, .ref li, .ref co, .ref lo, .int tw, .int en])), (li, .inr (2, [.ref lb, .int (nI 0), .int (nI ((s1 + 1) + 2))])), (lb, .inl (cI, 6247, .inl (nF (up (up (up B1 s1 (n1 + 1)) (s1 + 1) ((F (t * 64 + k)) / 256 % 256)) ((s1 + 1) + 1) ((F (t * 64 + k)) % 256))))), (lo, .inr (4, [.ref lp, .int (nI nc), .int (nI ru)])), (lp, .inl (cI, 4, .inl (nF P))), (b, .inr (0, [.int (nI cnt), .ref qq])), (qq, .inl (cI, 3072, .inl (nF F)))] := hD
          refine lv_iconst (v := nI 0) hx hb d_Feed_addRuns_76 (by decide) ?_
          refine lv_istore_n (lv' := [(3, .int (nI 0)), (5, .int (nI (F (t * 64 + k)))), (4, .int (nI k)), (0, .ref a), (1, .ref b), (2, .int (nI t))]) hx hb d_Feed_addRuns_77 rfl hl (by decide) rfl (fun ls hl => ?_)
          refine lv_iinc (v := (nI (k + 1))) (lv' := [(4, .int (nI (k + 1))), (3, .int (nI 0)), (5, .int (nI (F (t * 64 + k)))), (0, .ref a), (1, .ref b), (2, .int (nI t))]) hx hb d_Feed_addRuns_78 hl (k := 2) rfl (nI_add k 1) (by decide) rfl (fun ls hl => ?_)
          refine lv_goto (tgt := 19) hx hb d_Feed_addRuns_81 (by decide) ?_
          have hrl := rst_le (fun j => F (t * 64 + j)) k
          have hre : rendB (fun j => F (t * 64 + j)) k = true := rendB_t (Or.inl c_42)
          exact ih (k + 1) ((s1 + 1) + 2) (up (up (up B1 s1 (n1 + 1)) (s1 + 1) ((F (t * 64 + k)) / 256 % 256)) ((s1 + 1) + 1) ((F (t * 64 + k)) % 256)) 0 (by omega) (by rw [runL_t hre, List.length_append, hs]; show _ = sz + 1 + ((runL (fun j => F (t * 64 + j)) k).length + 3); omega) (by rw [runL_t hre, hB, hn1 (by omega)]; exact wr_run (by omega) (by rw [hs, List.length_cons]; omega)) (fun h => absurd h (by omega)) (by omega) _ _ _ hP hD hS (lv_sub hl [0, 1, 3, 4, 5] rfl)
        · refine lv_aload_n hx hb d_Feed_addRuns_45 rfl (lv_at hl 4 rfl) ?_
          refine lv_iload_n hx hb d_Feed_addRuns_46 rfl (lv_at hl 5 rfl) ?_
          refine lv_iload hx hb d_Feed_addRuns_47 (lv_at hl 2 rfl) ?_
          refine lv_iconst (v := nI 1) hx hb d_Feed_addRuns_49 (by decide) ?_
          refine nv_iadd hx hb d_Feed_addRuns_50 ?_
          refine kV_i (wc := [(b, .inr (0, [.int (nI cnt), .ref qq])), (qq, .inl (cI, 3072, .inl (nF F)))]) (wr := [(a, .inr (5, [.ref se, .int (nI sn), .ref ca, .ref li, .ref co, .ref lo, .int tw, .int en])), (li, .inr (2, [.ref lb, .int (nI 0), .int (nI s1)])), (lb, .inl (cI, 6247, .inl (nF B1))), (lo, .inr (4, [.ref lp, .int (nI nc), .int (nI ru)])), (lp, .inl (cI, 4, .inl (nF P)))]) (w2 := fun _ => [(a, .inr (5, [.ref se, .int (nI sn), .ref ca, .ref li, .ref co, .ref lo, .int tw, .int en])), (li, .inr (2, [.ref lb, .int (nI 0), .int (nI s1)])), (lb, .inl (cI, 6247, .inl (nF B1))), (lo, .inr (4, [.ref lp, .int (nI nc), .int (nI ru)])), (lp, .inl (cI, 4, .inl (nF P))), (b, .inr (0, [.int (nI cnt), .ref qq])), (qq, .inl (cI, 3072, .inl (nF F)))]) [.int (nI t), .int (nI (k + 1))] [] Bd ⟨gi_app (gi_c0 k_403 (gi_c0 k_290 (gi_c0 k_291 (gi_c0 k_2 gi_nil)))) (gi_tb0 k_292), rfl, by decide, by decide⟩ (show (parseMethodDescriptor "(II)I").map (fun d => d.parameters.length) = some 2 by decide +kernel) (c_Tiles_get b qq cnt 3072 F t (k + 1) (by omega) (by omega)) (by decide +kernel) ⟨Nat.le_of_ble_eq_true rfl, Nat.le_of_ble_eq_true rfl⟩ hG hP hD hS hA [5, 6] [0, 1, 2, 3, 4] [0, 1, 2, 3, 4, 5, 6] (by decide) rfl rfl (fun _ => rfl) (q0 := 0) rfl rfl rfl hl.1 rfl (Nat.le_of_ble_eq_true rfl) d_Feed_addRuns_51 (fun r11 u13 H locs hp12 hP hD hS => ?_)
          have hP : va_P D classes [(a, .inr (5, [.ref se, .int (nI sn), .ref ca, .ref li, .ref co, .ref lo, .int tw, .int en])), (li, .inr (2, [.ref lb, .int (nI 0), .int (nI s1)])), (lb, .inl (cI, 6247, .inl (nF B1))), (lo, .inr (4, [.ref lp, .int (nI nc), .int (nI ru)])), (lp, .inl (cI, 4, .inl (nF P))), (b, .inr (0, [.int (nI cnt), .ref qq])), (qq, .inl (cI, 3072, .inl (nF F)))] H := hP
          have hD : va_D AA [(a, .inr (5, [.ref se, .int (nI sn), .ref ca, .ref li, .ref co, .ref lo, .int tw, .int en])), (li, .inr (2, [.ref lb, .int (nI 0), .int (nI s1)])), (lb, .inl (cI, 6247, .inl (nF B1))), (lo, .inr (4, [.ref lp, .int (nI nc), .int (nI ru)])), (lp, .inl (cI, 4, .inl (nF P))), (b, .inr (0, [.int (nI cnt), .ref qq])), (qq, .inl (cI, 3072, .inl (nF F)))] := hD
          subst hp12
          refine lv_iload hx hb d_Feed_addRuns_54 (lv_at hl 1 rfl) ?_
          refine nv_icmp_eq (tgt := 78) hx hb d_Feed_addRuns_56 (by decide) (Nat.lt_trans (bF _) (by decide)) (Nat.lt_trans (bF _) (by decide)) (fun c_56 => ?_) (fun c_56 => ?_)
          · refine lv_iinc (v := (nI (k + 1))) (lv' := [(4, .int (nI (k + 1))), (3, .int (nI (n1 + 1))), (5, .int (nI (F (t * 64 + k)))), (0, .ref a), (1, .ref b), (2, .int (nI t))]) hx hb d_Feed_addRuns_78 hl (k := 2) rfl (nI_add k 1) (by decide) rfl (fun ls hl => ?_)
            refine lv_goto (tgt := 19) hx hb d_Feed_addRuns_81 (by decide) ?_
            have hre : ¬ rendB (fun j => F (t * 64 + j)) k = true := rendB_f (by omega) c_56
            exact ih (k + 1) s1 B1 (n1 + 1) (by omega) (by rw [runL_f hre]; exact hs) (by rw [runL_f hre]; exact hB) (fun h => by rw [rst_eq (T := (fun j => F (t * 64 + j))) c_56, hn1 (by omega)]; have := rst_le (fun j => F (t * 64 + j)) k; omega) (by omega) _ _ _ hP hD hS (lv_sub hl [0, 1, 3, 4, 5] rfl)
          · have hcp : (runL (fun j => F (t * 64 + j)) k).length + 3 ≤ 3 * ru := by
              have h9 := runL_cap (T := (fun j => F (t * 64 + j))) (show k + 1 ≤ 64 by omega)
              rw [runL_t (rendB_t (T := (fun j => F (t * 64 + j))) (k := k) (Or.inr c_56)), List.length_append] at h9
              rw [hru]; exact h9
            refine lv_aload_n hx hb d_Feed_addRuns_59 rfl (lv_at hl 3 rfl) ?_
            refine va_get (D := D) (ci := 5) (v := .ref li) (C := "TileScreen$Feed") (T := F_Feed) (N := 8) hx hb htb i_Feed hown hG.1 hP 0 rfl rfl 3 (by decide) (htb _ k_125) (fun _ h9 => h9) rfl d_Feed_addRuns_60 ?_
            refine lv_iload_n hx hb d_Feed_addRuns_63 rfl (lv_at hl 0 rfl) ?_
            refine kV_v (wc := [(li, .inr (2, [.ref lb, .int (nI 0), .int (nI s1)])), (lb, .inl (cI, 6247, .inl (nF B1)))]) (wr := [(a, .inr (5, [.ref se, .int (nI sn), .ref ca, .ref li, .ref co, .ref lo, .int tw, .int en])), (lo, .inr (4, [.ref lp, .int (nI nc), .int (nI ru)])), (lp, .inl (cI, 4, .inl (nF P))), (b, .inr (0, [.int (nI cnt), .ref qq])), (qq, .inl (cI, 3072, .inl (nF F)))]) (w2 := fun _ => [(a, .inr (5, [.ref se, .int (nI sn), .ref ca, .ref li, .ref co, .ref lo, .int tw, .int en])), (li, .inr (2, [.ref lb, .int (nI 0), .int (nI (s1 + 1))])), (lb, .inl (cI, 6247, .inl (nF (up B1 s1 (n1 + 1))))), (lo, .inr (4, [.ref lp, .int (nI nc), .int (nI ru)])), (lp, .inl (cI, 4, .inl (nF P))), (b, .inr (0, [.int (nI cnt), .ref qq])), (qq, .inl (cI, 3072, .inl (nF F)))]) [.int (nI (n1 + 1))] [] Bd ⟨gi_app (gi_c0 k_344 (gi_c0 k_345 (gi_c0 k_346 (gi_c0 k_6 gi_nil)))) (gi_tb0 k_347), rfl, by decide, by decide⟩ (show (parseMethodDescriptor "(I)V").map (fun d => d.parameters.length) = some 1 by decide +kernel) (c_Line_add0 li lb s1 B1 (n1 + 1) (by omega)) (by decide +kernel) ⟨Nat.le_of_ble_eq_true rfl, Nat.le_of_ble_eq_true rfl⟩ hG hP hD hS hA [1, 2] [0, 3, 4, 5, 6] [0, 5, 6, 1, 2, 3, 4] (by decide) rfl rfl (fun _ => rfl) (q0 := 0) rfl rfl rfl hl.1 rfl (Nat.le_of_ble_eq_true rfl) d_Feed_addRuns_64 (fun u15 H locs hp14 hP hD hS => ?_)
            have hP : va_P D classes [(a, .inr (5, [.ref se, .int (nI sn), .ref ca, .ref li, .ref co, .ref lo, .int tw, .int en])), (li, .inr (2, [.ref lb, .int (nI 0), .int (nI (s1 + 1))])), (lb, .inl (cI, 6247, .inl (nF (up B1 s1 (n1 + 1))))), (lo, .inr (4, [.ref lp, .int (nI nc), .int (nI ru)])), (lp, .inl (cI, 4, .inl (nF P))), (b, .inr (0, [.int (nI cnt), .ref qq])), (qq, .inl (cI, 3072, .inl (nF F)))] H := hP
            have hD : va_D AA [(a, .inr (5, [.ref se, .int (nI sn), .ref ca, .ref li, .ref co, .ref lo, .int tw, .int en])), (li, .inr (2, [.ref lb, .int (nI 0), .int (nI (s1 + 1))])), (lb, .inl (cI, 6247, .inl (nF (up B1 s1 (n1 + 1))))), (lo, .inr (4, [.ref lp, .int (nI nc), .int (nI ru)])), (lp, .inl (cI, 4, .inl (nF P))), (b, .inr (0, [.int (nI cnt), .ref qq])), (qq, .inl (cI, 3072, .inl (nF F)))] := hD
            refine lv_aload_n hx hb d_Feed_addRuns_67 rfl (lv_at hl 3 rfl) ?_
            refine va_get (D := D) (ci := 5) (v := .ref li) (C := "TileScreen$Feed") (T := F_Feed) (N := 8) hx hb htb i_Feed hown hG.1 hP 0 rfl rfl 3 (by decide) (htb _ k_125) (fun _ h9 => h9) rfl d_Feed_addRuns_68 ?_
            refine lv_iload hx hb d_Feed_addRuns_71 (lv_at hl 1 rfl) ?_
            refine kV_v (wc := [(li, .inr (2, [.ref lb, .int (nI 0), .int (nI (s1 + 1))])), (lb, .inl (cI, 6247, .inl (nF (up B1 s1 (n1 + 1)))))]) (wr := [(a, .inr (5, [.ref se, .int (nI sn), .ref ca, .ref li, .ref co, .ref lo, .int tw, .int en])), (lo, .inr (4, [.ref lp, .int (nI nc), .int (nI ru)])), (lp, .inl (cI, 4, .inl (nF P))), (b, .inr (0, [.int (nI cnt), .ref qq])), (qq, .inl (cI, 3072, .inl (nF F)))]) (w2 := fun _ => [(a, .inr (5, [.ref se, .int (nI sn), .ref ca, .ref li, .ref co, .ref lo, .int tw, .int en])), (li, .inr (2, [.ref lb, .int (nI 0), .int (nI ((s1 + 1) + 2))])), (lb, .inl (cI, 6247, .inl (nF (up (up (up B1 s1 (n1 + 1)) (s1 + 1) ((F (t * 64 + k)) / 256 % 256)) ((s1 + 1) + 1) ((F (t * 64 + k)) % 256))))), (lo, .inr (4, [.ref lp, .int (nI nc), .int (nI ru)])), (lp, .inl (cI, 4, .inl (nF P))), (b, .inr (0, [.int (nI cnt), .ref qq])), (qq, .inl (cI, 3072, .inl (nF F)))]) [.int (nI (F (t * 64 + k)))] [] Bd ⟨gi_app (gi_c0 k_348 (gi_c0 k_349 (gi_c0 k_350 (gi_c0 k_6 gi_nil)))) (gi_tb0 k_351), rfl, by decide, by decide⟩ (show (parseMethodDescriptor "(I)V").map (fun d => d.parameters.length) = some 1 by decide +kernel) (c_Line_addPair0 li lb (s1 + 1) (up B1 s1 (n1 + 1)) (F (t * 64 + k)) (by omega) (Nat.lt_trans (bF _) (by decide))) (by decide +kernel) ⟨Nat.le_of_ble_eq_true rfl, Nat.le_of_ble_eq_true rfl⟩ hG hP hD hS hA [1, 2] [0, 3, 4, 5, 6] [0, 5, 6, 1, 2, 3, 4] (by decide) rfl rfl (fun _ => rfl) (q0 := 0) rfl rfl rfl hl.1 rfl (Nat.le_of_ble_eq_true rfl) d_Feed_addRuns_73 (fun u17 H locs hp16 hP hD hS => ?_)
            have hP : va_P D classes [(a, .inr (5, [.ref se, .int (nI sn), .ref ca, .ref li, .ref co, .ref lo, .int tw, .int en])), (li, .inr (2, [.ref lb, .int (nI 0), .int (nI ((s1 + 1) + 2))])), (lb, .inl (cI, 6247, .inl (nF (up (up (up B1 s1 (n1 + 1)) (s1 + 1) ((F (t * 64 + k)) / 256 % 256)) ((s1 + 1) + 1) ((F (t * 64 + k)) % 256))))), (lo, .inr (4, [.ref lp, .int (nI nc), .int (nI ru)])), (lp, .inl (cI, 4, .inl (nF P))), (b, .inr (0, [.int (nI cnt), .ref qq])), (qq, .inl (cI, 3072, .inl (nF F)))] H := hP
            have hD : va_D AA [(a, .inr (5, [.ref se, .int (nI sn), .ref ca, .ref li, .ref co, .ref lo, .int tw, .int en])), (li, .inr (2, [.ref lb, .int (nI 0), .int (nI ((s1 + 1) + 2))])), (lb, .inl (cI, 6247, .inl (nF (up (up (up B1 s1 (n1 + 1)) (s1 + 1) ((F (t * 64 + k)) / 256 % 256)) ((s1 + 1) + 1) ((F (t * 64 + k)) % 256))))), (lo, .inr (4, [.ref lp, .int (nI nc), .int (nI ru)])), (lp, .inl (cI, 4, .inl (nF P))), (b, .inr (0, [.int (nI cnt), .ref qq])), (qq, .inl (cI, 3072, .inl (nF F)))] := hD
            refine lv_iconst (v := nI 0) hx hb d_Feed_addRuns_76 (by decide) ?_
            refine lv_istore_n (lv' := [(3, .int (nI 0)), (5, .int (nI (F (t * 64 + k)))), (4, .int (nI k)), (0, .ref a), (1, .ref b), (2, .int (nI t))]) hx hb d_Feed_addRuns_77 rfl hl (by decide) rfl (fun ls hl => ?_)
            refine lv_iinc (v := (nI (k + 1))) (lv' := [(4, .int (nI (k + 1))), (3, .int (nI 0)), (5, .int (nI (F (t * 64 + k)))), (0, .ref a), (1, .ref b), (2, .int (nI t))]) hx hb d_Feed_addRuns_78 hl (k := 2) rfl (nI_add k 1) (by decide) rfl (fun ls hl => ?_)
            refine lv_goto (tgt := 19) hx hb d_Feed_addRuns_81 (by decide) ?_
            have hrl := rst_le (fun j => F (t * 64 + j)) k
            have hre : rendB (fun j => F (t * 64 + j)) k = true := rendB_t (Or.inr c_56)
            exact ih (k + 1) ((s1 + 1) + 2) (up (up (up B1 s1 (n1 + 1)) (s1 + 1) ((F (t * 64 + k)) / 256 % 256)) ((s1 + 1) + 1) ((F (t * 64 + k)) % 256)) 0 (by omega) (by rw [runL_t hre, List.length_append, hs]; show _ = sz + 1 + ((runL (fun j => F (t * 64 + j)) k).length + 3); omega) (by rw [runL_t hre, hB, hn1 (by omega)]; exact wr_run (by omega) (by rw [hs, List.length_cons]; omega)) (fun h => by rw [rst_ne (T := (fun j => F (t * 64 + j))) c_56]; omega) (by omega) _ _ _ hP hD hS (lv_sub hl [0, 1, 3, 4, 5] rfl)
  exact lp_19 _ 0 (sz + 1) (up B sz ru) 0 (Nat.zero_le _) (rfl) (wr_1 B sz ru) (fun _ => rfl) (Nat.lt_succ_self _) _ _ _ hP hD hS (lv_sub hl [0, 1, 2, 3, 4] rfl)
end
end
section
/-! AN UPDATE, pure: the record of a tile, the records of a picture, the whole update -/
def fndF (P : Nat → Bool) : Nat → Nat → Int32
  | _, 0 => -1
  | i, n + 1 => if P i then nI i else fndF P (i + 1) n
def findI (P : Nat → Bool) (n : Nat) : Int32 := fndF P 0 n
theorem fndF_is (P : Nat → Bool) : ∀ (n i : Nat), (∀ j, j < i → P j = false) → isFind P (i + n) (fndF P i n)
  | 0, i, h => Or.inl ⟨rfl, h⟩
  | n + 1, i, h => by
    unfold fndF
    by_cases q : P i = true
    · rw [if_pos q]
      exact Or.inr ⟨i, by omega, rfl, q, h⟩
    · rw [if_neg q, show i + (n + 1) = (i + 1) + n by omega]
      refine fndF_is P n (i + 1) (fun j hj => ?_)
      rcases (show j < i ∨ j = i by omega) with g | g
      · exact h j g
      · rw [g]; exact Bool.eq_false_iff.mpr q
theorem findI_is (P : Nat → Bool) (n : Nat) : isFind P n (findI P n) := by
  have h := fndF_is P n 0 (fun j hj => absurd hj (Nat.not_lt_zero j))
  rw [Nat.zero_add] at h
  exact h
theorem isFind_I {P : Nat → Bool} {n : Nat} {r : Int32} (hn : n < 2 ^ 31) (h : isFind P n r) : r = findI P n := isFind_uniq hn (fun _ _ => rfl) h (findI_is P n)
theorem findI_eq {P P' : Nat → Bool} {n : Nat} (hn : n < 2 ^ 31) (h : ∀ i, i < n → P i = P' i) : findI P n = findI P' n := isFind_uniq hn h (findI_is P n) (findI_is P' n)
theorem findI_in {P : Nat → Bool} {n : Nat} (h : findI P n ≠ -1) : ∃ i, i < n ∧ findI P n = nI i ∧ P i = true := by
  rcases findI_is P n with ⟨h1, -⟩ | ⟨i, h1, h2, h3, -⟩
  · exact absurd h1 h
  · exact ⟨i, h1, h2, h3⟩
def bkN (fit : Nat → Bool) (len : Nat → Nat) : Nat → Nat
  | 0 => 6
  | i + 1 => if fit (6 - i) && Nat.ble (len (6 - i)) (len (bkN fit len i)) then 6 - i else bkN fit len i
def bestK (fit : Nat → Bool) (len : Nat → Nat) : Nat := bkN fit len 7
theorem bkN_is {fit : Nat → Bool} {len : Nat → Nat} (h6 : fit 6 = true) : ∀ i, i ≤ 7 → bkN fit len i < 7 ∧ fit (bkN fit len i) = true ∧ ∀ j, 7 - i ≤ j → j < 7 → fit j = true → len (bkN fit len i) < len j ∨ (len (bkN fit len i) = len j ∧ bkN fit len i ≤ j)
  | 0, _ => ⟨show (6 : Nat) < 7 by decide, h6, fun j h1 h2 => absurd h1 (by omega)⟩
  | i + 1, hi => by
    obtain ⟨h1, h2, h3⟩ := bkN_is (len := len) h6 i (by omega)
    unfold bkN
    by_cases q : (fit (6 - i) && Nat.ble (len (6 - i)) (len (bkN fit len i))) = true
    · rw [if_pos q]
      rw [Bool.and_eq_true] at q
      have q2 := Nat.le_of_ble_eq_true q.2
      refine ⟨by omega, q.1, fun j g1 g2 g3 => ?_⟩
      rcases (show j = 6 - i ∨ 7 - i ≤ j by omega) with e | e
      · rw [e]; exact Or.inr ⟨rfl, Nat.le_refl _⟩
      · have := h3 j e g2 g3
        omega
    · rw [if_neg q]
      refine ⟨h1, h2, fun j g1 g2 g3 => ?_⟩
      rcases (show j = 6 - i ∨ 7 - i ≤ j by omega) with e | e
      · rw [e] at g3 ⊢
        rw [g3, Bool.true_and] at q
        have : ¬ len (6 - i) ≤ len (bkN fit len i) := fun z => q (Nat.ble_eq.mpr z)
        omega
      · exact h3 j e g2 g3
theorem bestK_is {fit : Nat → Bool} {len : Nat → Nat} (h6 : fit 6 = true) : isBest fit len (bestK fit len) := by
  obtain ⟨h1, h2, h3⟩ := bkN_is (len := len) h6 7 (Nat.le_refl 7)
  exact ⟨h1, h2, fun j hj => h3 j (by omega) hj⟩
theorem isBest_K {fit : Nat → Bool} {len : Nat → Nat} {k : Nat} (h6 : fit 6 = true) (h : isBest fit len k) : k = bestK fit len := isBest_uniq h (bestK_is h6)
/-- the record of a tile T, by where it stands already -/
def kdT (T : Nat → Nat) (tw en : Int32) : Nat := bestK (fitC (colN T) tw en) (lenC (colN T) (runsN T 64))
noncomputable def recT (T : Nat → Nat) (tw en : Int32) (t : Nat) : List Nat := kdT T tw en :: t :: contC T (palA T) (colN T) (runsN T 64) tw en (kdT T tw en)
theorem kdT_is (T : Nat → Nat) (tw en : Int32) : isBest (fitC (colN T) tw en) (lenC (colN T) (runsN T 64)) (kdT T tw en) := bestK_is rfl
theorem kdT_len (T : Nat → Nat) (tw en : Int32) : lenC (colN T) (runsN T 64) (kdT T tw en) ≤ 128 := by
  have := (kdT_is T tw en).2.2 6 (by decide) rfl
  have e : lenC (colN T) (runsN T 64) 6 = 128 := rfl
  omega
theorem recT_len (T : Nat → Nat) (tw en : Int32) (t : Nat) : (recT T tw en t).length = 2 + lenC (colN T) (runsN T 64) (kdT T tw en) := by
  unfold recT
  rw [List.length_cons, List.length_cons, cont_len (kdT_is T tw en).1 (kdT_is T tw en).2.1 rfl]
  omega
theorem T_eq {T T' : Nat → Nat} (h : ∀ k, k < 64 → T k = T' k) : colN T = colN T' ∧ palA T = palA T' ∧ runsN T 64 = runsN T' 64 ∧ runL T 64 = runL T' 64 ∧ rawL T 64 = rawL T' 64 ∧ ∀ P n w, bL (fun k => numOf P n (T k)) w 64 = bL (fun k => numOf P n (T' k)) w 64 := by
  have hc : cols T 64 = cols T' 64 := cols_eq h
  have hr : ∀ k, k ≤ 64 → runsN T k = runsN T' k := by
    intro k
    induction k with
    | zero => intro _; rfl
    | succ k ih =>
      intro hk
      have e : sameP T k = sameP T' k := by
        unfold sameP
        rw [h k (by omega), h (k - 1) (by omega)]
      show runsN T k + (!sameP T k).toNat = runsN T' k + (!sameP T' k).toNat
      rw [ih (by omega), e]
  have hs : ∀ k, k < 64 → rst T k = rst T' k := by
    intro k
    induction k with
    | zero => intro _; rfl
    | succ k ih =>
      intro hk
      unfold rst
      rw [h (k + 1) hk, h k (by omega), ih (by omega)]
  have hl : ∀ k, k ≤ 64 → runL T k = runL T' k := by
    intro k
    induction k with
    | zero => intro _; rfl
    | succ k ih =>
      intro hk
      have e : rendB T k = rendB T' k := by
        unfold rendB
        by_cases q : k = 63
        · rw [q]; rfl
        · rw [h (k + 1) (by omega), h k (by omega)]
      by_cases g : rendB T k = true
      · rw [runL_t g, runL_t (e ▸ g), ih (by omega), hs k (by omega), h k (by omega)]
      · rw [runL_f g, runL_f (e ▸ g), ih (by omega)]
  exact ⟨congrArg List.length hc, by funext i; unfold palA; rw [hc], hr 64 (Nat.le_refl _), hl 64 (Nat.le_refl _), rawL_eq h, fun P n w => (bacc_eq (fun k hk => by rw [h k hk])).2⟩
theorem recT_eq {T T' : Nat → Nat} (h : ∀ k, k < 64 → T k = T' k) (tw en : Int32) (t : Nat) : kdT T tw en = kdT T' tw en ∧ recT T tw en t = recT T' tw en t := by
  obtain ⟨h1, h2, h3, h4, h5, h6⟩ := T_eq h
  have e : kdT T tw en = kdT T' tw en := by unfold kdT; rw [h1, h3]
  refine ⟨e, ?_⟩
  unfold recT
  rw [e, h1, h2, h3]
  refine congrArg (fun z => kdT T' tw en :: t :: z) ?_
  rcases lt7 (kdT_is T' tw en).1 with q | q | q | q | q | q | q <;> rw [q]
  · rfl
  · rfl
  · rfl
  · show rawL _ _ ++ bL _ 1 64 = rawL _ _ ++ bL _ 1 64
    rw [h6]
  · show _ :: (rawL _ _ ++ bL _ 2 64) = _ :: (rawL _ _ ++ bL _ 2 64)
    rw [h6]
  · show _ :: runL T 64 = _ :: runL T' 64
    rw [h4]
  · exact h5
/-- bytes so far, cache, place, how many were put, bytes by kind -/
abbrev CX : Type := List Nat × (Nat → Nat) × Nat × Nat × (Nat → Nat)
def twX (F S : Nat → Nat) (t : Nat) : Int32 := findI (fun i => sameB S (i * 64) F (t * 64)) 48
def enX (F C : Nat → Nat) (us t : Nat) : Int32 := findI (fun i => sameB C (i * 64) F (t * 64)) us
noncomputable def putX (F S : Nat → Nat) (t : Nat) (X : CX) : CX :=
  (X.1 ++ recT (fun j => F (t * 64 + j)) (twX F S t) (enX F X.2.1 X.2.2.2.1 t) t,
   (if 3 ≤ kdT (fun j => F (t * 64 + j)) (twX F S t) (enX F X.2.1 X.2.2.2.1 t) then va_cpy F X.2.1 (t * 64) (X.2.2.1 * 64) 64 else X.2.1),
   (if 3 ≤ kdT (fun j => F (t * 64 + j)) (twX F S t) (enX F X.2.1 X.2.2.2.1 t) then (X.2.2.1 + 1) % 16 else X.2.2.1),
   (if 3 ≤ kdT (fun j => F (t * 64 + j)) (twX F S t) (enX F X.2.1 X.2.2.2.1 t) then max X.2.2.2.1 (X.2.2.1 + 1) else X.2.2.2.1),
   up X.2.2.2.2 (kdT (fun j => F (t * 64 + j)) (twX F S t) (enX F X.2.1 X.2.2.2.1 t)) (X.2.2.2.2 (kdT (fun j => F (t * 64 + j)) (twX F S t) (enX F X.2.1 X.2.2.2.1 t)) + (recT (fun j => F (t * 64 + j)) (twX F S t) (enX F X.2.1 X.2.2.2.1 t) t).length))
noncomputable def compX (F S : Nat → Nat) (X0 : CX) : Nat → CX
  | 0 => X0
  | t + 1 => if sameB F (t * 64) S (t * 64) then compX F S X0 t else putX F S t (compX F S X0 t)
theorem compX_t {F S : Nat → Nat} {X0 : CX} {t : Nat} (h : sameB F (t * 64) S (t * 64) = true) : compX F S X0 (t + 1) = compX F S X0 t := if_pos h
theorem compX_f {F S : Nat → Nat} {X0 : CX} {t : Nat} (h : sameB F (t * 64) S (t * 64) = false) : compX F S X0 (t + 1) = putX F S t (compX F S X0 t) := if_neg (by rw [h]; decide)
/-- what stays true of a cache and of what was counted -/
def okX (X : CX) : Prop := (∀ x ∈ X.1, x < 256) ∧ (∀ j, X.2.1 j < 65536) ∧ X.2.2.1 < 16 ∧ X.2.2.2.1 ≤ 16
theorem fnd_lt {P : Nat → Bool} {n : Nat} (hn : n < 2 ^ 31) (h : findI P n ≠ -1) : (findI P n).toNatClampNeg < n := by
  obtain ⟨i, h1, h2, -⟩ := findI_in h
  rw [h2, nI_clamp (by omega)]
  exact h1
theorem pal_in (T : Nat → Nat) {k : Nat} (hk : k < 64) : ∃ i, i < colN T ∧ palA T i = T k := mem_getD (cols_mem T 64 k hk)
theorem recT_lt {F S C : Nat → Nat} {us t : Nat} (hu : us ≤ 16) (ht : t < 48) : ∀ x ∈ recT (fun j => F (t * 64 + j)) (twX F S t) (enX F C us t) t, x < 256 := by
  intro x hx
  have hb := kdT_is (fun j => F (t * 64 + j)) (twX F S t) (enX F C us t)
  generalize hT : (fun j => F (t * 64 + j)) = T at hx hb
  unfold recT at hx
  rcases List.mem_cons.mp hx with e | hx
  · have := hb.1; omega
  rcases List.mem_cons.mp hx with e | hx
  · omega
  have hf := hb.2.1
  have hle : lenC (colN T) (runsN T 64) 6 = 128 := rfl
  rcases lt7 hb.1 with q | q | q | q | q | q | q <;> rw [q] at hx hf
  · exact p2_lt _ x hx
  · have h1 : twX F S t ≠ -1 := by simpa [fitC] using hf
    have := fnd_lt (by decide) h1
    rw [List.mem_singleton.mp hx]
    exact Nat.lt_trans this (by decide)
  · have h1 : enX F C us t ≠ -1 := by simpa [fitC] using hf
    have := fnd_lt (by omega) h1
    rw [List.mem_singleton.mp hx]
    exact Nat.lt_of_lt_of_le this (by omega)
  · have h2 : colN T = 2 := by simpa [fitC] using hf
    rcases List.mem_append.mp hx with hx | hx
    · exact rawL_lt _ _ x hx
    · exact bL_lt (Or.inl rfl) (n := 64) (fun j hj => by obtain ⟨i, g1, g2⟩ := pal_in T hj; have := numOf_lt g1 g2; show numOf (palA T) (colN T) (T j) < 2 ^ 1; omega) 64 (Nat.le_refl _) x hx
  · have h2 : colN T = 3 ∨ colN T = 4 := by simpa [fitC] using hf
    rcases List.mem_cons.mp hx with e | hx
    · omega
    rcases List.mem_append.mp hx with hx | hx
    · exact rawL_lt _ _ x hx
    · exact bL_lt (Or.inr rfl) (n := 64) (fun j hj => by obtain ⟨i, g1, g2⟩ := pal_in T hj; have := numOf_lt g1 g2; show numOf (palA T) (colN T) (T j) < 2 ^ 2; omega) 64 (Nat.le_refl _) x hx
  · rcases List.mem_cons.mp hx with e | hx
    · have := runsN_le T 64; omega
    · exact runL_lt T 64 (Nat.le_refl _) x hx
  · exact rawL_lt _ _ x hx
theorem putX_ok {F S : Nat → Nat} {t : Nat} {X : CX} (hF : ∀ j, F j < 65536) (ht : t < 48) (h : okX X) : okX (putX F S t X) := by
  obtain ⟨h1, h2, h3, h4⟩ := h
  unfold putX
  refine ⟨fun x hx => ?_, ?_, ?_, ?_⟩
  · rcases List.mem_append.mp hx with g | g
    · exact h1 x g
    · exact recT_lt h4 ht x g
  · intro j
    dsimp only
    split
    · exact cpy_lt hF h2 _ _ _ j
    · exact h2 j
  · dsimp only
    split
    · exact Nat.mod_lt _ (by decide)
    · exact h3
  · dsimp only
    split <;> omega
theorem compX_ok {F S : Nat → Nat} {X0 : CX} (hF : ∀ j, F j < 65536) (h : okX X0) : ∀ t, t ≤ 48 → okX (compX F S X0 t)
  | 0, _ => h
  | t + 1, ht => by
    have h0 := compX_ok (S := S) hF h t (by omega)
    cases q : sameB F (t * 64) S (t * 64)
    · rw [compX_f q]; exact putX_ok hF (by omega) h0
    · rw [compX_t q]; exact h0
theorem compX_len {F S : Nat → Nat} {X0 : CX} : ∀ t, (compX F S X0 t).1.length ≤ X0.1.length + 130 * t
  | 0 => Nat.le_refl _
  | t + 1 => by
    have h0 := compX_len (F := F) (S := S) (X0 := X0) t
    cases q : sameB F (t * 64) S (t * 64)
    · rw [compX_f q]
      show (_ ++ recT _ _ _ t).length ≤ _
      rw [List.length_append, recT_len]
      have := kdT_len (fun j => F (t * 64 + j)) (twX F S t) (enX F (compX F S X0 t).2.1 (compX F S X0 t).2.2.2.1 t)
      omega
    · rw [compX_t q]; omega
/-- a whole update: its length in three bytes, the frame's number, the records, the sum -/
def updL (num : Nat) (L : List Nat) : List Nat :=
  [(L.length + 4) / 65536, (L.length + 4) / 256 % 256, (L.length + 4) % 256] ++ (p2 num ++ L) ++ p2 ((p2 num ++ L).sum % 65536)
theorem sumF_take {G : Nat → Nat} {f : Nat} {N : List Nat} (h : ∀ j, j < N.length → G (f + j) = N.getD j 0) : ∀ m, m ≤ N.length → sumF G f m = (N.take m).sum
  | 0, _ => by simp [sumF]
  | m + 1, hm => by
    show sumF G f m + G (f + m) = _
    rw [sumF_take h m (by omega), h m (by omega), List.take_add_one, List.getD_eq_getElem?_getD, List.getElem?_eq_getElem (show m < N.length by omega), List.sum_append]
    simp only [Option.toList, Option.getD, List.sum_cons, List.sum_nil, Nat.add_zero]
theorem sumF_list {G : Nat → Nat} {f : Nat} {N : List Nat} (h : ∀ j, j < N.length → G (f + j) = N.getD j 0) : sumF G f N.length = N.sum := by
  rw [sumF_take h N.length (Nat.le_refl _), List.take_length]
end
section
section
variable {l : Launch} {D : va_G} {cI cZ cL cV : ClassId}
theorem stu_in {T P0 : Nat → Nat} (h4 : (stu T P0 64).2 ≤ 4) {k : Nat} (hk : k < 64) : ∃ i, i < (stu T P0 64).2 ∧ (stu T P0 64).1 i = T k := by
  have h := stu_SR T P0 64
  obtain ⟨i, h1, h2⟩ := mem_getD (cols_mem T 64 k hk)
  rcases h.1 with ⟨g1, g2⟩ | ⟨g1, g2⟩
  · exact ⟨i, by omega, by rw [h.2 i (by omega)]; exact h2⟩
  · omega
set_option maxHeartbeats 4000000 in
set_option maxRecDepth 100000 in
theorem c_Feed_addContent (a : Nat) (se : Nat) (sn : Nat) (ca : Nat) (li : Nat) (co : Nat) (lo : Nat) (tw : Int32) (en : Int32) (lb : Nat) (sz : Nat) (B : Nat → Nat) (lp : Nat) (nc : Nat) (ru : Nat) (P : Nat → Nat) (b : Nat) (cnt : Nat) (qq : Nat) (F : Nat → Nat) (t : Nat) (kd : Nat) (hk : kd < 7) (hfit : fitC nc tw en kd = true) (hlen : lenC nc ru kd ≤ 128) (hru : ru = runsN (fun j => F (t * 64 + j)) 64) (hin : nc ≤ 4 → ∀ k, k < 64 → ∃ i, i < nc ∧ P i = F (t * 64 + k)) (htw : tw ≠ -1 → ∃ i, i < 48 ∧ tw = nI i) (hen : en ≠ -1 → ∃ i, i < 48 ∧ en = nI i) (hcap : sz + 128 ≤ 6247) (hc : nc ≤ 64) (ht : t < 48) (bP : ∀ j, P j < 65536) (bF : ∀ j, F j < 65536) : CV (S := Nat × (Nat → Nat)) l classes NW D (TYS cI cZ cL cV) y_Feed_addContent (.code y_Feed_addContent b_Feed_addContent 4 none :: TB) { frames := 3, cells := 0, slots := 0, locals := 67 } [.ref a, .int (nI kd), .ref b, .int (nI t)] [(a, .inr (5, [.ref se, .int (nI sn), .ref ca, .ref li, .ref co, .ref lo, .int tw, .int en])), (li, .inr (2, [.ref lb, .int (nI 0), .int (nI sz)])), (lb, .inl (cI, 6247, .inl (nF B))), (lo, .inr (4, [.ref lp, .int (nI nc), .int (nI ru)])), (lp, .inl (cI, 4, .inl (nF P))), (b, .inr (0, [.int (nI cnt), .ref qq])), (qq, .inl (cI, 3072, .inl (nF F)))] (fun u => u.1 = sz + lenC nc ru kd ∧ u.2 = wr B sz (contC (fun j => F (t * 64 + j)) P nc ru tw en kd)) (fun u => [(a, .inr (5, [.ref se, .int (nI sn), .ref ca, .ref li, .ref co, .ref lo, .int tw, .int en])), (li, .inr (2, [.ref lb, .int (nI 0), .int (nI u.1)])), (lb, .inl (cI, 6247, .inl (nF u.2))), (lo, .inr (4, [.ref lp, .int (nI nc), .int (nI ru)])), (lp, .inl (cI, 4, .inl (nF P))), (b, .inr (0, [.int (nI cnt), .ref qq])), (qq, .inl (cI, 3072, .inl (nF F)))]) := by
  refine CV.of (by decide) (Nat.le_of_ble_eq_true rfl) ?_
  intro pr ev sT mM aR bW mE cO AA QQ ls Bd hG hA hP hD hS hl hnm hret
  have Bd : bd pr cO b_Feed_addContent 4 sT aR TB "TileScreen$Feed" mM := Bd
  obtain ⟨hx, hb, hml, hown, htb⟩ := id Bd
  have hl : lv_has ls 4 [(0, .ref a), (1, .int (nI kd)), (2, .ref b), (3, .int (nI t))] := hl
  refine lv_iload_n hx hb d_Feed_addContent_0 rfl (lv_at hl 1 rfl) ?_
  rcases (show kd = 0 ∨ kd = 1 ∨ kd = 2 ∨ kd = 3 ∨ kd = 4 ∨ kd = 5 ∨ kd = 6 by omega) with rfl | rfl | rfl | rfl | rfl | rfl | rfl
  · refine lv_tableIn (off := 39) (tgt := 40) hx hb d_Feed_addContent_1 (by decide) (by decide) (by decide) (by decide) ?_
    refine lv_aload_n hx hb d_Feed_addContent_40 rfl (lv_at hl 0 rfl) ?_
    refine va_get (D := D) (ci := 5) (v := .ref li) (C := "TileScreen$Feed") (T := F_Feed) (N := 8) hx hb htb i_Feed hown hG.1 hP 0 rfl rfl 3 (by decide) (htb _ k_125) (fun _ h9 => h9) rfl d_Feed_addContent_41 ?_
    refine lv_aload_n hx hb d_Feed_addContent_44 rfl (lv_at hl 0 rfl) ?_
    refine va_get (D := D) (ci := 5) (v := .ref lo) (C := "TileScreen$Feed") (T := F_Feed) (N := 8) hx hb htb i_Feed hown hG.1 hP 0 rfl rfl 5 (by decide) (htb _ k_130) (fun _ h9 => h9) rfl d_Feed_addContent_45 ?_
    refine va_getN (D := D) (ci := 4) (v := .ref lp) (C := "TileScreen$Look") (T := F_Look) (N := 3) hx hb htb i_Look hown hG.1 hP 3 rfl rfl 0 (by decide) (va_Nw.use rfl (hG.2 _ k_104).2) (fun _ h9 => h9) rfl d_Feed_addContent_48 ?_
    refine lv_iconst (v := nI 0) hx hb d_Feed_addContent_51 (by decide) ?_
    refine nv_iald hx hb hG.1 hP 4 0 rfl rfl (by omega) (by omega) d_Feed_addContent_52 ?_
    refine kV_v (wc := [(li, .inr (2, [.ref lb, .int (nI 0), .int (nI sz)])), (lb, .inl (cI, 6247, .inl (nF B)))]) (wr := [(a, .inr (5, [.ref se, .int (nI sn), .ref ca, .ref li, .ref co, .ref lo, .int tw, .int en])), (lo, .inr (4, [.ref lp, .int (nI nc), .int (nI ru)])), (lp, .inl (cI, 4, .inl (nF P))), (b, .inr (0, [.int (nI cnt), .ref qq])), (qq, .inl (cI, 3072, .inl (nF F)))]) (w2 := fun _ => [(a, .inr (5, [.ref se, .int (nI sn), .ref ca, .ref li, .ref co, .ref lo, .int tw, .int en])), (li, .inr (2, [.ref lb, .int (nI 0), .int (nI (sz + 2))])), (lb, .inl (cI, 6247, .inl (nF (up (up B sz ((P 0) / 256 % 256)) (sz + 1) ((P 0) % 256))))), (lo, .inr (4, [.ref lp, .int (nI nc), .int (nI ru)])), (lp, .inl (cI, 4, .inl (nF P))), (b, .inr (0, [.int (nI cnt), .ref qq])), (qq, .inl (cI, 3072, .inl (nF F)))]) [.int (nI (P 0))] [] Bd ⟨gi_app (gi_c0 k_348 (gi_c0 k_349 (gi_c0 k_350 (gi_c0 k_6 gi_nil)))) (gi_tb0 k_351), rfl, by decide, by decide⟩ (show (parseMethodDescriptor "(I)V").map (fun d => d.parameters.length) = some 1 by decide +kernel) (c_Line_addPair0 li lb sz B (P 0) (by omega) (Nat.lt_trans (bP 0) (by decide))) (by decide +kernel) ⟨Nat.le_of_ble_eq_true rfl, Nat.le_of_ble_eq_true rfl⟩ hG hP hD hS hA [1, 2] [0, 3, 4, 5, 6] [0, 5, 6, 1, 2, 3, 4] (by decide) rfl rfl (fun _ => rfl) (q0 := 0) rfl rfl rfl hl.1 rfl (Nat.le_of_ble_eq_true rfl) d_Feed_addContent_53 (fun u2 H locs hp1 hP hD hS => ?_)
    have hP : va_P D classes [(a, .inr (5, [.ref se, .int (nI sn), .ref ca, .ref li, .ref co, .ref lo, .int tw, .int en])), (li, .inr (2, [.ref lb, .int (nI 0), .int (nI (sz + 2))])), (lb, .inl (cI, 6247, .inl (nF (up (up B sz ((P 0) / 256 % 256)) (sz + 1) ((P 0) % 256))))), (lo, .inr (4, [.ref lp, .int (nI nc), .int (nI ru)])), (lp, .inl (cI, 4, .inl (nF P))), (b, .inr (0, [.int (nI cnt), .ref qq])), (qq, .inl (cI, 3072, .inl (nF F)))] H := hP
    have hD : va_D AA [(a, .inr (5, [.ref se, .int (nI sn), .ref ca, .ref li, .ref co, .ref lo, .int tw, .int en])), (li, .inr (2, [.ref lb, .int (nI 0), .int (nI (sz + 2))])), (lb, .inl (cI, 6247, .inl (nF (up (up B sz ((P 0) / 256 % 256)) (sz + 1) ((P 0) % 256))))), (lo, .inr (4, [.ref lp, .int (nI nc), .int (nI ru)])), (lp, .inl (cI, 4, .inl (nF P))), (b, .inr (0, [.int (nI cnt), .ref qq])), (qq, .inl (cI, 3072, .inl (nF F)))] := hD
    refine lv_goto (tgt := 144) hx hb d_Feed_addContent_56 (by decide) ?_
    exact hret (sz + 2, up (up B sz ((P 0) / 256 % 256)) (sz + 1) ((P 0) % 256)) _ _ _ _ d_Feed_addContent_144 (⟨rfl, wr_2 B sz _⟩) hP hD hS
  · refine lv_tableIn (off := 58) (tgt := 59) hx hb d_Feed_addContent_1 (by decide) (by decide) (by decide) (by decide) ?_
    refine lv_aload_n hx hb d_Feed_addContent_59 rfl (lv_at hl 0 rfl) ?_
    refine va_get (D := D) (ci := 5) (v := .ref li) (C := "TileScreen$Feed") (T := F_Feed) (N := 8) hx hb htb i_Feed hown hG.1 hP 0 rfl rfl 3 (by decide) (htb _ k_125) (fun _ h9 => h9) rfl d_Feed_addContent_60 ?_
    refine lv_aload_n hx hb d_Feed_addContent_63 rfl (lv_at hl 0 rfl) ?_
    refine va_get (D := D) (ci := 5) (v := .int tw) (C := "TileScreen$Feed") (T := F_Feed) (N := 8) hx hb htb i_Feed hown hG.1 hP 0 rfl rfl 6 (by decide) (htb _ k_131) (fun _ h9 => h9) rfl d_Feed_addContent_64 ?_
    obtain ⟨i9, hi9, rfl⟩ := htw (by simpa [fitC] using hfit)
    refine kV_v (wc := [(li, .inr (2, [.ref lb, .int (nI 0), .int (nI sz)])), (lb, .inl (cI, 6247, .inl (nF B)))]) (wr := [(a, .inr (5, [.ref se, .int (nI sn), .ref ca, .ref li, .ref co, .ref lo, .int (nI i9), .int en])), (lo, .inr (4, [.ref lp, .int (nI nc), .int (nI ru)])), (lp, .inl (cI, 4, .inl (nF P))), (b, .inr (0, [.int (nI cnt), .ref qq])), (qq, .inl (cI, 3072, .inl (nF F)))]) (w2 := fun _ => [(a, .inr (5, [.ref se, .int (nI sn), .ref ca, .ref li, .ref co, .ref lo, .int (nI i9), .int en])), (li, .inr (2, [.ref lb, .int (nI 0), .int (nI (sz + 1))])), (lb, .inl (cI, 6247, .inl (nF (up B sz i9)))), (lo, .inr (4, [.ref lp, .int (nI nc), .int (nI ru)])), (lp, .inl (cI, 4, .inl (nF P))), (b, .inr (0, [.int (nI cnt), .ref qq])), (qq, .inl (cI, 3072, .inl (nF F)))]) [.int (nI i9)] [] Bd ⟨gi_app (gi_c0 k_344 (gi_c0 k_345 (gi_c0 k_346 (gi_c0 k_6 gi_nil)))) (gi_tb0 k_347), rfl, by decide, by decide⟩ (show (parseMethodDescriptor "(I)V").map (fun d => d.parameters.length) = some 1 by decide +kernel) (c_Line_add0 li lb sz B i9 (by omega)) (by decide +kernel) ⟨Nat.le_of_ble_eq_true rfl, Nat.le_of_ble_eq_true rfl⟩ hG hP hD hS hA [1, 2] [0, 3, 4, 5, 6] [0, 5, 6, 1, 2, 3, 4] (by decide) rfl rfl (fun _ => rfl) (q0 := 0) rfl rfl rfl hl.1 rfl (Nat.le_of_ble_eq_true rfl) d_Feed_addContent_67 (fun u4 H locs hp3 hP hD hS => ?_)
    have hP : va_P D classes [(a, .inr (5, [.ref se, .int (nI sn), .ref ca, .ref li, .ref co, .ref lo, .int (nI i9), .int en])), (li, .inr (2, [.ref lb, .int (nI 0), .int (nI (sz + 1))])), (lb, .inl (cI, 6247, .inl (nF (up B sz i9)))), (lo, .inr (4, [.ref lp, .int (nI nc), .int (nI ru)])), (lp, .inl (cI, 4, .inl (nF P))), (b, .inr (0, [.int (nI cnt), .ref qq])), (qq, .inl (cI, 3072, .inl (nF F)))] H := hP
    have hD : va_D AA [(a, .inr (5, [.ref se, .int (nI sn), .ref ca, .ref li, .ref co, .ref lo, .int (nI i9), .int en])), (li, .inr (2, [.ref lb, .int (nI 0), .int (nI (sz + 1))])), (lb, .inl (cI, 6247, .inl (nF (up B sz i9)))), (lo, .inr (4, [.ref lp, .int (nI nc), .int (nI ru)])), (lp, .inl (cI, 4, .inl (nF P))), (b, .inr (0, [.int (nI cnt), .ref qq])), (qq, .inl (cI, 3072, .inl (nF F)))] := hD
    refine lv_goto (tgt := 144) hx hb d_Feed_addContent_70 (by decide) ?_
    exact hret (sz + 1, up B sz i9) _ _ _ _ d_Feed_addContent_144 (⟨rfl, by rw [wr_1]; show _ = wr B sz [(nI i9).toNatClampNeg]; rw [nI_clamp (by omega)]⟩) hP hD hS
  · refine lv_tableIn (off := 72) (tgt := 73) hx hb d_Feed_addContent_1 (by decide) (by decide) (by decide) (by decide) ?_
    refine lv_aload_n hx hb d_Feed_addContent_73 rfl (lv_at hl 0 rfl) ?_
    refine va_get (D := D) (ci := 5) (v := .ref li) (C := "TileScreen$Feed") (T := F_Feed) (N := 8) hx hb htb i_Feed hown hG.1 hP 0 rfl rfl 3 (by decide) (htb _ k_125) (fun _ h9 => h9) rfl d_Feed_addContent_74 ?_
    refine lv_aload_n hx hb d_Feed_addContent_77 rfl (lv_at hl 0 rfl) ?_
    refine va_get (D := D) (ci := 5) (v := .int en) (C := "TileScreen$Feed") (T := F_Feed) (N := 8) hx hb htb i_Feed hown hG.1 hP 0 rfl rfl 7 (by decide) (htb _ k_132) (fun _ h9 => h9) rfl d_Feed_addContent_78 ?_
    obtain ⟨i9, hi9, rfl⟩ := hen (by simpa [fitC] using hfit)
    refine kV_v (wc := [(li, .inr (2, [.ref lb, .int (nI 0), .int (nI sz)])), (lb, .inl (cI, 6247, .inl (nF B)))]) (wr := [(a, .inr (5, [.ref se, .int (nI sn), .ref ca, .ref li, .ref co, .ref lo, .int tw, .int (nI i9)])), (lo, .inr (4, [.ref lp, .int (nI nc), .int (nI ru)])), (lp, .inl (cI, 4, .inl (nF P))), (b, .inr (0, [.int (nI cnt), .ref qq])), (qq, .inl (cI, 3072, .inl (nF F)))]) (w2 := fun _ => [(a, .inr (5, [.ref se, .int (nI sn), .ref ca, .ref li, .ref co, .ref lo, .int tw, .int (nI i9)])), (li, .inr (2, [.ref lb, .int (nI 0), .int (nI (sz + 1))])), (lb, .inl (cI, 6247, .inl (nF (up B sz i9)))), (lo, .inr (4, [.ref lp, .int (nI nc), .int (nI ru)])), (lp, .inl (cI, 4, .inl (nF P))), (b, .inr (0, [.int (nI cnt), .ref qq])), (qq, .inl (cI, 3072, .inl (nF F)))]) [.int (nI i9)] [] Bd ⟨gi_app (gi_c0 k_344 (gi_c0 k_345 (gi_c0 k_346 (gi_c0 k_6 gi_nil)))) (gi_tb0 k_347), rfl, by decide, by decide⟩ (show (parseMethodDescriptor "(I)V").map (fun d => d.parameters.length) = some 1 by decide +kernel) (c_Line_add0 li lb sz B i9 (by omega)) (by decide +kernel) ⟨Nat.le_of_ble_eq_true rfl, Nat.le_of_ble_eq_true rfl⟩ hG hP hD hS hA [1, 2] [0, 3, 4, 5, 6] [0, 5, 6, 1, 2, 3, 4] (by decide) rfl rfl (fun _ => rfl) (q0 := 0) rfl rfl rfl hl.1 rfl (Nat.le_of_ble_eq_true rfl) d_Feed_addContent_81 (fun u6 H locs hp5 hP hD hS => ?_)
    have hP : va_P D classes [(a, .inr (5, [.ref se, .int (nI sn), .ref ca, .ref li, .ref co, .ref lo, .int tw, .int (nI i9)])), (li, .inr (2, [.ref lb, .int (nI 0), .int (nI (sz + 1))])), (lb, .inl (cI, 6247, .inl (nF (up B sz i9)))), (lo, .inr (4, [.ref lp, .int (nI nc), .int (nI ru)])), (lp, .inl (cI, 4, .inl (nF P))), (b, .inr (0, [.int (nI cnt), .ref qq])), (qq, .inl (cI, 3072, .inl (nF F)))] H := hP
    have hD : va_D AA [(a, .inr (5, [.ref se, .int (nI sn), .ref ca, .ref li, .ref co, .ref lo, .int tw, .int (nI i9)])), (li, .inr (2, [.ref lb, .int (nI 0), .int (nI (sz + 1))])), (lb, .inl (cI, 6247, .inl (nF (up B sz i9)))), (lo, .inr (4, [.ref lp, .int (nI nc), .int (nI ru)])), (lp, .inl (cI, 4, .inl (nF P))), (b, .inr (0, [.int (nI cnt), .ref qq])), (qq, .inl (cI, 3072, .inl (nF F)))] := hD
    refine lv_goto (tgt := 144) hx hb d_Feed_addContent_84 (by decide) ?_
    exact hret (sz + 1, up B sz i9) _ _ _ _ d_Feed_addContent_144 (⟨rfl, by rw [wr_1]; show _ = wr B sz [(nI i9).toNatClampNeg]; rw [nI_clamp (by omega)]⟩) hP hD hS
  · refine lv_tableIn (off := 86) (tgt := 87) hx hb d_Feed_addContent_1 (by decide) (by decide) (by decide) (by decide) ?_
    have hn2 : nc = 2 := by simpa [fitC] using hfit
    refine lv_aload_n hx hb d_Feed_addContent_87 rfl (lv_at hl 0 rfl) ?_
    refine kV_v (wc := [(a, .inr (5, [.ref se, .int (nI sn), .ref ca, .ref li, .ref co, .ref lo, .int tw, .int en])), (li, .inr (2, [.ref lb, .int (nI 0), .int (nI sz)])), (lb, .inl (cI, 6247, .inl (nF B))), (lo, .inr (4, [.ref lp, .int (nI nc), .int (nI ru)])), (lp, .inl (cI, 4, .inl (nF P)))]) (wr := [(b, .inr (0, [.int (nI cnt), .ref qq])), (qq, .inl (cI, 3072, .inl (nF F)))]) (w2 := fun _ => [(a, .inr (5, [.ref se, .int (nI sn), .ref ca, .ref li, .ref co, .ref lo, .int tw, .int en])), (li, .inr (2, [.ref lb, .int (nI 0), .int (nI (sz + 2 * nc))])), (lb, .inl (cI, 6247, .inl (nF (wr B sz (rawL P nc))))), (lo, .inr (4, [.ref lp, .int (nI nc), .int (nI ru)])), (lp, .inl (cI, 4, .inl (nF P))), (b, .inr (0, [.int (nI cnt), .ref qq])), (qq, .inl (cI, 3072, .inl (nF F)))]) [] [] Bd ⟨gi_app (gi_c0 k_395 (gi_c0 k_397 (gi_c0 s_6 (gi_c0 k_4 gi_nil)))) (gi_tb0 k_398), rfl, by decide, by decide⟩ (show (parseMethodDescriptor "()V").map (fun d => d.parameters.length) = some 0 by decide +kernel) (c_Feed_addPalette a se sn ca li co lo tw en lb sz B lp nc ru P (by omega) (by omega) (bP)) (by decide +kernel) ⟨Nat.le_of_ble_eq_true rfl, Nat.le_of_ble_eq_true rfl⟩ hG hP hD hS hA [0, 1, 2, 3, 4] [5, 6] [2, 3, 4, 5, 6, 0, 1] (by decide) rfl rfl (fun _ => rfl) (q0 := 0) rfl rfl rfl hl.1 rfl (Nat.le_of_ble_eq_true rfl) d_Feed_addContent_88 (fun u8 H locs hp7 hP hD hS => ?_)
    have hP : va_P D classes [(a, .inr (5, [.ref se, .int (nI sn), .ref ca, .ref li, .ref co, .ref lo, .int tw, .int en])), (li, .inr (2, [.ref lb, .int (nI 0), .int (nI (sz + 2 * nc))])), (lb, .inl (cI, 6247, .inl (nF (wr B sz (rawL P nc))))), (lo, .inr (4, [.ref lp, .int (nI nc), .int (nI ru)])), (lp, .inl (cI, 4, .inl (nF P))), (b, .inr (0, [.int (nI cnt), .ref qq])), (qq, .inl (cI, 3072, .inl (nF F)))] H := hP
    have hD : va_D AA [(a, .inr (5, [.ref se, .int (nI sn), .ref ca, .ref li, .ref co, .ref lo, .int tw, .int en])), (li, .inr (2, [.ref lb, .int (nI 0), .int (nI (sz + 2 * nc))])), (lb, .inl (cI, 6247, .inl (nF (wr B sz (rawL P nc))))), (lo, .inr (4, [.ref lp, .int (nI nc), .int (nI ru)])), (lp, .inl (cI, 4, .inl (nF P))), (b, .inr (0, [.int (nI cnt), .ref qq])), (qq, .inl (cI, 3072, .inl (nF F)))] := hD
    refine lv_aload_n hx hb d_Feed_addContent_91 rfl (lv_at hl 0 rfl) ?_
    refine lv_aload_n hx hb d_Feed_addContent_92 rfl (lv_at hl 2 rfl) ?_
    refine lv_iload_n hx hb d_Feed_addContent_93 rfl (lv_at hl 3 rfl) ?_
    refine lv_iconst (v := nI 1) hx hb d_Feed_addContent_94 (by decide) ?_
    refine kV_v (wc := [(a, .inr (5, [.ref se, .int (nI sn), .ref ca, .ref li, .ref co, .ref lo, .int tw, .int en])), (li, .inr (2, [.ref lb, .int (nI 0), .int (nI (sz + 2 * nc))])), (lb, .inl (cI, 6247, .inl (nF (wr B sz (rawL P nc))))), (lo, .inr (4, [.ref lp, .int (nI nc), .int (nI ru)])), (lp, .inl (cI, 4, .inl (nF P))), (b, .inr (0, [.int (nI cnt), .ref qq])), (qq, .inl (cI, 3072, .inl (nF F)))]) (wr := []) (w2 := fun _ => [(a, .inr (5, [.ref se, .int (nI sn), .ref ca, .ref li, .ref co, .ref lo, .int tw, .int en])), (li, .inr (2, [.ref lb, .int (nI 0), .int (nI ((sz + 2 * nc) + (bL (fun k => numOf P nc (F (t * 64 + k))) 1 64).length))])), (lb, .inl (cI, 6247, .inl (nF (wr (wr B sz (rawL P nc)) (sz + 2 * nc) (bL (fun k => numOf P nc (F (t * 64 + k))) 1 64))))), (lo, .inr (4, [.ref lp, .int (nI nc), .int (nI ru)])), (lp, .inl (cI, 4, .inl (nF P))), (b, .inr (0, [.int (nI cnt), .ref qq])), (qq, .inl (cI, 3072, .inl (nF F)))]) [.ref b, .int (nI t), .int (nI 1)] [] Bd ⟨gi_app (gi_c0 k_399 (gi_c0 k_401 (gi_c0 s_7 (gi_c0 k_4 gi_nil)))) (gi_tb0 k_402), rfl, by decide, by decide⟩ (show (parseMethodDescriptor "(LTileScreen$Tiles;II)V").map (fun d => d.parameters.length) = some 3 by decide +kernel) (c_Feed_addBits a se sn ca li co lo tw en lb (sz + 2 * nc) (wr B sz (rawL P nc)) lp nc ru P b cnt qq F t 1 (Or.inl rfl) (by omega) (by omega) (hin (by omega)) (by omega) (by omega) (bP) (bF)) (by decide +kernel) ⟨Nat.le_of_ble_eq_true rfl, Nat.le_of_ble_eq_true rfl⟩ hG hP hD hS hA [0, 1, 2, 3, 4, 5, 6] [] [0, 1, 2, 3, 4, 5, 6] (by decide) rfl rfl (fun _ => rfl) (q0 := 0) rfl rfl rfl hl.1 rfl (Nat.le_of_ble_eq_true rfl) d_Feed_addContent_95 (fun u10 H locs hp9 hP hD hS => ?_)
    have hP : va_P D classes [(a, .inr (5, [.ref se, .int (nI sn), .ref ca, .ref li, .ref co, .ref lo, .int tw, .int en])), (li, .inr (2, [.ref lb, .int (nI 0), .int (nI ((sz + 2 * nc) + (bL (fun k => numOf P nc (F (t * 64 + k))) 1 64).length))])), (lb, .inl (cI, 6247, .inl (nF (wr (wr B sz (rawL P nc)) (sz + 2 * nc) (bL (fun k => numOf P nc (F (t * 64 + k))) 1 64))))), (lo, .inr (4, [.ref lp, .int (nI nc), .int (nI ru)])), (lp, .inl (cI, 4, .inl (nF P))), (b, .inr (0, [.int (nI cnt), .ref qq])), (qq, .inl (cI, 3072, .inl (nF F)))] H := hP
    have hD : va_D AA [(a, .inr (5, [.ref se, .int (nI sn), .ref ca, .ref li, .ref co, .ref lo, .int tw, .int en])), (li, .inr (2, [.ref lb, .int (nI 0), .int (nI ((sz + 2 * nc) + (bL (fun k => numOf P nc (F (t * 64 + k))) 1 64).length))])), (lb, .inl (cI, 6247, .inl (nF (wr (wr B sz (rawL P nc)) (sz + 2 * nc) (bL (fun k => numOf P nc (F (t * 64 + k))) 1 64))))), (lo, .inr (4, [.ref lp, .int (nI nc), .int (nI ru)])), (lp, .inl (cI, 4, .inl (nF P))), (b, .inr (0, [.int (nI cnt), .ref qq])), (qq, .inl (cI, 3072, .inl (nF F)))] := hD
    refine lv_goto (tgt := 144) hx hb d_Feed_addContent_98 (by decide) ?_
    exact hret ((sz + 2 * nc) + (bL (fun k => numOf P nc (F (t * 64 + k))) 1 64).length, wr (wr B sz (rawL P nc)) (sz + 2 * nc) (bL (fun k => numOf P nc (F (t * 64 + k))) 1 64)) _ _ _ _ d_Feed_addContent_144 (⟨by rw [bL_len (Or.inl rfl)]; show _ = sz + 12; omega, wr_app' (by rw [rawL_len])⟩) hP hD hS
  · refine lv_tableIn (off := 100) (tgt := 101) hx hb d_Feed_addContent_1 (by decide) (by decide) (by decide) (by decide) ?_
    have hn3 : nc = 3 ∨ nc = 4 := by simpa [fitC] using hfit
    refine lv_aload_n hx hb d_Feed_addContent_101 rfl (lv_at hl 0 rfl) ?_
    refine va_get (D := D) (ci := 5) (v := .ref li) (C := "TileScreen$Feed") (T := F_Feed) (N := 8) hx hb htb i_Feed hown hG.1 hP 0 rfl rfl 3 (by decide) (htb _ k_125) (fun _ h9 => h9) rfl d_Feed_addContent_102 ?_
    refine lv_aload_n hx hb d_Feed_addContent_105 rfl (lv_at hl 0 rfl) ?_
    refine va_get (D := D) (ci := 5) (v := .ref lo) (C := "TileScreen$Feed") (T := F_Feed) (N := 8) hx hb htb i_Feed hown hG.1 hP 0 rfl rfl 5 (by decide) (htb _ k_130) (fun _ h9 => h9) rfl d_Feed_addContent_106 ?_
    refine va_getN (D := D) (ci := 4) (v := .int (nI nc)) (C := "TileScreen$Look") (T := F_Look) (N := 3) hx hb htb i_Look hown hG.1 hP 3 rfl rfl 1 (by decide) (va_Nw.use rfl (hG.2 _ k_106).2) (fun _ h9 => h9) rfl d_Feed_addContent_109 ?_
    refine kV_v (wc := [(li, .inr (2, [.ref lb, .int (nI 0), .int (nI sz)])), (lb, .inl (cI, 6247, .inl (nF B)))]) (wr := [(a, .inr (5, [.ref se, .int (nI sn), .ref ca, .ref li, .ref co, .ref lo, .int tw, .int en])), (lo, .inr (4, [.ref lp, .int (nI nc), .int (nI ru)])), (lp, .inl (cI, 4, .inl (nF P))), (b, .inr (0, [.int (nI cnt), .ref qq])), (qq, .inl (cI, 3072, .inl (nF F)))]) (w2 := fun _ => [(a, .inr (5, [.ref se, .int (nI sn), .ref ca, .ref li, .ref co, .ref lo, .int tw, .int en])), (li, .inr (2, [.ref lb, .int (nI 0), .int (nI (sz + 1))])), (lb, .inl (cI, 6247, .inl (nF (up B sz nc)))), (lo, .inr (4, [.ref lp, .int (nI nc), .int (nI ru)])), (lp, .inl (cI, 4, .inl (nF P))), (b, .inr (0, [.int (nI cnt), .ref qq])), (qq, .inl (cI, 3072, .inl (nF F)))]) [.int (nI nc)] [] Bd ⟨gi_app (gi_c0 k_344 (gi_c0 k_345 (gi_c0 k_346 (gi_c0 k_6 gi_nil)))) (gi_tb0 k_347), rfl, by decide, by decide⟩ (show (parseMethodDescriptor "(I)V").map (fun d => d.parameters.length) = some 1 by decide +kernel) (c_Line_add0 li lb sz B nc (by omega)) (by decide +kernel) ⟨Nat.le_of_ble_eq_true rfl, Nat.le_of_ble_eq_true rfl⟩ hG hP hD hS hA [1, 2] [0, 3, 4, 5, 6] [0, 5, 6, 1, 2, 3, 4] (by decide) rfl rfl (fun _ => rfl) (q0 := 0) rfl rfl rfl hl.1 rfl (Nat.le_of_ble_eq_true rfl) d_Feed_addContent_112 (fun u12 H locs hp11 hP hD hS => ?_)
    have hP : va_P D classes [(a, .inr (5, [.ref se, .int (nI sn), .ref ca, .ref li, .ref co, .ref lo, .int tw, .int en])), (li, .inr (2, [.ref lb, .int (nI 0), .int (nI (sz + 1))])), (lb, .inl (cI, 6247, .inl (nF (up B sz nc)))), (lo, .inr (4, [.ref lp, .int (nI nc), .int (nI ru)])), (lp, .inl (cI, 4, .inl (nF P))), (b, .inr (0, [.int (nI cnt), .ref qq])), (qq, .inl (cI, 3072, .inl (nF F)))] H := hP
    have hD : va_D AA [(a, .inr (5, [.ref se, .int (nI sn), .ref ca, .ref li, .ref co, .ref lo, .int tw, .int en])), (li, .inr (2, [.ref lb, .int (nI 0), .int (nI (sz + 1))])), (lb, .inl (cI, 6247, .inl (nF (up B sz nc)))), (lo, .inr (4, [.ref lp, .int (nI nc), .int (nI ru)])), (lp, .inl (cI, 4, .inl (nF P))), (b, .inr (0, [.int (nI cnt), .ref qq])), (qq, .inl (cI, 3072, .inl (nF F)))] := hD
    refine lv_aload_n hx hb d_Feed_addContent_115 rfl (lv_at hl 0 rfl) ?_
    refine kV_v (wc := [(a, .inr (5, [.ref se, .int (nI sn), .ref ca, .ref li, .ref co, .ref lo, .int tw, .int en])), (li, .inr (2, [.ref lb, .int (nI 0), .int (nI (sz + 1))])), (lb, .inl (cI, 6247, .inl (nF (up B sz nc)))), (lo, .inr (4, [.ref lp, .int (nI nc), .int (nI ru)])), (lp, .inl (cI, 4, .inl (nF P)))]) (wr := [(b, .inr (0, [.int (nI cnt), .ref qq])), (qq, .inl (cI, 3072, .inl (nF F)))]) (w2 := fun _ => [(a, .inr (5, [.ref se, .int (nI sn), .ref ca, .ref li, .ref co, .ref lo, .int tw, .int en])), (li, .inr (2, [.ref lb, .int (nI 0), .int (nI ((sz + 1) + 2 * nc))])), (lb, .inl (cI, 6247, .inl (nF (wr (up B sz nc) (sz + 1) (rawL P nc))))), (lo, .inr (4, [.ref lp, .int (nI nc), .int (nI ru)])), (lp, .inl (cI, 4, .inl (nF P))), (b, .inr (0, [.int (nI cnt), .ref qq])), (qq, .inl (cI, 3072, .inl (nF F)))]) [] [] Bd ⟨gi_app (gi_c0 k_395 (gi_c0 k_397 (gi_c0 s_6 (gi_c0 k_4 gi_nil)))) (gi_tb0 k_398), rfl, by decide, by decide⟩ (show (parseMethodDescriptor "()V").map (fun d => d.parameters.length) = some 0 by decide +kernel) (c_Feed_addPalette a se sn ca li co lo tw en lb (sz + 1) (up B sz nc) lp nc ru P (by omega) (by omega) (bP)) (by decide +kernel) ⟨Nat.le_of_ble_eq_true rfl, Nat.le_of_ble_eq_true rfl⟩ hG hP hD hS hA [0, 1, 2, 3, 4] [5, 6] [2, 3, 4, 5, 6, 0, 1] (by decide) rfl rfl (fun _ => rfl) (q0 := 0) rfl rfl rfl hl.1 rfl (Nat.le_of_ble_eq_true rfl) d_Feed_addContent_116 (fun u14 H locs hp13 hP hD hS => ?_)
    have hP : va_P D classes [(a, .inr (5, [.ref se, .int (nI sn), .ref ca, .ref li, .ref co, .ref lo, .int tw, .int en])), (li, .inr (2, [.ref lb, .int (nI 0), .int (nI ((sz + 1) + 2 * nc))])), (lb, .inl (cI, 6247, .inl (nF (wr (up B sz nc) (sz + 1) (rawL P nc))))), (lo, .inr (4, [.ref lp, .int (nI nc), .int (nI ru)])), (lp, .inl (cI, 4, .inl (nF P))), (b, .inr (0, [.int (nI cnt), .ref qq])), (qq, .inl (cI, 3072, .inl (nF F)))] H := hP
    have hD : va_D AA [(a, .inr (5, [.ref se, .int (nI sn), .ref ca, .ref li, .ref co, .ref lo, .int tw, .int en])), (li, .inr (2, [.ref lb, .int (nI 0), .int (nI ((sz + 1) + 2 * nc))])), (lb, .inl (cI, 6247, .inl (nF (wr (up B sz nc) (sz + 1) (rawL P nc))))), (lo, .inr (4, [.ref lp, .int (nI nc), .int (nI ru)])), (lp, .inl (cI, 4, .inl (nF P))), (b, .inr (0, [.int (nI cnt), .ref qq])), (qq, .inl (cI, 3072, .inl (nF F)))] := hD
    refine lv_aload_n hx hb d_Feed_addContent_119 rfl (lv_at hl 0 rfl) ?_
    refine lv_aload_n hx hb d_Feed_addContent_120 rfl (lv_at hl 2 rfl) ?_
    refine lv_iload_n hx hb d_Feed_addContent_121 rfl (lv_at hl 3 rfl) ?_
    refine lv_iconst (v := nI 2) hx hb d_Feed_addContent_122 (by decide) ?_
    refine kV_v (wc := [(a, .inr (5, [.ref se, .int (nI sn), .ref ca, .ref li, .ref co, .ref lo, .int tw, .int en])), (li, .inr (2, [.ref lb, .int (nI 0), .int (nI ((sz + 1) + 2 * nc))])), (lb, .inl (cI, 6247, .inl (nF (wr (up B sz nc) (sz + 1) (rawL P nc))))), (lo, .inr (4, [.ref lp, .int (nI nc), .int (nI ru)])), (lp, .inl (cI, 4, .inl (nF P))), (b, .inr (0, [.int (nI cnt), .ref qq])), (qq, .inl (cI, 3072, .inl (nF F)))]) (wr := []) (w2 := fun _ => [(a, .inr (5, [.ref se, .int (nI sn), .ref ca, .ref li, .ref co, .ref lo, .int tw, .int en])), (li, .inr (2, [.ref lb, .int (nI 0), .int (nI (((sz + 1) + 2 * nc) + (bL (fun k => numOf P nc (F (t * 64 + k))) 2 64).length))])), (lb, .inl (cI, 6247, .inl (nF (wr (wr (up B sz nc) (sz + 1) (rawL P nc)) ((sz + 1) + 2 * nc) (bL (fun k => numOf P nc (F (t * 64 + k))) 2 64))))), (lo, .inr (4, [.ref lp, .int (nI nc), .int (nI ru)])), (lp, .inl (cI, 4, .inl (nF P))), (b, .inr (0, [.int (nI cnt), .ref qq])), (qq, .inl (cI, 3072, .inl (nF F)))]) [.ref b, .int (nI t), .int (nI 2)] [] Bd ⟨gi_app (gi_c0 k_399 (gi_c0 k_401 (gi_c0 s_7 (gi_c0 k_4 gi_nil)))) (gi_tb0 k_402), rfl, by decide, by decide⟩ (show (parseMethodDescriptor "(LTileScreen$Tiles;II)V").map (fun d => d.parameters.length) = some 3 by decide +kernel) (c_Feed_addBits a se sn ca li co lo tw en lb ((sz + 1) + 2 * nc) (wr (up B sz nc) (sz + 1) (rawL P nc)) lp nc ru P b cnt qq F t 2 (Or.inr rfl) (by omega) (by omega) (hin (by omega)) (by omega) (by omega) (bP) (bF)) (by decide +kernel) ⟨Nat.le_of_ble_eq_true rfl, Nat.le_of_ble_eq_true rfl⟩ hG hP hD hS hA [0, 1, 2, 3, 4, 5, 6] [] [0, 1, 2, 3, 4, 5, 6] (by decide) rfl rfl (fun _ => rfl) (q0 := 0) rfl rfl rfl hl.1 rfl (Nat.le_of_ble_eq_true rfl) d_Feed_addContent_123 (fun u16 H locs hp15 hP hD hS => ?_)
    have hP : va_P D classes [(a, .inr (5, [.ref se, .int (nI sn), .ref ca, .ref li, .ref co, .ref lo, .int tw, .int en])), (li, .inr (2, [.ref lb, .int (nI 0), .int (nI (((sz + 1) + 2 * nc) + (bL (fun k => numOf P nc (F (t * 64 + k))) 2 64).length))])), (lb, .inl (cI, 6247, .inl (nF (wr (wr (up B sz nc) (sz + 1) (rawL P nc)) ((sz + 1) + 2 * nc) (bL (fun k => numOf P nc (F (t * 64 + k))) 2 64))))), (lo, .inr (4, [.ref lp, .int (nI nc), .int (nI ru)])), (lp, .inl (cI, 4, .inl (nF P))), (b, .inr (0, [.int (nI cnt), .ref qq])), (qq, .inl (cI, 3072, .inl (nF F)))] H := hP
    have hD : va_D AA [(a, .inr (5, [.ref se, .int (nI sn), .ref ca, .ref li, .ref co, .ref lo, .int tw, .int en])), (li, .inr (2, [.ref lb, .int (nI 0), .int (nI (((sz + 1) + 2 * nc) + (bL (fun k => numOf P nc (F (t * 64 + k))) 2 64).length))])), (lb, .inl (cI, 6247, .inl (nF (wr (wr (up B sz nc) (sz + 1) (rawL P nc)) ((sz + 1) + 2 * nc) (bL (fun k => numOf P nc (F (t * 64 + k))) 2 64))))), (lo, .inr (4, [.ref lp, .int (nI nc), .int (nI ru)])), (lp, .inl (cI, 4, .inl (nF P))), (b, .inr (0, [.int (nI cnt), .ref qq])), (qq, .inl (cI, 3072, .inl (nF F)))] := hD
    refine lv_goto (tgt := 144) hx hb d_Feed_addContent_126 (by decide) ?_
    exact hret (((sz + 1) + 2 * nc) + (bL (fun k => numOf P nc (F (t * 64 + k))) 2 64).length, wr (wr (up B sz nc) (sz + 1) (rawL P nc)) ((sz + 1) + 2 * nc) (bL (fun k => numOf P nc (F (t * 64 + k))) 2 64)) _ _ _ _ d_Feed_addContent_144 (⟨by rw [bL_len (Or.inr rfl)]; show _ = sz + (1 + 2 * nc + 16); omega, by rw [wr_1, wr_app' (L := [nc]) (s := sz + 1) (by rfl), wr_app' (by rw [List.length_append, rawL_len]; show _ = sz + (1 + 2 * nc); omega)]; rfl⟩) hP hD hS
  · refine lv_tableIn (off := 128) (tgt := 129) hx hb d_Feed_addContent_1 (by decide) (by decide) (by decide) (by decide) ?_
    have hl5 : 1 + 3 * ru ≤ 128 := hlen
    refine lv_aload_n hx hb d_Feed_addContent_129 rfl (lv_at hl 0 rfl) ?_
    refine lv_aload_n hx hb d_Feed_addContent_130 rfl (lv_at hl 2 rfl) ?_
    refine lv_iload_n hx hb d_Feed_addContent_131 rfl (lv_at hl 3 rfl) ?_
    refine kV_v (wc := [(a, .inr (5, [.ref se, .int (nI sn), .ref ca, .ref li, .ref co, .ref lo, .int tw, .int en])), (li, .inr (2, [.ref lb, .int (nI 0), .int (nI sz)])), (lb, .inl (cI, 6247, .inl (nF B))), (lo, .inr (4, [.ref lp, .int (nI nc), .int (nI ru)])), (lp, .inl (cI, 4, .inl (nF P))), (b, .inr (0, [.int (nI cnt), .ref qq])), (qq, .inl (cI, 3072, .inl (nF F)))]) (wr := []) (w2 := fun _ => [(a, .inr (5, [.ref se, .int (nI sn), .ref ca, .ref li, .ref co, .ref lo, .int tw, .int en])), (li, .inr (2, [.ref lb, .int (nI 0), .int (nI (sz + 1 + (runL (fun j => F (t * 64 + j)) 64).length))])), (lb, .inl (cI, 6247, .inl (nF (wr B sz (ru :: runL (fun j => F (t * 64 + j)) 64))))), (lo, .inr (4, [.ref lp, .int (nI nc), .int (nI ru)])), (lp, .inl (cI, 4, .inl (nF P))), (b, .inr (0, [.int (nI cnt), .ref qq])), (qq, .inl (cI, 3072, .inl (nF F)))]) [.ref b, .int (nI t)] [] Bd ⟨gi_app (gi_c0 k_405 (gi_c0 k_407 (gi_c0 s_8 (gi_c0 k_4 gi_nil)))) (gi_tb0 k_408), rfl, by decide, by decide⟩ (show (parseMethodDescriptor "(LTileScreen$Tiles;I)V").map (fun d => d.parameters.length) = some 2 by decide +kernel) (c_Feed_addRuns a se sn ca li co lo tw en lb sz B lp nc ru P b cnt qq F t (hru) (by omega) (by omega) (bF)) (by decide +kernel) ⟨Nat.le_of_ble_eq_true rfl, Nat.le_of_ble_eq_true rfl⟩ hG hP hD hS hA [0, 1, 2, 3, 4, 5, 6] [] [0, 1, 2, 3, 4, 5, 6] (by decide) rfl rfl (fun _ => rfl) (q0 := 0) rfl rfl rfl hl.1 rfl (Nat.le_of_ble_eq_true rfl) d_Feed_addContent_132 (fun u18 H locs hp17 hP hD hS => ?_)
    have hP : va_P D classes [(a, .inr (5, [.ref se, .int (nI sn), .ref ca, .ref li, .ref co, .ref lo, .int tw, .int en])), (li, .inr (2, [.ref lb, .int (nI 0), .int (nI (sz + 1 + (runL (fun j => F (t * 64 + j)) 64).length))])), (lb, .inl (cI, 6247, .inl (nF (wr B sz (ru :: runL (fun j => F (t * 64 + j)) 64))))), (lo, .inr (4, [.ref lp, .int (nI nc), .int (nI ru)])), (lp, .inl (cI, 4, .inl (nF P))), (b, .inr (0, [.int (nI cnt), .ref qq])), (qq, .inl (cI, 3072, .inl (nF F)))] H := hP
    have hD : va_D AA [(a, .inr (5, [.ref se, .int (nI sn), .ref ca, .ref li, .ref co, .ref lo, .int tw, .int en])), (li, .inr (2, [.ref lb, .int (nI 0), .int (nI (sz + 1 + (runL (fun j => F (t * 64 + j)) 64).length))])), (lb, .inl (cI, 6247, .inl (nF (wr B sz (ru :: runL (fun j => F (t * 64 + j)) 64))))), (lo, .inr (4, [.ref lp, .int (nI nc), .int (nI ru)])), (lp, .inl (cI, 4, .inl (nF P))), (b, .inr (0, [.int (nI cnt), .ref qq])), (qq, .inl (cI, 3072, .inl (nF F)))] := hD
    refine lv_goto (tgt := 144) hx hb d_Feed_addContent_135 (by decide) ?_
    exact hret (sz + 1 + (runL (fun j => F (t * 64 + j)) 64).length, wr B sz (ru :: runL (fun j => F (t * 64 + j)) 64)) _ _ _ _ d_Feed_addContent_144 (⟨by rw [runL_64, ← hru]; show _ = sz + (1 + 3 * ru); omega, rfl⟩) hP hD hS
  · refine lv_tableOut (tgt := 138) hx hb d_Feed_addContent_1 (Or.inr (by decide)) (by decide) ?_
    refine lv_aload_n hx hb d_Feed_addContent_138 rfl (lv_at hl 0 rfl) ?_
    refine lv_aload_n hx hb d_Feed_addContent_139 rfl (lv_at hl 2 rfl) ?_
    refine lv_iload_n hx hb d_Feed_addContent_140 rfl (lv_at hl 3 rfl) ?_
    refine kV_v (wc := [(a, .inr (5, [.ref se, .int (nI sn), .ref ca, .ref li, .ref co, .ref lo, .int tw, .int en])), (li, .inr (2, [.ref lb, .int (nI 0), .int (nI sz)])), (lb, .inl (cI, 6247, .inl (nF B))), (b, .inr (0, [.int (nI cnt), .ref qq])), (qq, .inl (cI, 3072, .inl (nF F)))]) (wr := [(lo, .inr (4, [.ref lp, .int (nI nc), .int (nI ru)])), (lp, .inl (cI, 4, .inl (nF P)))]) (w2 := fun _ => [(a, .inr (5, [.ref se, .int (nI sn), .ref ca, .ref li, .ref co, .ref lo, .int tw, .int en])), (li, .inr (2, [.ref lb, .int (nI 0), .int (nI (sz + 128))])), (lb, .inl (cI, 6247, .inl (nF (wr B sz (rawL (fun j => F (t * 64 + j)) 64))))), (lo, .inr (4, [.ref lp, .int (nI nc), .int (nI ru)])), (lp, .inl (cI, 4, .inl (nF P))), (b, .inr (0, [.int (nI cnt), .ref qq])), (qq, .inl (cI, 3072, .inl (nF F)))]) [.ref b, .int (nI t)] [] Bd ⟨gi_app (gi_c0 k_409 (gi_c0 k_411 (gi_c0 s_9 (gi_c0 k_4 gi_nil)))) (gi_tb0 k_412), rfl, by decide, by decide⟩ (show (parseMethodDescriptor "(LTileScreen$Tiles;I)V").map (fun d => d.parameters.length) = some 2 by decide +kernel) (c_Feed_addRaw a se sn ca li co lo tw en lb sz B b cnt qq F t (by omega) (by omega) (bF)) (by decide +kernel) ⟨Nat.le_of_ble_eq_true rfl, Nat.le_of_ble_eq_true rfl⟩ hG hP hD hS hA [0, 1, 2, 5, 6] [3, 4] [2, 3, 4, 0, 1, 5, 6] (by decide) rfl rfl (fun _ => rfl) (q0 := 0) rfl rfl rfl hl.1 rfl (Nat.le_of_ble_eq_true rfl) d_Feed_addContent_141 (fun u20 H locs hp19 hP hD hS => ?_)
    have hP : va_P D classes [(a, .inr (5, [.ref se, .int (nI sn), .ref ca, .ref li, .ref co, .ref lo, .int tw, .int en])), (li, .inr (2, [.ref lb, .int (nI 0), .int (nI (sz + 128))])), (lb, .inl (cI, 6247, .inl (nF (wr B sz (rawL (fun j => F (t * 64 + j)) 64))))), (lo, .inr (4, [.ref lp, .int (nI nc), .int (nI ru)])), (lp, .inl (cI, 4, .inl (nF P))), (b, .inr (0, [.int (nI cnt), .ref qq])), (qq, .inl (cI, 3072, .inl (nF F)))] H := hP
    have hD : va_D AA [(a, .inr (5, [.ref se, .int (nI sn), .ref ca, .ref li, .ref co, .ref lo, .int tw, .int en])), (li, .inr (2, [.ref lb, .int (nI 0), .int (nI (sz + 128))])), (lb, .inl (cI, 6247, .inl (nF (wr B sz (rawL (fun j => F (t * 64 + j)) 64))))), (lo, .inr (4, [.ref lp, .int (nI nc), .int (nI ru)])), (lp, .inl (cI, 4, .inl (nF P))), (b, .inr (0, [.int (nI cnt), .ref qq])), (qq, .inl (cI, 3072, .inl (nF F)))] := hD
    exact hret (sz + 128, wr B sz (rawL (fun j => F (t * 64 + j)) 64)) _ _ _ _ d_Feed_addContent_144 (⟨rfl, rfl⟩) hP hD hS
end
end
