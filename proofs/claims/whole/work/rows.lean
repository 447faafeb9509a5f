section
-- ===== PART A: goes FIRST, ahead of the names: the tables' words, and 'selects' of the private methods out of them =====
/-- a private method of a class that the tables say can be made, by its rows of tables_1 -/
def lw_okq (q : MethodName × Nat) : Prop := (q.1.cls ≠ "java/lang/invoke/MethodHandle" ∧ q.1.cls ≠ "java/lang/invoke/VarHandle") ∧ Cond.instantiable q.1.cls q.2 ∈ tables_1 ∧ Cond.privateMethod q.1 ∈ tables_1 ∧ Cond.instanceMethod q.1 ∈ tables_1
theorem lw_p0 : lw_okq (⟨"MagnetChain", "record", "()V"⟩, 7) := ⟨⟨by decide +kernel, by decide +kernel⟩, List.mem_of_getElem? (i := 11) (by decide +kernel), List.mem_of_getElem? (i := 177) (by decide +kernel), List.mem_of_getElem? (i := 178) (by decide +kernel)⟩
theorem lw_p1 : lw_okq (⟨"MagnetChain", "dropOldest", "()V"⟩, 7) := ⟨⟨by decide +kernel, by decide +kernel⟩, List.mem_of_getElem? (i := 11) (by decide +kernel), List.mem_of_getElem? (i := 181) (by decide +kernel), List.mem_of_getElem? (i := 182) (by decide +kernel)⟩
theorem lw_p2 : lw_okq (⟨"MagnetChain$Chain", "settleOnce", "(LMagnetChain$Books;)Z"⟩, 8) := ⟨⟨by decide +kernel, by decide +kernel⟩, List.mem_of_getElem? (i := 25) (by decide +kernel), List.mem_of_getElem? (i := 221) (by decide +kernel), List.mem_of_getElem? (i := 222) (by decide +kernel)⟩
theorem lw_p3 : lw_okq (⟨"MagnetChain$Chain", "pullOn", "(II)I"⟩, 8) := ⟨⟨by decide +kernel, by decide +kernel⟩, List.mem_of_getElem? (i := 25) (by decide +kernel), List.mem_of_getElem? (i := 229) (by decide +kernel), List.mem_of_getElem? (i := 230) (by decide +kernel)⟩
theorem lw_p4 : lw_okq (⟨"MagnetChain$Chain", "partOfField", "(I)I"⟩, 8) := ⟨⟨by decide +kernel, by decide +kernel⟩, List.mem_of_getElem? (i := 25) (by decide +kernel), List.mem_of_getElem? (i := 238) (by decide +kernel), List.mem_of_getElem? (i := 239) (by decide +kernel)⟩
theorem lw_p5 : lw_okq (⟨"MagnetChain$Books", "dropOldestTurn", "()V"⟩, 8) := ⟨⟨by decide +kernel, by decide +kernel⟩, List.mem_of_getElem? (i := 71) (by decide +kernel), List.mem_of_getElem? (i := 256) (by decide +kernel), List.mem_of_getElem? (i := 257) (by decide +kernel)⟩
theorem lw_p6 : lw_okq (⟨"MagnetChain", "startChange", "()I"⟩, 7) := ⟨⟨by decide +kernel, by decide +kernel⟩, List.mem_of_getElem? (i := 11) (by decide +kernel), List.mem_of_getElem? (i := 268) (by decide +kernel), List.mem_of_getElem? (i := 269) (by decide +kernel)⟩
theorem lw_p7 : lw_okq (⟨"MagnetChain$Chain", "copyMagnet", "(ILMagnetChain$Chain;I)V"⟩, 8) := ⟨⟨by decide +kernel, by decide +kernel⟩, List.mem_of_getElem? (i := 25) (by decide +kernel), List.mem_of_getElem? (i := 280) (by decide +kernel), List.mem_of_getElem? (i := 281) (by decide +kernel)⟩
theorem lw_p8 : lw_okq (⟨"MagnetChain", "endChange", "(I)I"⟩, 7) := ⟨⟨by decide +kernel, by decide +kernel⟩, List.mem_of_getElem? (i := 11) (by decide +kernel), List.mem_of_getElem? (i := 284) (by decide +kernel), List.mem_of_getElem? (i := 285) (by decide +kernel)⟩
theorem lw_p9 : lw_okq (⟨"MagnetChain", "isMagnet", "(I)Z"⟩, 7) := ⟨⟨by decide +kernel, by decide +kernel⟩, List.mem_of_getElem? (i := 11) (by decide +kernel), List.mem_of_getElem? (i := 292) (by decide +kernel), List.mem_of_getElem? (i := 293) (by decide +kernel)⟩
theorem lw_p10 : lw_okq (⟨"MagnetChain$Text", "refuse", "(II)Z"⟩, 4) := ⟨⟨by decide +kernel, by decide +kernel⟩, List.mem_of_getElem? (i := 120) (by decide +kernel), List.mem_of_getElem? (i := 445) (by decide +kernel), List.mem_of_getElem? (i := 446) (by decide +kernel)⟩
theorem lw_p11 : lw_okq (⟨"MagnetChainModel", "lay", "(I)V"⟩, 21) := ⟨⟨by decide +kernel, by decide +kernel⟩, List.mem_of_getElem? (i := 462) (by decide +kernel), List.mem_of_getElem? (i := 469) (by decide +kernel), List.mem_of_getElem? (i := 470) (by decide +kernel)⟩
theorem lw_p12 : lw_okq (⟨"MagnetChainModel", "record", "()V"⟩, 21) := ⟨⟨by decide +kernel, by decide +kernel⟩, List.mem_of_getElem? (i := 462) (by decide +kernel), List.mem_of_getElem? (i := 550) (by decide +kernel), List.mem_of_getElem? (i := 551) (by decide +kernel)⟩
theorem lw_p13 : lw_okq (⟨"MagnetChainModel", "settle", "()I"⟩, 21) := ⟨⟨by decide +kernel, by decide +kernel⟩, List.mem_of_getElem? (i := 462) (by decide +kernel), List.mem_of_getElem? (i := 554) (by decide +kernel), List.mem_of_getElem? (i := 555) (by decide +kernel)⟩
theorem lw_p14 : lw_okq (⟨"MagnetChainModel", "free", "(II)I"⟩, 21) := ⟨⟨by decide +kernel, by decide +kernel⟩, List.mem_of_getElem? (i := 462) (by decide +kernel), List.mem_of_getElem? (i := 558) (by decide +kernel), List.mem_of_getElem? (i := 559) (by decide +kernel)⟩
theorem lw_p15 : lw_okq (⟨"MagnetChainModel", "angle", "(I)I"⟩, 21) := ⟨⟨by decide +kernel, by decide +kernel⟩, List.mem_of_getElem? (i := 462) (by decide +kernel), List.mem_of_getElem? (i := 562) (by decide +kernel), List.mem_of_getElem? (i := 563) (by decide +kernel)⟩
def lw_privs_1 : List (MethodName × Nat) := [(⟨"MagnetChain", "record", "()V"⟩, 7), (⟨"MagnetChain", "dropOldest", "()V"⟩, 7), (⟨"MagnetChain$Chain", "settleOnce", "(LMagnetChain$Books;)Z"⟩, 8), (⟨"MagnetChain$Chain", "pullOn", "(II)I"⟩, 8), (⟨"MagnetChain$Chain", "partOfField", "(I)I"⟩, 8), (⟨"MagnetChain$Books", "dropOldestTurn", "()V"⟩, 8), (⟨"MagnetChain", "startChange", "()I"⟩, 7), (⟨"MagnetChain$Chain", "copyMagnet", "(ILMagnetChain$Chain;I)V"⟩, 8), (⟨"MagnetChain", "endChange", "(I)I"⟩, 7), (⟨"MagnetChain", "isMagnet", "(I)Z"⟩, 7), (⟨"MagnetChain$Text", "refuse", "(II)Z"⟩, 4), (⟨"MagnetChainModel", "lay", "(I)V"⟩, 21), (⟨"MagnetChainModel", "record", "()V"⟩, 21), (⟨"MagnetChainModel", "settle", "()I"⟩, 21), (⟨"MagnetChainModel", "free", "(II)I"⟩, 21), (⟨"MagnetChainModel", "angle", "(I)I"⟩, 21)]
theorem lw_r1 : ∀ q ∈ lw_privs_1, lw_okq q := List.forall_mem_cons.mpr ⟨lw_p0, List.forall_mem_cons.mpr ⟨lw_p1, List.forall_mem_cons.mpr ⟨lw_p2, List.forall_mem_cons.mpr ⟨lw_p3, List.forall_mem_cons.mpr ⟨lw_p4, List.forall_mem_cons.mpr ⟨lw_p5, List.forall_mem_cons.mpr ⟨lw_p6, List.forall_mem_cons.mpr ⟨lw_p7, List.forall_mem_cons.mpr ⟨lw_p8, List.forall_mem_cons.mpr ⟨lw_p9, List.forall_mem_cons.mpr ⟨lw_p10, List.forall_mem_cons.mpr ⟨lw_p11, List.forall_mem_cons.mpr ⟨lw_p12, List.forall_mem_cons.mpr ⟨lw_p13, List.forall_mem_cons.mpr ⟨lw_p14, List.forall_mem_cons.mpr ⟨lw_p15, fun _ h => absurd h List.not_mem_nil⟩⟩⟩⟩⟩⟩⟩⟩⟩⟩⟩⟩⟩⟩⟩⟩
theorem lw_p16 : lw_okq (⟨"MagnetChainModel", "part", "(II)I"⟩, 21) := ⟨⟨by decide +kernel, by decide +kernel⟩, List.mem_of_getElem? (i := 462) (by decide +kernel), List.mem_of_getElem? (i := 566) (by decide +kernel), List.mem_of_getElem? (i := 567) (by decide +kernel)⟩
theorem lw_p17 : lw_okq (⟨"MagnetChainModel", "pair", "(III)I"⟩, 21) := ⟨⟨by decide +kernel, by decide +kernel⟩, List.mem_of_getElem? (i := 462) (by decide +kernel), List.mem_of_getElem? (i := 570) (by decide +kernel), List.mem_of_getElem? (i := 571) (by decide +kernel)⟩
theorem lw_p18 : lw_okq (⟨"MagnetChainModel", "isMagnet", "(I)Z"⟩, 21) := ⟨⟨by decide +kernel, by decide +kernel⟩, List.mem_of_getElem? (i := 462) (by decide +kernel), List.mem_of_getElem? (i := 574) (by decide +kernel), List.mem_of_getElem? (i := 575) (by decide +kernel)⟩
theorem lw_p19 : lw_okq (⟨"MagnetChainModel", "field", "(I)I"⟩, 21) := ⟨⟨by decide +kernel, by decide +kernel⟩, List.mem_of_getElem? (i := 462) (by decide +kernel), List.mem_of_getElem? (i := 584) (by decide +kernel), List.mem_of_getElem? (i := 585) (by decide +kernel)⟩
theorem lw_p20 : lw_okq (⟨"MagnetChainModel", "note", "(III)V"⟩, 21) := ⟨⟨by decide +kernel, by decide +kernel⟩, List.mem_of_getElem? (i := 462) (by decide +kernel), List.mem_of_getElem? (i := 591) (by decide +kernel), List.mem_of_getElem? (i := 592) (by decide +kernel)⟩
theorem lw_p21 : lw_okq (⟨"MagnetChainModel", "energy", "()I"⟩, 21) := ⟨⟨by decide +kernel, by decide +kernel⟩, List.mem_of_getElem? (i := 462) (by decide +kernel), List.mem_of_getElem? (i := 600) (by decide +kernel), List.mem_of_getElem? (i := 601) (by decide +kernel)⟩
theorem lw_p22 : lw_okq (⟨"MagnetChainModel", "end", "(I)I"⟩, 21) := ⟨⟨by decide +kernel, by decide +kernel⟩, List.mem_of_getElem? (i := 462) (by decide +kernel), List.mem_of_getElem? (i := 604) (by decide +kernel), List.mem_of_getElem? (i := 605) (by decide +kernel)⟩
theorem lw_p23 : lw_okq (⟨"MagnetChainModel", "take", "(I)V"⟩, 21) := ⟨⟨by decide +kernel, by decide +kernel⟩, List.mem_of_getElem? (i := 462) (by decide +kernel), List.mem_of_getElem? (i := 612) (by decide +kernel), List.mem_of_getElem? (i := 613) (by decide +kernel)⟩
theorem lw_p24 : lw_okq (⟨"MagnetChainModel", "shedSet", "()I"⟩, 21) := ⟨⟨by decide +kernel, by decide +kernel⟩, List.mem_of_getElem? (i := 462) (by decide +kernel), List.mem_of_getElem? (i := 620) (by decide +kernel), List.mem_of_getElem? (i := 621) (by decide +kernel)⟩
theorem lw_p25 : lw_okq (⟨"MagnetChainModel", "isPush", "(II)Z"⟩, 21) := ⟨⟨by decide +kernel, by decide +kernel⟩, List.mem_of_getElem? (i := 462) (by decide +kernel), List.mem_of_getElem? (i := 639) (by decide +kernel), List.mem_of_getElem? (i := 640) (by decide +kernel)⟩
theorem lw_p26 : lw_okq (⟨"MagnetChainModel", "walls", "()I"⟩, 21) := ⟨⟨by decide +kernel, by decide +kernel⟩, List.mem_of_getElem? (i := 462) (by decide +kernel), List.mem_of_getElem? (i := 655) (by decide +kernel), List.mem_of_getElem? (i := 656) (by decide +kernel)⟩
theorem lw_p27 : lw_okq (⟨"MagnetChainModel", "unsolved", "()I"⟩, 21) := ⟨⟨by decide +kernel, by decide +kernel⟩, List.mem_of_getElem? (i := 462) (by decide +kernel), List.mem_of_getElem? (i := 659) (by decide +kernel), List.mem_of_getElem? (i := 660) (by decide +kernel)⟩
theorem lw_p28 : lw_okq (⟨"MagnetChainModel", "held", "()I"⟩, 21) := ⟨⟨by decide +kernel, by decide +kernel⟩, List.mem_of_getElem? (i := 462) (by decide +kernel), List.mem_of_getElem? (i := 663) (by decide +kernel), List.mem_of_getElem? (i := 664) (by decide +kernel)⟩
theorem lw_p29 : lw_okq (⟨"MagnetChainModel", "pointsTo", "(I)I"⟩, 21) := ⟨⟨by decide +kernel, by decide +kernel⟩, List.mem_of_getElem? (i := 462) (by decide +kernel), List.mem_of_getElem? (i := 679) (by decide +kernel), List.mem_of_getElem? (i := 680) (by decide +kernel)⟩
theorem lw_p30 : lw_okq (⟨"MagnetChainModel", "putAside", "()V"⟩, 21) := ⟨⟨by decide +kernel, by decide +kernel⟩, List.mem_of_getElem? (i := 462) (by decide +kernel), List.mem_of_getElem? (i := 691) (by decide +kernel), List.mem_of_getElem? (i := 692) (by decide +kernel)⟩
theorem lw_p31 : lw_okq (⟨"MagnetChainModel", "putBack", "()V"⟩, 21) := ⟨⟨by decide +kernel, by decide +kernel⟩, List.mem_of_getElem? (i := 462) (by decide +kernel), List.mem_of_getElem? (i := 695) (by decide +kernel), List.mem_of_getElem? (i := 696) (by decide +kernel)⟩
def lw_privs_2 : List (MethodName × Nat) := [(⟨"MagnetChainModel", "part", "(II)I"⟩, 21), (⟨"MagnetChainModel", "pair", "(III)I"⟩, 21), (⟨"MagnetChainModel", "isMagnet", "(I)Z"⟩, 21), (⟨"MagnetChainModel", "field", "(I)I"⟩, 21), (⟨"MagnetChainModel", "note", "(III)V"⟩, 21), (⟨"MagnetChainModel", "energy", "()I"⟩, 21), (⟨"MagnetChainModel", "end", "(I)I"⟩, 21), (⟨"MagnetChainModel", "take", "(I)V"⟩, 21), (⟨"MagnetChainModel", "shedSet", "()I"⟩, 21), (⟨"MagnetChainModel", "isPush", "(II)Z"⟩, 21), (⟨"MagnetChainModel", "walls", "()I"⟩, 21), (⟨"MagnetChainModel", "unsolved", "()I"⟩, 21), (⟨"MagnetChainModel", "held", "()I"⟩, 21), (⟨"MagnetChainModel", "pointsTo", "(I)I"⟩, 21), (⟨"MagnetChainModel", "putAside", "()V"⟩, 21), (⟨"MagnetChainModel", "putBack", "()V"⟩, 21)]
theorem lw_r2 : ∀ q ∈ lw_privs_2, lw_okq q := List.forall_mem_cons.mpr ⟨lw_p16, List.forall_mem_cons.mpr ⟨lw_p17, List.forall_mem_cons.mpr ⟨lw_p18, List.forall_mem_cons.mpr ⟨lw_p19, List.forall_mem_cons.mpr ⟨lw_p20, List.forall_mem_cons.mpr ⟨lw_p21, List.forall_mem_cons.mpr ⟨lw_p22, List.forall_mem_cons.mpr ⟨lw_p23, List.forall_mem_cons.mpr ⟨lw_p24, List.forall_mem_cons.mpr ⟨lw_p25, List.forall_mem_cons.mpr ⟨lw_p26, List.forall_mem_cons.mpr ⟨lw_p27, List.forall_mem_cons.mpr ⟨lw_p28, List.forall_mem_cons.mpr ⟨lw_p29, List.forall_mem_cons.mpr ⟨lw_p30, List.forall_mem_cons.mpr ⟨lw_p31, fun _ h => absurd h List.not_mem_nil⟩⟩⟩⟩⟩⟩⟩⟩⟩⟩⟩⟩⟩⟩⟩⟩
theorem lw_p32 : lw_okq (⟨"MagnetChainModel", "run", "(III)I"⟩, 21) := ⟨⟨by decide +kernel, by decide +kernel⟩, List.mem_of_getElem? (i := 462) (by decide +kernel), List.mem_of_getElem? (i := 703) (by decide +kernel), List.mem_of_getElem? (i := 704) (by decide +kernel)⟩
theorem lw_p33 : lw_okq (⟨"MagnetChainModel", "to", "(II)I"⟩, 21) := ⟨⟨by decide +kernel, by decide +kernel⟩, List.mem_of_getElem? (i := 462) (by decide +kernel), List.mem_of_getElem? (i := 707) (by decide +kernel), List.mem_of_getElem? (i := 708) (by decide +kernel)⟩
theorem lw_p34 : lw_okq (⟨"MagnetChainModel", "isSolvedBy", "(I)Z"⟩, 21) := ⟨⟨by decide +kernel, by decide +kernel⟩, List.mem_of_getElem? (i := 462) (by decide +kernel), List.mem_of_getElem? (i := 715) (by decide +kernel), List.mem_of_getElem? (i := 716) (by decide +kernel)⟩
theorem lw_p35 : lw_okq (⟨"MagnetChainModel", "search", "(I)Z"⟩, 21) := ⟨⟨by decide +kernel, by decide +kernel⟩, List.mem_of_getElem? (i := 462) (by decide +kernel), List.mem_of_getElem? (i := 719) (by decide +kernel), List.mem_of_getElem? (i := 720) (by decide +kernel)⟩
theorem lw_p36 : lw_okq (⟨"MagnetChainModel", "store", "(I)V"⟩, 21) := ⟨⟨by decide +kernel, by decide +kernel⟩, List.mem_of_getElem? (i := 462) (by decide +kernel), List.mem_of_getElem? (i := 723) (by decide +kernel), List.mem_of_getElem? (i := 724) (by decide +kernel)⟩
theorem lw_p37 : lw_okq (⟨"MagnetChainModel", "choices", "()I"⟩, 21) := ⟨⟨by decide +kernel, by decide +kernel⟩, List.mem_of_getElem? (i := 462) (by decide +kernel), List.mem_of_getElem? (i := 727) (by decide +kernel), List.mem_of_getElem? (i := 728) (by decide +kernel)⟩
theorem lw_p38 : lw_okq (⟨"MagnetChainModel", "restore", "(I)V"⟩, 21) := ⟨⟨by decide +kernel, by decide +kernel⟩, List.mem_of_getElem? (i := 462) (by decide +kernel), List.mem_of_getElem? (i := 731) (by decide +kernel), List.mem_of_getElem? (i := 732) (by decide +kernel)⟩
theorem lw_p39 : lw_okq (⟨"MagnetChainModel", "readAll", "()V"⟩, 21) := ⟨⟨by decide +kernel, by decide +kernel⟩, List.mem_of_getElem? (i := 462) (by decide +kernel), List.mem_of_getElem? (i := 747) (by decide +kernel), List.mem_of_getElem? (i := 748) (by decide +kernel)⟩
theorem lw_p40 : lw_okq (⟨"MagnetChainModel", "fails", "(II)V"⟩, 21) := ⟨⟨by decide +kernel, by decide +kernel⟩, List.mem_of_getElem? (i := 462) (by decide +kernel), List.mem_of_getElem? (i := 751) (by decide +kernel), List.mem_of_getElem? (i := 752) (by decide +kernel)⟩
theorem lw_p41 : lw_okq (⟨"MagnetChainModel", "readByte", "(I)V"⟩, 21) := ⟨⟨by decide +kernel, by decide +kernel⟩, List.mem_of_getElem? (i := 462) (by decide +kernel), List.mem_of_getElem? (i := 755) (by decide +kernel), List.mem_of_getElem? (i := 756) (by decide +kernel)⟩
def lw_privs_3 : List (MethodName × Nat) := [(⟨"MagnetChainModel", "run", "(III)I"⟩, 21), (⟨"MagnetChainModel", "to", "(II)I"⟩, 21), (⟨"MagnetChainModel", "isSolvedBy", "(I)Z"⟩, 21), (⟨"MagnetChainModel", "search", "(I)Z"⟩, 21), (⟨"MagnetChainModel", "store", "(I)V"⟩, 21), (⟨"MagnetChainModel", "choices", "()I"⟩, 21), (⟨"MagnetChainModel", "restore", "(I)V"⟩, 21), (⟨"MagnetChainModel", "readAll", "()V"⟩, 21), (⟨"MagnetChainModel", "fails", "(II)V"⟩, 21), (⟨"MagnetChainModel", "readByte", "(I)V"⟩, 21)]
theorem lw_r3 : ∀ q ∈ lw_privs_3, lw_okq q := List.forall_mem_cons.mpr ⟨lw_p32, List.forall_mem_cons.mpr ⟨lw_p33, List.forall_mem_cons.mpr ⟨lw_p34, List.forall_mem_cons.mpr ⟨lw_p35, List.forall_mem_cons.mpr ⟨lw_p36, List.forall_mem_cons.mpr ⟨lw_p37, List.forall_mem_cons.mpr ⟨lw_p38, List.forall_mem_cons.mpr ⟨lw_p39, List.forall_mem_cons.mpr ⟨lw_p40, List.forall_mem_cons.mpr ⟨lw_p41, fun _ h => absurd h List.not_mem_nil⟩⟩⟩⟩⟩⟩⟩⟩⟩⟩
def lw_privs : List (MethodName × Nat) := lw_privs_1 ++ (lw_privs_2 ++ (lw_privs_3))
def lw_tbl : List Cond := k2_sels lw_privs ++ tables_1
theorem lw_privs_ok : ∀ q ∈ lw_privs, lw_okq q := by
  show ∀ q ∈ lw_privs_1 ++ (lw_privs_2 ++ (lw_privs_3)), lw_okq q
  exact List.forall_mem_append.mpr ⟨lw_r1, List.forall_mem_append.mpr ⟨lw_r2, lw_r3⟩⟩
/-- the streams that the claim lets the run draw from -/
abbrev lw_cs : List Choice := [Jvm.Choice.named "NaN.bits"]
theorem lw_bits : nanBits ∈ lw_cs := by first | decide | exact List.mem_cons_self | simp [lw_cs, nanBits]
-- ===== end of PART A; then your names; then what follows =====
end
section
/-! ===== BEGIN words of one list among another's, by their places ===== -/
theorem goodIn_r {big : List Cond} (ws : List Cond) (ps : List Nat) (hp : ws = ps.filterMap (fun i => big[i]?)) (h : ws.all goodWord = true) : GoodIn big ws := by
  intro w hw
  have h1 := List.all_eq_true.mp h w hw
  rw [hp] at hw
  obtain ⟨i, -, hi⟩ := List.mem_filterMap.mp hw
  have hm : w ∈ big := by first | exact List.mem_of_getElem? hi | exact List.getElem?_mem hi
  exact ⟨hm, good_of_word h1⟩
theorem goodIn_app {big a b : List Cond} (ha : GoodIn big a) (hb : GoodIn big b) : GoodIn big (a ++ b) := fun w h => (List.mem_append.mp h).elim (ha w) (hb w)
theorem goodIn_ca {big a b : List Cond} {c : Cond} (ha : GoodIn big (c :: a)) (hb : GoodIn big b) : GoodIn big (c :: (a ++ b)) := fun w h => (List.mem_cons.mp h).elim (fun e => ha w (List.mem_cons.mpr (Or.inl e))) (fun h => (List.mem_append.mp h).elim (fun h => ha w (List.mem_cons.mpr (Or.inr h))) (hb w))
theorem goodIn_sub {big ws : List Cond} (hm : ∀ w ∈ ws, w ∈ big) (h : ws.all goodWord = true) : GoodIn big ws := fun w hw => ⟨hm w hw, good_of_word (List.all_eq_true.mp h w hw)⟩
/-! ===== END ===== -/

/-! ===== BEGIN printed: names, fields, word lists, decode rows ===== -/
def RX0 : String := "MagnetChain$Books"
def TX0 : u_T := fun k => match k with
  | 0 => ("MagnetChain$Books", "work", "I", false)
  | 1 => ("MagnetChain$Books", "heat", "I", false)
  | 2 => ("MagnetChain$Books", "turns", "I", false)
  | 3 => ("MagnetChain$Books", "pushes", "I", false)
  | 4 => ("MagnetChain$Books", "logged", "I", false)
  | 5 => ("MagnetChain$Books", "loggedMagnets", "[I", true)
  | 6 => ("MagnetChain$Books", "loggedDirections", "[I", true)
  | _ => ("MagnetChain$Books", "loggedHeats", "[I", true)
def tyX0 : Nat → FieldType := fun k => match k with
  | 0 => .int
  | 1 => .int
  | 2 => .int
  | 3 => .int
  | 4 => .int
  | 5 => .array .int
  | 6 => .array .int
  | _ => .array .int
abbrev wsX00 : List Cond := u_ws RX0 TX0 8
theorem nmX0 : ∀ a, a < 8 → ∀ b, b < 8 → a ≠ b → (TX0 a).2.1 ≠ (TX0 b).2.1 := by decide +kernel
theorem tyX0_ok : ∀ k, k < 8 → parseFieldDescriptor (TX0 k).2.2.1 = some (tyX0 k) := by decide +kernel
abbrev cX0_init : ByteArray := prog_2_method_1_code
def yX0_init : MethodName := ⟨RX0, "<init>", "()V"⟩
abbrev cX0_takeFrom : ByteArray := prog_2_method_2_code
def yX0_takeFrom : MethodName := ⟨RX0, "takeFrom", "(LMagnetChain$Books;)V"⟩
abbrev cX0_clear : ByteArray := prog_2_method_3_code
def yX0_clear : MethodName := ⟨RX0, "clear", "()V"⟩
abbrev cX0_enter : ByteArray := prog_2_method_4_code
def yX0_enter : MethodName := ⟨RX0, "enter", "(III)V"⟩
abbrev cX0_dropOldestTurn : ByteArray := prog_2_method_5_code
def yX0_dropOldestTurn : MethodName := ⟨RX0, "dropOldestTurn", "()V"⟩
def RX1 : String := "MagnetChain$Chain"
def TX1 : u_T := fun k => match k with
  | 0 => ("MagnetChain$Chain", "size", "I", false)
  | 1 => ("MagnetChain$Chain", "angles", "[I", true)
  | 2 => ("MagnetChain$Chain", "held", "[I", true)
  | 3 => ("MagnetChain$Chain", "goals", "[I", true)
  | 4 => ("MagnetChain$Chain", "coupling", "I", false)
  | 5 => ("MagnetChain$Chain", "depth", "I", false)
  | 6 => ("MagnetChain$Chain", "strength", "I", false)
  | _ => ("MagnetChain$Chain", "side", "I", false)
def tyX1 : Nat → FieldType := fun k => match k with
  | 0 => .int
  | 1 => .array .int
  | 2 => .array .int
  | 3 => .array .int
  | 4 => .int
  | 5 => .int
  | 6 => .int
  | _ => .int
abbrev wsX10 : List Cond := u_ws RX1 TX1 8
theorem nmX1 : ∀ a, a < 8 → ∀ b, b < 8 → a ≠ b → (TX1 a).2.1 ≠ (TX1 b).2.1 := by decide +kernel
theorem tyX1_ok : ∀ k, k < 8 → parseFieldDescriptor (TX1 k).2.2.1 = some (tyX1 k) := by decide +kernel
abbrev cX1_init : ByteArray := prog_3_method_1_code
def yX1_init : MethodName := ⟨RX1, "<init>", "()V"⟩
abbrev cX1_takeFrom : ByteArray := prog_3_method_2_code
def yX1_takeFrom : MethodName := ⟨RX1, "takeFrom", "(LMagnetChain$Chain;)V"⟩
abbrev cX1_takeMagnets : ByteArray := prog_3_method_3_code
def yX1_takeMagnets : MethodName := ⟨RX1, "takeMagnets", "(LMagnetChain$Chain;)V"⟩
abbrev cX1_takeAngles : ByteArray := prog_3_method_4_code
def yX1_takeAngles : MethodName := ⟨RX1, "takeAngles", "(LMagnetChain$Chain;)V"⟩
abbrev cX1_startWith : ByteArray := prog_3_method_5_code
def yX1_startWith : MethodName := ⟨RX1, "startWith", "(I)V"⟩
abbrev cX1_putIn : ByteArray := prog_3_method_6_code
def yX1_putIn : MethodName := ⟨RX1, "putIn", "(II)V"⟩
abbrev cX1_takeOut : ByteArray := prog_3_method_7_code
def yX1_takeOut : MethodName := ⟨RX1, "takeOut", "(I)V"⟩
abbrev cX1_append : ByteArray := prog_3_method_8_code
def yX1_append : MethodName := ⟨RX1, "append", "(LMagnetChain$Chain;I)V"⟩
abbrev cX1_copyMagnet : ByteArray := prog_3_method_9_code
def yX1_copyMagnet : MethodName := ⟨RX1, "copyMagnet", "(ILMagnetChain$Chain;I)V"⟩
abbrev cX1_mirror : ByteArray := prog_3_method_10_code
def yX1_mirror : MethodName := ⟨RX1, "mirror", "()V"⟩
abbrev cX1_turn : ByteArray := prog_3_method_11_code
def yX1_turn : MethodName := ⟨RX1, "turn", "(II)V"⟩
abbrev cX1_energy : ByteArray := prog_3_method_12_code
def yX1_energy : MethodName := ⟨RX1, "energy", "()I"⟩
abbrev cX1_partOf : ByteArray := prog_3_method_13_code
def yX1_partOf : MethodName := ⟨RX1, "partOf", "(II)I"⟩
abbrev cX1_freedBy : ByteArray := prog_3_method_14_code
def yX1_freedBy : MethodName := ⟨RX1, "freedBy", "(II)I"⟩
abbrev cX1_pullOfNeighbors : ByteArray := prog_3_method_15_code
def yX1_pullOfNeighbors : MethodName := ⟨RX1, "pullOfNeighbors", "(I)I"⟩
abbrev cX1_pullOn : ByteArray := prog_3_method_16_code
def yX1_pullOn : MethodName := ⟨RX1, "pullOn", "(II)I"⟩
abbrev cX1_partOfField : ByteArray := prog_3_method_17_code
def yX1_partOfField : MethodName := ⟨RX1, "partOfField", "(I)I"⟩
abbrev cX1_settle : ByteArray := prog_3_method_18_code
def yX1_settle : MethodName := ⟨RX1, "settle", "(LMagnetChain$Books;)I"⟩
abbrev cX1_settleOnce : ByteArray := prog_3_method_19_code
def yX1_settleOnce : MethodName := ⟨RX1, "settleOnce", "(LMagnetChain$Books;)Z"⟩
abbrev cX1_pointsTo : ByteArray := prog_3_method_20_code
def yX1_pointsTo : MethodName := ⟨RX1, "pointsTo", "(I)I"⟩
abbrev cX1_walls : ByteArray := prog_3_method_21_code
def yX1_walls : MethodName := ⟨RX1, "walls", "()I"⟩
abbrev cX1_goalsMissed : ByteArray := prog_3_method_22_code
def yX1_goalsMissed : MethodName := ⟨RX1, "goalsMissed", "()I"⟩
abbrev cX1_heldOnes : ByteArray := prog_3_method_23_code
def yX1_heldOnes : MethodName := ⟨RX1, "heldOnes", "()I"⟩
abbrev cX1_differencesFrom : ByteArray := prog_3_method_24_code
def yX1_differencesFrom : MethodName := ⟨RX1, "differencesFrom", "(LMagnetChain$Chain;)I"⟩
def RX2 : String := "MagnetChain$State"
def TX2 : u_T := fun k => match k with
  | 0 => ("MagnetChain$State", "chain", "LMagnetChain$Chain;", true)
  | _ => ("MagnetChain$State", "books", "LMagnetChain$Books;", true)
def tyX2 : Nat → FieldType := fun k => match k with
  | 0 => .object "MagnetChain$Chain"
  | _ => .object "MagnetChain$Books"
abbrev wsX20 : List Cond := u_ws RX2 TX2 2
theorem nmX2 : ∀ a, a < 2 → ∀ b, b < 2 → a ≠ b → (TX2 a).2.1 ≠ (TX2 b).2.1 := by decide +kernel
theorem tyX2_ok : ∀ k, k < 2 → parseFieldDescriptor (TX2 k).2.2.1 = some (tyX2 k) := by decide +kernel
abbrev cX2_init : ByteArray := prog_4_method_1_code
def yX2_init : MethodName := ⟨RX2, "<init>", "()V"⟩
abbrev cX2_takeFrom : ByteArray := prog_4_method_2_code
def yX2_takeFrom : MethodName := ⟨RX2, "takeFrom", "(LMagnetChain$State;)V"⟩
def RX3 : String := "MagnetChain$Text"
def TX3 : u_T := fun k => match k with
  | 0 => ("MagnetChain$Text", "codes", "[I", true)
  | 1 => ("MagnetChain$Text", "length", "I", false)
  | 2 => ("MagnetChain$Text", "faultKind", "I", false)
  | _ => ("MagnetChain$Text", "faultPlace", "I", false)
def tyX3 : Nat → FieldType := fun k => match k with
  | 0 => .array .int
  | 1 => .int
  | 2 => .int
  | _ => .int
abbrev wsX30 : List Cond := u_ws RX3 TX3 4
theorem nmX3 : ∀ a, a < 4 → ∀ b, b < 4 → a ≠ b → (TX3 a).2.1 ≠ (TX3 b).2.1 := by decide +kernel
theorem tyX3_ok : ∀ k, k < 4 → parseFieldDescriptor (TX3 k).2.2.1 = some (tyX3 k) := by decide +kernel
abbrev cX3_init : ByteArray := prog_5_method_1_code
def yX3_init : MethodName := ⟨RX3, "<init>", "()V"⟩
abbrev cX3_append : ByteArray := prog_5_method_2_code
def yX3_append : MethodName := ⟨RX3, "append", "(I)Z"⟩
abbrev cX3_readInto : ByteArray := prog_5_method_3_code
def yX3_readInto : MethodName := ⟨RX3, "readInto", "(LMagnetChain$Chain;)Z"⟩
abbrev cX3_refuse : ByteArray := prog_5_method_4_code
def yX3_refuse : MethodName := ⟨RX3, "refuse", "(II)Z"⟩
def RX4 : String := "MagnetChain"
def TX4 : u_T := fun k => match k with
  | 0 => ("MagnetChain", "present", "LMagnetChain$State;", true)
  | 1 => ("MagnetChain", "history", "[LMagnetChain$State;", true)
  | 2 => ("MagnetChain", "undoable", "I", false)
  | 3 => ("MagnetChain", "images", "[LMagnetChain$State;", true)
  | 4 => ("MagnetChain", "kept", "[Z", true)
  | 5 => ("MagnetChain", "text", "LMagnetChain$Text;", true)
  | _ => ("MagnetChain", "copies", "[LMagnetChain$Chain;", true)
def tyX4 : Nat → FieldType := fun k => match k with
  | 0 => .object "MagnetChain$State"
  | 1 => .array (.object "MagnetChain$State")
  | 2 => .int
  | 3 => .array (.object "MagnetChain$State")
  | 4 => .array .boolean
  | 5 => .object "MagnetChain$Text"
  | _ => .array (.object "MagnetChain$Chain")
abbrev wsX40 : List Cond := u_ws RX4 TX4 7
theorem nmX4 : ∀ a, a < 7 → ∀ b, b < 7 → a ≠ b → (TX4 a).2.1 ≠ (TX4 b).2.1 := by decide +kernel
theorem tyX4_ok : ∀ k, k < 7 → parseFieldDescriptor (TX4 k).2.2.1 = some (tyX4 k) := by decide +kernel
abbrev cX4_init : ByteArray := prog_1_method_1_code
def yX4_init : MethodName := ⟨RX4, "<init>", "()V"⟩
abbrev cX4_begin : ByteArray := prog_1_method_2_code
def yX4_begin : MethodName := ⟨RX4, "begin", "(I)I"⟩
abbrev cX4_insert : ByteArray := prog_1_method_3_code
def yX4_insert : MethodName := ⟨RX4, "insert", "(II)I"⟩
abbrev cX4_remove : ByteArray := prog_1_method_4_code
def yX4_remove : MethodName := ⟨RX4, "remove", "(I)I"⟩
abbrev cX4_shed : ByteArray := prog_1_method_5_code
def yX4_shed : MethodName := ⟨RX4, "shed", "()I"⟩
abbrev cX4_reverse : ByteArray := prog_1_method_6_code
def yX4_reverse : MethodName := ⟨RX4, "reverse", "()I"⟩
abbrev cX4_hold : ByteArray := prog_1_method_7_code
def yX4_hold : MethodName := ⟨RX4, "hold", "(II)I"⟩
abbrev cX4_push : ByteArray := prog_1_method_8_code
def yX4_push : MethodName := ⟨RX4, "push", "(II)I"⟩
abbrev cX4_set : ByteArray := prog_1_method_9_code
def yX4_set : MethodName := ⟨RX4, "set", "(II)I"⟩
abbrev cX4_goal : ByteArray := prog_1_method_10_code
def yX4_goal : MethodName := ⟨RX4, "goal", "(II)I"⟩
abbrev cX4_undo : ByteArray := prog_1_method_11_code
def yX4_undo : MethodName := ⟨RX4, "undo", "()I"⟩
abbrev cX4_told : ByteArray := prog_1_method_12_code
def yX4_told : MethodName := ⟨RX4, "told", "(I)I"⟩
abbrev cX4_magnet : ByteArray := prog_1_method_13_code
def yX4_magnet : MethodName := ⟨RX4, "magnet", "(II)I"⟩
abbrev cX4_log : ByteArray := prog_1_method_14_code
def yX4_log : MethodName := ⟨RX4, "log", "(II)I"⟩
abbrev cX4_points : ByteArray := prog_1_method_15_code
def yX4_points : MethodName := ⟨RX4, "points", "(I)I"⟩
abbrev cX4_mean : ByteArray := prog_1_method_16_code
def yX4_mean : MethodName := ⟨RX4, "mean", "()F"⟩
abbrev cX4_moved : ByteArray := prog_1_method_17_code
def yX4_moved : MethodName := ⟨RX4, "moved", "(II)I"⟩
abbrev cX4_loop : ByteArray := prog_1_method_18_code
def yX4_loop : MethodName := ⟨RX4, "loop", "(III)I"⟩
abbrev cX4_solve : ByteArray := prog_1_method_19_code
def yX4_solve : MethodName := ⟨RX4, "solve", "(II)I"⟩
abbrev cX4_write : ByteArray := prog_1_method_20_code
def yX4_write : MethodName := ⟨RX4, "write", "(I)I"⟩
abbrev cX4_wipe : ByteArray := prog_1_method_21_code
def yX4_wipe : MethodName := ⟨RX4, "wipe", "()I"⟩
abbrev cX4_load : ByteArray := prog_1_method_22_code
def yX4_load : MethodName := ⟨RX4, "load", "()I"⟩
abbrev cX4_fault : ByteArray := prog_1_method_23_code
def yX4_fault : MethodName := ⟨RX4, "fault", "(I)I"⟩
abbrev cX4_keep : ByteArray := prog_1_method_24_code
def yX4_keep : MethodName := ⟨RX4, "keep", "(I)I"⟩
abbrev cX4_back : ByteArray := prog_1_method_25_code
def yX4_back : MethodName := ⟨RX4, "back", "(I)I"⟩
abbrev cX4_isWithin : ByteArray := prog_1_method_26_code
def yX4_isWithin : MethodName := ⟨RX4, "isWithin", "(III)Z"⟩
abbrev cX4_isAngle : ByteArray := prog_1_method_27_code
def yX4_isAngle : MethodName := ⟨RX4, "isAngle", "(I)Z"⟩
abbrev cX4_isPush : ByteArray := prog_1_method_28_code
def yX4_isPush : MethodName := ⟨RX4, "isPush", "(I)Z"⟩
abbrev cX4_isSetting : ByteArray := prog_1_method_29_code
def yX4_isSetting : MethodName := ⟨RX4, "isSetting", "(II)Z"⟩
abbrev cX4_isLoop : ByteArray := prog_1_method_30_code
def yX4_isLoop : MethodName := ⟨RX4, "isLoop", "(II)Z"⟩
abbrev cX4_isMagnet : ByteArray := prog_1_method_31_code
def yX4_isMagnet : MethodName := ⟨RX4, "isMagnet", "(I)Z"⟩
abbrev cX4_startChange : ByteArray := prog_1_method_32_code
def yX4_startChange : MethodName := ⟨RX4, "startChange", "()I"⟩
abbrev cX4_endChange : ByteArray := prog_1_method_33_code
def yX4_endChange : MethodName := ⟨RX4, "endChange", "(I)I"⟩
abbrev cX4_record : ByteArray := prog_1_method_34_code
def yX4_record : MethodName := ⟨RX4, "record", "()V"⟩
abbrev cX4_dropOldest : ByteArray := prog_1_method_35_code
def yX4_dropOldest : MethodName := ⟨RX4, "dropOldest", "()V"⟩
abbrev cX4_stepsUp : ByteArray := prog_1_method_36_code
def yX4_stepsUp : MethodName := ⟨RX4, "stepsUp", "(II)I"⟩
abbrev cX4_firstPush : ByteArray := prog_1_method_37_code
def yX4_firstPush : MethodName := ⟨RX4, "firstPush", "([LMagnetChain$Chain;II)I"⟩
abbrev cX4_magnetOf : ByteArray := prog_1_method_38_code
def yX4_magnetOf : MethodName := ⟨RX4, "magnetOf", "(I)I"⟩
abbrev cX4_directionOf : ByteArray := prog_1_method_39_code
def yX4_directionOf : MethodName := ⟨RX4, "directionOf", "(I)I"⟩
abbrev cX4_cosine : ByteArray := prog_1_method_40_code
def yX4_cosine : MethodName := ⟨RX4, "cosine", "(I)I"⟩
abbrev cX4_pull : ByteArray := prog_1_method_41_code
def yX4_pull : MethodName := ⟨RX4, "pull", "(II)I"⟩
def RX5 : String := "MagnetChainModel"
def TX5 : u_T := fun k => match k with
  | 0 => ("MagnetChainModel", "w", "[I", true)
  | 1 => ("MagnetChainModel", "past", "[I", true)
  | 2 => ("MagnetChainModel", "changes", "I", false)
  | 3 => ("MagnetChainModel", "images", "[I", true)
  | 4 => ("MagnetChainModel", "isKept", "[I", true)
  | 5 => ("MagnetChainModel", "text", "[I", true)
  | 6 => ("MagnetChainModel", "length", "I", false)
  | 7 => ("MagnetChainModel", "faultKind", "I", false)
  | 8 => ("MagnetChainModel", "faultPlace", "I", false)
  | 9 => ("MagnetChainModel", "aside", "[I", true)
  | 10 => ("MagnetChainModel", "loopTurns", "I", false)
  | 11 => ("MagnetChainModel", "area", "I", false)
  | 12 => ("MagnetChainModel", "remains", "I", false)
  | 13 => ("MagnetChainModel", "turnsOver", "I", false)
  | 14 => ("MagnetChainModel", "stack", "[I", true)
  | 15 => ("MagnetChainModel", "digits", "[I", true)
  | 16 => ("MagnetChainModel", "readAngles", "[I", true)
  | 17 => ("MagnetChainModel", "readHeld", "[I", true)
  | 18 => ("MagnetChainModel", "read", "I", false)
  | 19 => ("MagnetChainModel", "wrongKind", "I", false)
  | _ => ("MagnetChainModel", "wrongPlace", "I", false)
def tyX5 : Nat → FieldType := fun k => match k with
  | 0 => .array .int
  | 1 => .array .int
  | 2 => .int
  | 3 => .array .int
  | 4 => .array .int
  | 5 => .array .int
  | 6 => .int
  | 7 => .int
  | 8 => .int
  | 9 => .array .int
  | 10 => .int
  | 11 => .int
  | 12 => .int
  | 13 => .int
  | 14 => .array .int
  | 15 => .array .int
  | 16 => .array .int
  | 17 => .array .int
  | 18 => .int
  | 19 => .int
  | _ => .int
abbrev wsX50 : List Cond := u_ws RX5 TX5 21
theorem nmX5 : ∀ a, a < 21 → ∀ b, b < 21 → a ≠ b → (TX5 a).2.1 ≠ (TX5 b).2.1 := by decide +kernel
theorem tyX5_ok : ∀ k, k < 21 → parseFieldDescriptor (TX5 k).2.2.1 = some (tyX5 k) := by decide +kernel
abbrev cX5_init : ByteArray := prog_7_method_1_code
def yX5_init : MethodName := ⟨RX5, "<init>", "()V"⟩
abbrev cX5_isIn : ByteArray := prog_7_method_2_code
def yX5_isIn : MethodName := ⟨RX5, "isIn", "(III)Z"⟩
abbrev cX5_isMagnet : ByteArray := prog_7_method_3_code
def yX5_isMagnet : MethodName := ⟨RX5, "isMagnet", "(I)Z"⟩
abbrev cX5_lay : ByteArray := prog_7_method_4_code
def yX5_lay : MethodName := ⟨RX5, "lay", "(I)V"⟩
abbrev cX5_record : ByteArray := prog_7_method_5_code
def yX5_record : MethodName := ⟨RX5, "record", "()V"⟩
abbrev cX5_undo : ByteArray := prog_7_method_6_code
def yX5_undo : MethodName := ⟨RX5, "undo", "()I"⟩
abbrev cX5_c : ByteArray := prog_7_method_7_code
def yX5_c : MethodName := ⟨RX5, "c", "(I)I"⟩
abbrev cX5_pull : ByteArray := prog_7_method_8_code
def yX5_pull : MethodName := ⟨RX5, "pull", "(II)I"⟩
abbrev cX5_angle : ByteArray := prog_7_method_9_code
def yX5_angle : MethodName := ⟨RX5, "angle", "(I)I"⟩
abbrev cX5_pair : ByteArray := prog_7_method_10_code
def yX5_pair : MethodName := ⟨RX5, "pair", "(III)I"⟩
abbrev cX5_field : ByteArray := prog_7_method_11_code
def yX5_field : MethodName := ⟨RX5, "field", "(I)I"⟩
abbrev cX5_part : ByteArray := prog_7_method_12_code
def yX5_part : MethodName := ⟨RX5, "part", "(II)I"⟩
abbrev cX5_energy : ByteArray := prog_7_method_13_code
def yX5_energy : MethodName := ⟨RX5, "energy", "()I"⟩
abbrev cX5_turned : ByteArray := prog_7_method_14_code
def yX5_turned : MethodName := ⟨RX5, "turned", "(II)I"⟩
abbrev cX5_free : ByteArray := prog_7_method_15_code
def yX5_free : MethodName := ⟨RX5, "free", "(II)I"⟩
abbrev cX5_note : ByteArray := prog_7_method_16_code
def yX5_note : MethodName := ⟨RX5, "note", "(III)V"⟩
abbrev cX5_settle : ByteArray := prog_7_method_17_code
def yX5_settle : MethodName := ⟨RX5, "settle", "()I"⟩
abbrev cX5_end : ByteArray := prog_7_method_18_code
def yX5_end : MethodName := ⟨RX5, "end", "(I)I"⟩
abbrev cX5_begin : ByteArray := prog_7_method_19_code
def yX5_begin : MethodName := ⟨RX5, "begin", "(I)I"⟩
abbrev cX5_insert : ByteArray := prog_7_method_20_code
def yX5_insert : MethodName := ⟨RX5, "insert", "(II)I"⟩
abbrev cX5_take : ByteArray := prog_7_method_21_code
def yX5_take : MethodName := ⟨RX5, "take", "(I)V"⟩
abbrev cX5_remove : ByteArray := prog_7_method_22_code
def yX5_remove : MethodName := ⟨RX5, "remove", "(I)I"⟩
abbrev cX5_shedSet : ByteArray := prog_7_method_23_code
def yX5_shedSet : MethodName := ⟨RX5, "shedSet", "()I"⟩
abbrev cX5_shed : ByteArray := prog_7_method_24_code
def yX5_shed : MethodName := ⟨RX5, "shed", "()I"⟩
abbrev cX5_mirrored : ByteArray := prog_7_method_25_code
def yX5_mirrored : MethodName := ⟨RX5, "mirrored", "(I)I"⟩
abbrev cX5_reverse : ByteArray := prog_7_method_26_code
def yX5_reverse : MethodName := ⟨RX5, "reverse", "()I"⟩
abbrev cX5_hold : ByteArray := prog_7_method_27_code
def yX5_hold : MethodName := ⟨RX5, "hold", "(II)I"⟩
abbrev cX5_isPush : ByteArray := prog_7_method_28_code
def yX5_isPush : MethodName := ⟨RX5, "isPush", "(II)Z"⟩
abbrev cX5_push : ByteArray := prog_7_method_29_code
def yX5_push : MethodName := ⟨RX5, "push", "(II)I"⟩
abbrev cX5_set : ByteArray := prog_7_method_30_code
def yX5_set : MethodName := ⟨RX5, "set", "(II)I"⟩
abbrev cX5_goal : ByteArray := prog_7_method_31_code
def yX5_goal : MethodName := ⟨RX5, "goal", "(II)I"⟩
abbrev cX5_unsolved : ByteArray := prog_7_method_32_code
def yX5_unsolved : MethodName := ⟨RX5, "unsolved", "()I"⟩
abbrev cX5_walls : ByteArray := prog_7_method_33_code
def yX5_walls : MethodName := ⟨RX5, "walls", "()I"⟩
abbrev cX5_held : ByteArray := prog_7_method_34_code
def yX5_held : MethodName := ⟨RX5, "held", "()I"⟩
abbrev cX5_told : ByteArray := prog_7_method_35_code
def yX5_told : MethodName := ⟨RX5, "told", "(I)I"⟩
abbrev cX5_magnet : ByteArray := prog_7_method_36_code
def yX5_magnet : MethodName := ⟨RX5, "magnet", "(II)I"⟩
abbrev cX5_log : ByteArray := prog_7_method_37_code
def yX5_log : MethodName := ⟨RX5, "log", "(II)I"⟩
abbrev cX5_pointsTo : ByteArray := prog_7_method_38_code
def yX5_pointsTo : MethodName := ⟨RX5, "pointsTo", "(I)I"⟩
abbrev cX5_points : ByteArray := prog_7_method_39_code
def yX5_points : MethodName := ⟨RX5, "points", "(I)I"⟩
abbrev cX5_mean : ByteArray := prog_7_method_40_code
def yX5_mean : MethodName := ⟨RX5, "mean", "()F"⟩
abbrev cX5_putAside : ByteArray := prog_7_method_41_code
def yX5_putAside : MethodName := ⟨RX5, "putAside", "()V"⟩
abbrev cX5_putBack : ByteArray := prog_7_method_42_code
def yX5_putBack : MethodName := ⟨RX5, "putBack", "()V"⟩
abbrev cX5_moved : ByteArray := prog_7_method_43_code
def yX5_moved : MethodName := ⟨RX5, "moved", "(II)I"⟩
abbrev cX5_to : ByteArray := prog_7_method_44_code
def yX5_to : MethodName := ⟨RX5, "to", "(II)I"⟩
abbrev cX5_run : ByteArray := prog_7_method_45_code
def yX5_run : MethodName := ⟨RX5, "run", "(III)I"⟩
abbrev cX5_loop : ByteArray := prog_7_method_46_code
def yX5_loop : MethodName := ⟨RX5, "loop", "(III)I"⟩
abbrev cX5_choices : ByteArray := prog_7_method_47_code
def yX5_choices : MethodName := ⟨RX5, "choices", "()I"⟩
abbrev cX5_store : ByteArray := prog_7_method_48_code
def yX5_store : MethodName := ⟨RX5, "store", "(I)V"⟩
abbrev cX5_restore : ByteArray := prog_7_method_49_code
def yX5_restore : MethodName := ⟨RX5, "restore", "(I)V"⟩
abbrev cX5_search : ByteArray := prog_7_method_50_code
def yX5_search : MethodName := ⟨RX5, "search", "(I)Z"⟩
abbrev cX5_isSolvedBy : ByteArray := prog_7_method_51_code
def yX5_isSolvedBy : MethodName := ⟨RX5, "isSolvedBy", "(I)Z"⟩
abbrev cX5_solve : ByteArray := prog_7_method_52_code
def yX5_solve : MethodName := ⟨RX5, "solve", "(II)I"⟩
abbrev cX5_write : ByteArray := prog_7_method_53_code
def yX5_write : MethodName := ⟨RX5, "write", "(I)I"⟩
abbrev cX5_wipe : ByteArray := prog_7_method_54_code
def yX5_wipe : MethodName := ⟨RX5, "wipe", "()I"⟩
abbrev cX5_fails : ByteArray := prog_7_method_55_code
def yX5_fails : MethodName := ⟨RX5, "fails", "(II)V"⟩
abbrev cX5_readByte : ByteArray := prog_7_method_56_code
def yX5_readByte : MethodName := ⟨RX5, "readByte", "(I)V"⟩
abbrev cX5_readAll : ByteArray := prog_7_method_57_code
def yX5_readAll : MethodName := ⟨RX5, "readAll", "()V"⟩
abbrev cX5_load : ByteArray := prog_7_method_58_code
def yX5_load : MethodName := ⟨RX5, "load", "()I"⟩
abbrev cX5_fault : ByteArray := prog_7_method_59_code
def yX5_fault : MethodName := ⟨RX5, "fault", "(I)I"⟩
abbrev cX5_isImage : ByteArray := prog_7_method_60_code
def yX5_isImage : MethodName := ⟨RX5, "isImage", "(I)Z"⟩
abbrev cX5_keep : ByteArray := prog_7_method_61_code
def yX5_keep : MethodName := ⟨RX5, "keep", "(I)I"⟩
abbrev cX5_back : ByteArray := prog_7_method_62_code
def yX5_back : MethodName := ⟨RX5, "back", "(I)I"⟩
def RJ9 : String := "java/lang/Math"
def TJ9 : u_T := fun k => match k with
  | _ => ("", "", "", false)
def tyJ9 : Nat → FieldType := fun k => match k with
  | _ => .int
abbrev wsJ90 : List Cond := u_ws RJ9 TJ9 0
theorem nmJ9 : ∀ a, a < 0 → ∀ b, b < 0 → a ≠ b → (TJ9 a).2.1 ≠ (TJ9 b).2.1 := by decide +kernel
theorem tyJ9_ok : ∀ k, k < 0 → parseFieldDescriptor (TJ9 k).2.2.1 = some (tyJ9 k) := by decide +kernel
abbrev cJ9_max_7cf53 : ByteArray := prog_8_method_65_code
def yJ9_max_7cf53 : MethodName := ⟨RJ9, "max", "(II)I"⟩
def RJ10 : String := "java/lang/System"
def TJ10 : u_T := fun k => match k with
  | _ => ("", "", "", false)
def tyJ10 : Nat → FieldType := fun k => match k with
  | _ => .int
abbrev wsJ100 : List Cond := u_ws RJ10 TJ10 0
theorem nmJ10 : ∀ a, a < 0 → ∀ b, b < 0 → a ≠ b → (TJ10 a).2.1 ≠ (TJ10 b).2.1 := by decide +kernel
theorem tyJ10_ok : ∀ k, k < 0 → parseFieldDescriptor (TJ10 k).2.2.1 = some (tyJ10 k) := by decide +kernel
def RJ7 : String := "java/util/Arrays"
def TJ7 : u_T := fun k => match k with
  | _ => ("", "", "", false)
def tyJ7 : Nat → FieldType := fun k => match k with
  | _ => .int
abbrev wsJ70 : List Cond := u_ws RJ7 TJ7 0
theorem nmJ7 : ∀ a, a < 0 → ∀ b, b < 0 → a ≠ b → (TJ7 a).2.1 ≠ (TJ7 b).2.1 := by decide +kernel
theorem tyJ7_ok : ∀ k, k < 0 → parseFieldDescriptor (TJ7 k).2.2.1 = some (tyJ7 k) := by decide +kernel
abbrev cJ7_fill_53178 : ByteArray := prog_10_method_103_code
def yJ7_fill_53178 : MethodName := ⟨RJ7, "fill", "([II)V"⟩
def RL : String := "MagnetChainLaw"
abbrev cL_law : ByteArray := code
def yL_law : MethodName := ⟨RL, "law", "([I)Z"⟩
def wsL_law_r1 : List Cond := [Cond.classLink RL 7 RX4, Cond.instantiable RX4 7, Cond.initialized RX4, Cond.classLink RL 10 RX5, Cond.instantiable RX5 21, Cond.initialized RX5, Cond.methodLink RL 9 yX4_init, Cond.instanceMethod yX4_init, Cond.code yX4_init cX4_init 2 none, Cond.methodLink RX4 1 objectInit, Cond.instanceMethod objectInit, Cond.code objectInit ⟨#[0xb1]⟩ 1 none, Cond.classLink RX4 7 RX2, Cond.instantiable RX2 2, Cond.initialized RX2, Cond.fieldLink RX4 10 "MagnetChain" "present" "LMagnetChain$State;", Cond.fieldLink RX4 16 "MagnetChain" "history" "[LMagnetChain$State;", Cond.fieldLink RX4 20 "MagnetChain" "undoable" "I", Cond.fieldLink RX4 24 "MagnetChain" "images" "[LMagnetChain$State;", Cond.arrayClass .boolean, Cond.fieldLink RX4 27 "MagnetChain" "kept" "[Z", Cond.classLink RX4 31 RX3, Cond.instantiable RX3 4, Cond.initialized RX3]
def wsL_law_r2 : List Cond := [Cond.fieldLink RX4 34 "MagnetChain" "text" "LMagnetChain$Text;", Cond.classLink RX4 38 RX1, Cond.fieldLink RX4 40 "MagnetChain" "copies" "[LMagnetChain$Chain;", Cond.instantiable RX1 8, Cond.initialized RX1, Cond.instanceMethod yX2_init, Cond.code yX2_init cX2_init 1 none, Cond.methodLink RX2 1 objectInit, Cond.classLink RX2 7 RX1, Cond.fieldLink RX2 10 "MagnetChain$State" "chain" "LMagnetChain$Chain;", Cond.classLink RX2 16 RX0, Cond.instantiable RX0 8, Cond.initialized RX0, Cond.fieldLink RX2 19 "MagnetChain$State" "books" "LMagnetChain$Books;", Cond.methodLink RX2 9 yX1_init, Cond.instanceMethod yX1_init, Cond.code yX1_init cX1_init 1 none, Cond.methodLink RX1 3 objectInit, Cond.fieldLink RX1 9 "MagnetChain$Chain" "size" "I", Cond.arrayClass .int, Cond.fieldLink RX1 15 "MagnetChain$Chain" "angles" "[I", Cond.fieldLink RX1 19 "MagnetChain$Chain" "held" "[I", Cond.fieldLink RX1 22 "MagnetChain$Chain" "goals" "[I", Cond.fieldLink RX1 25 "MagnetChain$Chain" "coupling" "I"]
def wsL_law_r3 : List Cond := [Cond.fieldLink RX1 28 "MagnetChain$Chain" "depth" "I", Cond.fieldLink RX1 31 "MagnetChain$Chain" "strength" "I", Cond.fieldLink RX1 34 "MagnetChain$Chain" "side" "I", Cond.constant RX1 37 (-1000000009), Cond.methodLink RX1 38 yJ7_fill_53178, Cond.static yJ7_fill_53178, Cond.initialized RJ7, Cond.code yJ7_fill_53178 cJ7_fill_53178 4 none, Cond.instanceMethod yX0_init, Cond.code yX0_init cX0_init 1 none, Cond.methodLink RX0 3 objectInit, Cond.fieldLink RX0 9 "MagnetChain$Books" "work" "I", Cond.fieldLink RX0 15 "MagnetChain$Books" "heat" "I", Cond.fieldLink RX0 18 "MagnetChain$Books" "turns" "I", Cond.fieldLink RX0 21 "MagnetChain$Books" "pushes" "I", Cond.fieldLink RX0 24 "MagnetChain$Books" "logged" "I", Cond.fieldLink RX0 27 "MagnetChain$Books" "loggedMagnets" "[I", Cond.fieldLink RX0 31 "MagnetChain$Books" "loggedDirections" "[I", Cond.fieldLink RX0 34 "MagnetChain$Books" "loggedHeats" "[I", Cond.instanceMethod yX3_init, Cond.code yX3_init cX3_init 1 none, Cond.methodLink RX3 3 objectInit, Cond.fieldLink RX3 9 "MagnetChain$Text" "codes" "[I", Cond.fieldLink RX3 15 "MagnetChain$Text" "length" "I"]
def wsL_law_r4 : List Cond := [Cond.constant RX3 19 (-1000000009), Cond.fieldLink RX3 20 "MagnetChain$Text" "faultKind" "I", Cond.fieldLink RX3 23 "MagnetChain$Text" "faultPlace" "I", Cond.methodLink RX4 44 yX1_init, Cond.methodLink RL 12 yX5_init, Cond.instanceMethod yX5_init, Cond.code yX5_init cX5_init 1 none, Cond.methodLink RX5 1 objectInit, Cond.fieldLink RX5 7 "MagnetChainModel" "w" "[I", Cond.fieldLink RX5 13 "MagnetChainModel" "past" "[I", Cond.fieldLink RX5 16 "MagnetChainModel" "images" "[I", Cond.fieldLink RX5 19 "MagnetChainModel" "isKept" "[I", Cond.fieldLink RX5 22 "MagnetChainModel" "text" "[I", Cond.constant RX5 25 (-1000000009), Cond.fieldLink RX5 26 "MagnetChainModel" "faultKind" "I", Cond.fieldLink RX5 30 "MagnetChainModel" "faultPlace" "I", Cond.fieldLink RX5 33 "MagnetChainModel" "aside" "[I", Cond.fieldLink RX5 36 "MagnetChainModel" "stack" "[I", Cond.fieldLink RX5 39 "MagnetChainModel" "digits" "[I", Cond.fieldLink RX5 42 "MagnetChainModel" "readAngles" "[I", Cond.fieldLink RX5 45 "MagnetChainModel" "readHeld" "[I", Cond.methodLink RX5 48 yX5_lay, Cond.instanceMethod yX5_lay, Cond.selects RX5 yX5_lay yX5_lay]
def wsL_law_r5 : List Cond := [Cond.code yX5_lay cX5_lay 3 none, Cond.methodLink RL 13 yX4_begin, Cond.instanceMethod yX4_begin, Cond.selects RX4 yX4_begin yX4_begin, Cond.code yX4_begin cX4_begin 3 (some .int), Cond.constant RX4 49 (-1000000001), Cond.fieldLink RX4 50 "MagnetChain$State" "chain" "LMagnetChain$Chain;", Cond.fieldLink RX4 54 "MagnetChain$Chain" "size" "I", Cond.fieldLink RX4 64 "MagnetChain$State" "books" "LMagnetChain$Books;", Cond.methodLink RX4 45 yX4_isWithin, Cond.static yX4_isWithin, Cond.code yX4_isWithin cX4_isWithin 3 (some .boolean), Cond.methodLink RX4 57 yX4_record, Cond.instanceMethod yX4_record, Cond.selects RX4 yX4_record yX4_record, Cond.code yX4_record cX4_record 1 none, Cond.methodLink RX4 235 yX4_dropOldest, Cond.instanceMethod yX4_dropOldest, Cond.selects RX4 yX4_dropOldest yX4_dropOldest, Cond.code yX4_dropOldest cX4_dropOldest 3 none, Cond.methodLink RX4 155 yX2_takeFrom, Cond.instanceMethod yX2_takeFrom, Cond.selects RX2 yX2_takeFrom yX2_takeFrom, Cond.code yX2_takeFrom cX2_takeFrom 2 none]
def wsL_law_r6 : List Cond := [Cond.methodLink RX2 23 yX1_takeFrom, Cond.instanceMethod yX1_takeFrom, Cond.selects RX1 yX1_takeFrom yX1_takeFrom, Cond.code yX1_takeFrom cX1_takeFrom 2 none, Cond.methodLink RX1 44 yX1_takeMagnets, Cond.instanceMethod yX1_takeMagnets, Cond.selects RX1 yX1_takeMagnets yX1_takeMagnets, Cond.code yX1_takeMagnets cX1_takeMagnets 2 none, Cond.methodLink RX1 51 arraycopyName, Cond.native arraycopyName, Cond.static arraycopyName, Cond.initialized "java/lang/System", Cond.methodLink RX1 48 yX1_takeAngles, Cond.instanceMethod yX1_takeAngles, Cond.selects RX1 yX1_takeAngles yX1_takeAngles, Cond.code yX1_takeAngles cX1_takeAngles 2 none, Cond.methodLink RX2 27 yX0_takeFrom, Cond.instanceMethod yX0_takeFrom, Cond.selects RX0 yX0_takeFrom yX0_takeFrom, Cond.code yX0_takeFrom cX0_takeFrom 2 none, Cond.methodLink RX0 37 arraycopyName, Cond.methodLink RX4 60 yX1_startWith, Cond.instanceMethod yX1_startWith, Cond.selects RX1 yX1_startWith yX1_startWith]
def wsL_law_r7 : List Cond := [Cond.code yX1_startWith cX1_startWith 2 none, Cond.methodLink RX4 68 yX0_clear, Cond.instanceMethod yX0_clear, Cond.selects RX0 yX0_clear yX0_clear, Cond.code yX0_clear cX0_clear 1 none, Cond.methodLink RX4 73 yX1_settle, Cond.instanceMethod yX1_settle, Cond.selects RX1 yX1_settle yX1_settle, Cond.code yX1_settle cX1_settle 3 (some .int), Cond.methodLink RX1 78 yX1_settleOnce, Cond.instanceMethod yX1_settleOnce, Cond.selects RX1 yX1_settleOnce yX1_settleOnce, Cond.code yX1_settleOnce cX1_settleOnce 9 (some .boolean), Cond.methodLink RX1 82 Lib.Math.max.name, Cond.static Lib.Math.max.name, Cond.initialized "java/lang/Math", Cond.code Lib.Math.max.name Lib.Math.max.code 2 (some .int), Cond.methodLink RX1 69 yX1_partOf, Cond.instanceMethod yX1_partOf, Cond.selects RX1 yX1_partOf yX1_partOf, Cond.code yX1_partOf cX1_partOf 3 (some .int), Cond.methodLink RX1 61 yX1_pullOn, Cond.instanceMethod yX1_pullOn, Cond.selects RX1 yX1_pullOn yX1_pullOn]
def wsL_law_r8 : List Cond := [Cond.code yX1_pullOn cX1_pullOn 3 (some .int), Cond.static yX4_pull, Cond.code yX4_pull cX4_pull 2 (some .int), Cond.fieldLink RX4 241 "MagnetChain" "COSINES" "[I", Cond.methodLink RX1 65 yX1_partOfField, Cond.instanceMethod yX1_partOfField, Cond.selects RX1 yX1_partOfField yX1_partOfField, Cond.code yX1_partOfField cX1_partOfField 2 (some .int), Cond.static yX4_cosine, Cond.code yX4_cosine cX4_cosine 1 (some .int), Cond.methodLink RX1 87 yX1_turn, Cond.instanceMethod yX1_turn, Cond.selects RX1 yX1_turn yX1_turn, Cond.code yX1_turn cX1_turn 3 none, Cond.methodLink RX1 91 yX0_enter, Cond.instanceMethod yX0_enter, Cond.selects RX0 yX0_enter yX0_enter, Cond.code yX0_enter cX0_enter 4 none, Cond.methodLink RX0 43 yX0_dropOldestTurn, Cond.instanceMethod yX0_dropOldestTurn, Cond.selects RX0 yX0_dropOldestTurn yX0_dropOldestTurn, Cond.code yX0_dropOldestTurn cX0_dropOldestTurn 1 none, Cond.methodLink RL 17 yX5_begin, Cond.instanceMethod yX5_begin]
def wsL_law_r9 : List Cond := [Cond.selects RX5 yX5_begin yX5_begin, Cond.code yX5_begin cX5_begin 4 (some .int), Cond.constant RX5 102 (-1000000001), Cond.methodLink RX5 52 yX5_isIn, Cond.static yX5_isIn, Cond.code yX5_isIn cX5_isIn 3 (some .boolean), Cond.methodLink RX5 103 yX5_record, Cond.instanceMethod yX5_record, Cond.selects RX5 yX5_record yX5_record, Cond.code yX5_record cX5_record 2 none, Cond.fieldLink RX5 56 "MagnetChainModel" "changes" "I", Cond.methodLink RX5 99 yX5_settle, Cond.instanceMethod yX5_settle, Cond.selects RX5 yX5_settle yX5_settle, Cond.code yX5_settle cX5_settle 9 (some .int), Cond.methodLink RX5 88 yX5_free, Cond.instanceMethod yX5_free, Cond.selects RX5 yX5_free yX5_free, Cond.code yX5_free cX5_free 3 (some .int), Cond.methodLink RX5 68 yX5_angle, Cond.instanceMethod yX5_angle, Cond.selects RX5 yX5_angle yX5_angle, Cond.code yX5_angle cX5_angle 2 (some .int), Cond.methodLink RX5 82 yX5_part]
def wsL_law_r10 : List Cond := [Cond.instanceMethod yX5_part, Cond.selects RX5 yX5_part yX5_part, Cond.code yX5_part cX5_part 3 (some .int), Cond.methodLink RX5 75 yX5_pair, Cond.instanceMethod yX5_pair, Cond.selects RX5 yX5_pair yX5_pair, Cond.code yX5_pair cX5_pair 5 (some .int), Cond.methodLink RX5 64 yX5_isMagnet, Cond.instanceMethod yX5_isMagnet, Cond.selects RX5 yX5_isMagnet yX5_isMagnet, Cond.code yX5_isMagnet cX5_isMagnet 2 (some .boolean), Cond.methodLink RX5 71 yX5_pull, Cond.static yX5_pull, Cond.code yX5_pull cX5_pull 2 (some .int), Cond.methodLink RX5 60 yX5_c, Cond.static yX5_c, Cond.code yX5_c cX5_c 1 (some .int), Cond.methodLink RX5 79 yX5_field, Cond.instanceMethod yX5_field, Cond.selects RX5 yX5_field yX5_field, Cond.code yX5_field cX5_field 2 (some .int), Cond.methodLink RX5 85 yX5_turned, Cond.static yX5_turned, Cond.code yX5_turned cX5_turned 2 (some .int)]
def wsL_law_r11 : List Cond := [Cond.methodLink RX5 91 yX5_note, Cond.instanceMethod yX5_note, Cond.selects RX5 yX5_note yX5_note, Cond.code yX5_note cX5_note 5 none, Cond.methodLink RL 18 yX4_insert, Cond.instanceMethod yX4_insert, Cond.selects RX4 yX4_insert yX4_insert, Cond.code yX4_insert cX4_insert 5 (some .int), Cond.constant RX4 81 (-1000000003), Cond.methodLink RX4 77 yX4_isAngle, Cond.static yX4_isAngle, Cond.code yX4_isAngle cX4_isAngle 1 (some .boolean), Cond.methodLink RX4 82 yX4_startChange, Cond.instanceMethod yX4_startChange, Cond.selects RX4 yX4_startChange yX4_startChange, Cond.code yX4_startChange cX4_startChange 1 (some .int), Cond.methodLink RX4 159 yX1_energy, Cond.instanceMethod yX1_energy, Cond.selects RX1 yX1_energy yX1_energy, Cond.code yX1_energy cX1_energy 4 (some .int), Cond.methodLink RX4 86 yX1_putIn, Cond.instanceMethod yX1_putIn, Cond.selects RX1 yX1_putIn yX1_putIn, Cond.code yX1_putIn cX1_putIn 4 none]
def wsL_law_r12 : List Cond := [Cond.methodLink RX1 57 yX1_copyMagnet, Cond.instanceMethod yX1_copyMagnet, Cond.selects RX1 yX1_copyMagnet yX1_copyMagnet, Cond.code yX1_copyMagnet cX1_copyMagnet 4 none, Cond.methodLink RX4 90 yX4_endChange, Cond.instanceMethod yX4_endChange, Cond.selects RX4 yX4_endChange yX4_endChange, Cond.code yX4_endChange cX4_endChange 2 (some .int), Cond.fieldLink RX4 162 "MagnetChain$Books" "work" "I", Cond.methodLink RL 22 yX5_insert, Cond.instanceMethod yX5_insert, Cond.selects RX5 yX5_insert yX5_insert, Cond.code yX5_insert cX5_insert 5 (some .int), Cond.constant RX5 106 (-1000000003), Cond.methodLink RX5 95 yX5_energy, Cond.instanceMethod yX5_energy, Cond.selects RX5 yX5_energy yX5_energy, Cond.code yX5_energy cX5_energy 3 (some .int), Cond.methodLink RX5 107 yX5_end, Cond.instanceMethod yX5_end, Cond.selects RX5 yX5_end yX5_end, Cond.code yX5_end cX5_end 2 (some .int), Cond.methodLink RL 23 yX4_remove, Cond.instanceMethod yX4_remove]
def wsL_law_r13 : List Cond := [Cond.selects RX4 yX4_remove yX4_remove, Cond.code yX4_remove cX4_remove 5 (some .int), Cond.constant RX4 97 (-1000000002), Cond.fieldLink RX4 98 "MagnetChain$Chain" "angles" "[I", Cond.methodLink RX4 94 yX4_isMagnet, Cond.instanceMethod yX4_isMagnet, Cond.selects RX4 yX4_isMagnet yX4_isMagnet, Cond.code yX4_isMagnet cX4_isMagnet 2 (some .boolean), Cond.methodLink RX4 102 yX1_takeOut, Cond.instanceMethod yX1_takeOut, Cond.selects RX1 yX1_takeOut yX1_takeOut, Cond.code yX1_takeOut cX1_takeOut 3 none, Cond.methodLink RL 26 yX5_remove, Cond.instanceMethod yX5_remove, Cond.selects RX5 yX5_remove yX5_remove, Cond.code yX5_remove cX5_remove 5 (some .int), Cond.constant RX5 59 (-1000000002), Cond.methodLink RX5 110 yX5_take, Cond.instanceMethod yX5_take, Cond.selects RX5 yX5_take yX5_take, Cond.code yX5_take cX5_take 3 none, Cond.methodLink RL 27 yX4_shed, Cond.instanceMethod yX4_shed, Cond.selects RX4 yX4_shed yX4_shed]
def wsL_law_r14 : List Cond := [Cond.code yX4_shed cX4_shed 5 (some .int), Cond.fieldLink RX4 105 "MagnetChain$Chain" "held" "[I", Cond.methodLink RX4 108 yX1_pullOfNeighbors, Cond.instanceMethod yX1_pullOfNeighbors, Cond.selects RX1 yX1_pullOfNeighbors yX1_pullOfNeighbors, Cond.code yX1_pullOfNeighbors cX1_pullOfNeighbors 2 (some .int), Cond.methodLink RX4 111 yX1_append, Cond.instanceMethod yX1_append, Cond.selects RX1 yX1_append yX1_append, Cond.code yX1_append cX1_append 3 none, Cond.methodLink RX4 115 yX1_takeMagnets, Cond.methodLink RL 31 yX5_shed, Cond.instanceMethod yX5_shed, Cond.selects RX5 yX5_shed yX5_shed, Cond.code yX5_shed cX5_shed 5 (some .int), Cond.methodLink RX5 113 yX5_shedSet, Cond.instanceMethod yX5_shedSet, Cond.selects RX5 yX5_shedSet yX5_shedSet, Cond.code yX5_shedSet cX5_shedSet 4 (some .int), Cond.methodLink RL 32 yX4_reverse, Cond.instanceMethod yX4_reverse, Cond.selects RX4 yX4_reverse yX4_reverse, Cond.code yX4_reverse cX4_reverse 5 (some .int), Cond.methodLink RX4 119 yX1_mirror]
def wsL_law_r15 : List Cond := [Cond.instanceMethod yX1_mirror, Cond.selects RX1 yX1_mirror yX1_mirror, Cond.code yX1_mirror cX1_mirror 2 none, Cond.methodLink RX4 122 yX1_differencesFrom, Cond.instanceMethod yX1_differencesFrom, Cond.selects RX1 yX1_differencesFrom yX1_differencesFrom, Cond.code yX1_differencesFrom cX1_differencesFrom 4 (some .int), Cond.methodLink RL 35 yX5_reverse, Cond.instanceMethod yX5_reverse, Cond.selects RX5 yX5_reverse yX5_reverse, Cond.code yX5_reverse cX5_reverse 7 (some .int), Cond.methodLink RX5 116 yX5_mirrored, Cond.static yX5_mirrored, Cond.code yX5_mirrored cX5_mirrored 1 (some .int), Cond.methodLink RL 36 yX4_hold, Cond.instanceMethod yX4_hold, Cond.selects RX4 yX4_hold yX4_hold, Cond.code yX4_hold cX4_hold 5 (some .int), Cond.methodLink RL 39 yX5_hold, Cond.instanceMethod yX5_hold, Cond.selects RX5 yX5_hold yX5_hold, Cond.code yX5_hold cX5_hold 5 (some .int), Cond.methodLink RL 40 yX4_push, Cond.instanceMethod yX4_push]
def wsL_law_r16 : List Cond := [Cond.selects RX4 yX4_push yX4_push, Cond.code yX4_push cX4_push 4 (some .int), Cond.fieldLink RX4 132 "MagnetChain$Books" "pushes" "I", Cond.methodLink RX4 126 yX4_isPush, Cond.static yX4_isPush, Cond.code yX4_isPush cX4_isPush 1 (some .boolean), Cond.methodLink RX4 129 yX1_turn, Cond.methodLink RL 43 yX5_push, Cond.instanceMethod yX5_push, Cond.selects RX5 yX5_push yX5_push, Cond.code yX5_push cX5_push 4 (some .int), Cond.methodLink RX5 119 yX5_isPush, Cond.instanceMethod yX5_isPush, Cond.selects RX5 yX5_isPush yX5_isPush, Cond.code yX5_isPush cX5_isPush 3 (some .boolean), Cond.methodLink RL 44 yX4_set, Cond.instanceMethod yX4_set, Cond.selects RX4 yX4_set yX4_set, Cond.code yX4_set cX4_set 5 (some .int), Cond.fieldLink RX4 139 "MagnetChain$Chain" "coupling" "I", Cond.fieldLink RX4 142 "MagnetChain$Chain" "depth" "I", Cond.fieldLink RX4 145 "MagnetChain$Chain" "strength" "I", Cond.fieldLink RX4 148 "MagnetChain$Chain" "side" "I", Cond.methodLink RX4 135 yX4_isSetting]
def wsL_law_r17 : List Cond := [Cond.static yX4_isSetting, Cond.code yX4_isSetting cX4_isSetting 2 (some .boolean), Cond.methodLink RL 47 yX5_set, Cond.instanceMethod yX5_set, Cond.selects RX5 yX5_set yX5_set, Cond.code yX5_set cX5_set 4 (some .int), Cond.methodLink RL 48 yX4_goal, Cond.instanceMethod yX4_goal, Cond.selects RX4 yX4_goal yX4_goal, Cond.code yX4_goal cX4_goal 5 (some .int), Cond.constant RX4 151 (-1000000009), Cond.fieldLink RX4 152 "MagnetChain$Chain" "goals" "[I", Cond.methodLink RL 51 yX5_goal, Cond.instanceMethod yX5_goal, Cond.selects RX5 yX5_goal yX5_goal, Cond.code yX5_goal cX5_goal 5 (some .int), Cond.methodLink RL 52 yX4_undo, Cond.instanceMethod yX4_undo, Cond.selects RX4 yX4_undo yX4_undo, Cond.code yX4_undo cX4_undo 1 (some .int), Cond.methodLink RL 55 yX5_undo, Cond.instanceMethod yX5_undo, Cond.selects RX5 yX5_undo yX5_undo, Cond.code yX5_undo cX5_undo 2 (some .int)]
def wsL_law_r18 : List Cond := [Cond.methodLink RL 56 yX4_told, Cond.instanceMethod yX4_told, Cond.selects RX4 yX4_told yX4_told, Cond.code yX4_told cX4_told 4 (some .int), Cond.fieldLink RX4 165 "MagnetChain$Books" "heat" "I", Cond.fieldLink RX4 168 "MagnetChain$Books" "turns" "I", Cond.fieldLink RX4 171 "MagnetChain$Books" "logged" "I", Cond.fieldLink RX4 183 "MagnetChain$Text" "length" "I", Cond.methodLink RX4 174 yX1_walls, Cond.instanceMethod yX1_walls, Cond.selects RX1 yX1_walls yX1_walls, Cond.code yX1_walls cX1_walls 3 (some .int), Cond.methodLink RX4 177 yX1_goalsMissed, Cond.instanceMethod yX1_goalsMissed, Cond.selects RX1 yX1_goalsMissed yX1_goalsMissed, Cond.code yX1_goalsMissed cX1_goalsMissed 3 (some .int), Cond.methodLink RX4 180 yX1_heldOnes, Cond.instanceMethod yX1_heldOnes, Cond.selects RX1 yX1_heldOnes yX1_heldOnes, Cond.code yX1_heldOnes cX1_heldOnes 3 (some .int), Cond.methodLink RL 59 yX5_told, Cond.instanceMethod yX5_told, Cond.selects RX5 yX5_told yX5_told, Cond.code yX5_told cX5_told 2 (some .int)]
def wsL_law_r19 : List Cond := [Cond.fieldLink RX5 132 "MagnetChainModel" "length" "I", Cond.methodLink RX5 123 yX5_walls, Cond.instanceMethod yX5_walls, Cond.selects RX5 yX5_walls yX5_walls, Cond.code yX5_walls cX5_walls 3 (some .int), Cond.methodLink RX5 126 yX5_unsolved, Cond.instanceMethod yX5_unsolved, Cond.selects RX5 yX5_unsolved yX5_unsolved, Cond.code yX5_unsolved cX5_unsolved 3 (some .int), Cond.methodLink RX5 129 yX5_held, Cond.instanceMethod yX5_held, Cond.selects RX5 yX5_held yX5_held, Cond.code yX5_held cX5_held 3 (some .int), Cond.methodLink RL 60 yX4_magnet, Cond.instanceMethod yX4_magnet, Cond.selects RX4 yX4_magnet yX4_magnet, Cond.code yX4_magnet cX4_magnet 4 (some .int), Cond.methodLink RX4 186 yX1_freedBy, Cond.instanceMethod yX1_freedBy, Cond.selects RX1 yX1_freedBy yX1_freedBy, Cond.code yX1_freedBy cX1_freedBy 3 (some .int), Cond.methodLink RX4 190 yX1_partOf, Cond.methodLink RL 63 yX5_magnet, Cond.instanceMethod yX5_magnet]
def wsL_law_r20 : List Cond := [Cond.selects RX5 yX5_magnet yX5_magnet, Cond.code yX5_magnet cX5_magnet 3 (some .int), Cond.methodLink RL 64 yX4_log, Cond.instanceMethod yX4_log, Cond.selects RX4 yX4_log yX4_log, Cond.code yX4_log cX4_log 5 (some .int), Cond.fieldLink RX4 193 "MagnetChain$Books" "loggedMagnets" "[I", Cond.fieldLink RX4 196 "MagnetChain$Books" "loggedDirections" "[I", Cond.fieldLink RX4 199 "MagnetChain$Books" "loggedHeats" "[I", Cond.methodLink RL 67 yX5_log, Cond.instanceMethod yX5_log, Cond.selects RX5 yX5_log yX5_log, Cond.code yX5_log cX5_log 3 (some .int), Cond.methodLink RL 68 yX4_points, Cond.instanceMethod yX4_points, Cond.selects RX4 yX4_points yX4_points, Cond.code yX4_points cX4_points 2 (some .int), Cond.methodLink RX4 202 yX1_pointsTo, Cond.instanceMethod yX1_pointsTo, Cond.selects RX1 yX1_pointsTo yX1_pointsTo, Cond.code yX1_pointsTo cX1_pointsTo 4 (some .int), Cond.methodLink RL 71 yX5_points, Cond.instanceMethod yX5_points, Cond.selects RX5 yX5_points yX5_points]
def wsL_law_r21 : List Cond := [Cond.code yX5_points cX5_points 2 (some .int), Cond.methodLink RX5 135 yX5_pointsTo, Cond.instanceMethod yX5_pointsTo, Cond.selects RX5 yX5_pointsTo yX5_pointsTo, Cond.code yX5_pointsTo cX5_pointsTo 4 (some .int), Cond.methodLink RL 72 yX4_mean, Cond.instanceMethod yX4_mean, Cond.selects RX4 yX4_mean yX4_mean, Cond.code yX4_mean cX4_mean 1 (some .float), Cond.methodLink RL 76 yX5_mean, Cond.instanceMethod yX5_mean, Cond.selects RX5 yX5_mean yX5_mean, Cond.code yX5_mean cX5_mean 1 (some .float), Cond.methodLink RL 77 yX4_moved, Cond.instanceMethod yX4_moved, Cond.selects RX4 yX4_moved yX4_moved, Cond.code yX4_moved cX4_moved 4 (some .int), Cond.methodLink RX4 205 yX1_takeFrom, Cond.methodLink RL 80 yX5_moved, Cond.instanceMethod yX5_moved, Cond.selects RX5 yX5_moved yX5_moved, Cond.code yX5_moved cX5_moved 4 (some .int), Cond.methodLink RX5 138 yX5_putAside, Cond.instanceMethod yX5_putAside]
def wsL_law_r22 : List Cond := [Cond.selects RX5 yX5_putAside yX5_putAside, Cond.code yX5_putAside cX5_putAside 2 none, Cond.methodLink RX5 141 yX5_putBack, Cond.instanceMethod yX5_putBack, Cond.selects RX5 yX5_putBack yX5_putBack, Cond.code yX5_putBack cX5_putBack 2 none, Cond.methodLink RL 81 yX4_loop, Cond.instanceMethod yX4_loop, Cond.selects RX4 yX4_loop yX4_loop, Cond.code yX4_loop cX4_loop 15 (some .int), Cond.methodLink RX4 207 yX4_isLoop, Cond.static yX4_isLoop, Cond.code yX4_isLoop cX4_isLoop 2 (some .boolean), Cond.methodLink RX4 210 yX4_stepsUp, Cond.static yX4_stepsUp, Cond.code yX4_stepsUp cX4_stepsUp 2 (some .int), Cond.methodLink RL 85 yX5_loop, Cond.instanceMethod yX5_loop, Cond.selects RX5 yX5_loop yX5_loop, Cond.code yX5_loop cX5_loop 5 (some .int), Cond.fieldLink RX5 147 "MagnetChainModel" "area" "I", Cond.fieldLink RX5 150 "MagnetChainModel" "remains" "I", Cond.fieldLink RX5 153 "MagnetChainModel" "turnsOver" "I", Cond.fieldLink RX5 144 "MagnetChainModel" "loopTurns" "I"]
def wsL_law_r23 : List Cond := [Cond.methodLink RX5 159 yX5_run, Cond.instanceMethod yX5_run, Cond.selects RX5 yX5_run yX5_run, Cond.code yX5_run cX5_run 7 (some .int), Cond.methodLink RX5 156 yX5_to, Cond.instanceMethod yX5_to, Cond.selects RX5 yX5_to yX5_to, Cond.code yX5_to cX5_to 3 (some .int), Cond.methodLink RL 86 yX4_solve, Cond.instanceMethod yX4_solve, Cond.selects RX4 yX4_solve yX4_solve, Cond.code yX4_solve cX4_solve 5 (some .int), Cond.methodLink RX4 213 yX4_firstPush, Cond.static yX4_firstPush, Cond.code yX4_firstPush cX4_firstPush 6 (some .int), Cond.methodLink RX4 217 yX4_magnetOf, Cond.static yX4_magnetOf, Cond.code yX4_magnetOf cX4_magnetOf 1 (some .int), Cond.methodLink RX4 238 yX1_takeAngles, Cond.methodLink RX4 220 yX4_directionOf, Cond.static yX4_directionOf, Cond.code yX4_directionOf cX4_directionOf 1 (some .int), Cond.methodLink RL 89 yX5_solve, Cond.instanceMethod yX5_solve]
def wsL_law_r24 : List Cond := [Cond.selects RX5 yX5_solve yX5_solve, Cond.code yX5_solve cX5_solve 5 (some .int), Cond.methodLink RX5 174 yX5_isSolvedBy, Cond.instanceMethod yX5_isSolvedBy, Cond.selects RX5 yX5_isSolvedBy yX5_isSolvedBy, Cond.code yX5_isSolvedBy cX5_isSolvedBy 3 (some .boolean), Cond.methodLink RX5 171 yX5_search, Cond.instanceMethod yX5_search, Cond.selects RX5 yX5_search yX5_search, Cond.code yX5_search cX5_search 5 (some .boolean), Cond.methodLink RX5 162 yX5_store, Cond.instanceMethod yX5_store, Cond.selects RX5 yX5_store yX5_store, Cond.code yX5_store cX5_store 3 none, Cond.methodLink RX5 165 yX5_choices, Cond.instanceMethod yX5_choices, Cond.selects RX5 yX5_choices yX5_choices, Cond.code yX5_choices cX5_choices 1 (some .int), Cond.methodLink RX5 168 yX5_restore, Cond.instanceMethod yX5_restore, Cond.selects RX5 yX5_restore yX5_restore, Cond.code yX5_restore cX5_restore 3 none, Cond.methodLink RL 90 yX4_write, Cond.instanceMethod yX4_write]
def wsL_law_r25 : List Cond := [Cond.selects RX4 yX4_write yX4_write, Cond.code yX4_write cX4_write 2 (some .int), Cond.methodLink RX4 223 yX3_append, Cond.instanceMethod yX3_append, Cond.selects RX3 yX3_append yX3_append, Cond.code yX3_append cX3_append 2 (some .boolean), Cond.methodLink RL 93 yX5_write, Cond.instanceMethod yX5_write, Cond.selects RX5 yX5_write yX5_write, Cond.code yX5_write cX5_write 2 (some .int), Cond.methodLink RL 94 yX4_wipe, Cond.instanceMethod yX4_wipe, Cond.selects RX4 yX4_wipe yX4_wipe, Cond.code yX4_wipe cX4_wipe 2 (some .int), Cond.methodLink RL 97 yX5_wipe, Cond.instanceMethod yX5_wipe, Cond.selects RX5 yX5_wipe yX5_wipe, Cond.code yX5_wipe cX5_wipe 2 (some .int), Cond.methodLink RL 98 yX4_load, Cond.instanceMethod yX4_load, Cond.selects RX4 yX4_load yX4_load, Cond.code yX4_load cX4_load 3 (some .int), Cond.methodLink RX4 225 yX3_readInto, Cond.instanceMethod yX3_readInto]
def wsL_law_r26 : List Cond := [Cond.selects RX3 yX3_readInto yX3_readInto, Cond.code yX3_readInto cX3_readInto 6 (some .boolean), Cond.fieldLink RX3 26 "MagnetChain$Chain" "size" "I", Cond.fieldLink RX3 43 "MagnetChain$Chain" "held" "[I", Cond.methodLink RX3 35 yX3_refuse, Cond.instanceMethod yX3_refuse, Cond.selects RX3 yX3_refuse yX3_refuse, Cond.code yX3_refuse cX3_refuse 3 (some .boolean), Cond.methodLink RX3 39 yX1_putIn, Cond.methodLink RL 101 yX5_load, Cond.instanceMethod yX5_load, Cond.selects RX5 yX5_load yX5_load, Cond.code yX5_load cX5_load 3 (some .int), Cond.fieldLink RX5 177 "MagnetChainModel" "wrongKind" "I", Cond.fieldLink RX5 180 "MagnetChainModel" "wrongPlace" "I", Cond.fieldLink RX5 183 "MagnetChainModel" "read" "I", Cond.methodLink RX5 193 yX5_readAll, Cond.instanceMethod yX5_readAll, Cond.selects RX5 yX5_readAll yX5_readAll, Cond.code yX5_readAll cX5_readAll 2 none, Cond.methodLink RX5 186 yX5_fails, Cond.instanceMethod yX5_fails, Cond.selects RX5 yX5_fails yX5_fails, Cond.code yX5_fails cX5_fails 3 none]
def wsL_law_r27 : List Cond := [Cond.methodLink RX5 190 yX5_readByte, Cond.instanceMethod yX5_readByte, Cond.selects RX5 yX5_readByte yX5_readByte, Cond.code yX5_readByte cX5_readByte 4 none, Cond.methodLink RL 102 yX4_fault, Cond.instanceMethod yX4_fault, Cond.selects RX4 yX4_fault yX4_fault, Cond.code yX4_fault cX4_fault 2 (some .int), Cond.fieldLink RX4 229 "MagnetChain$Text" "faultKind" "I", Cond.fieldLink RX4 232 "MagnetChain$Text" "faultPlace" "I", Cond.methodLink RL 105 yX5_fault, Cond.instanceMethod yX5_fault, Cond.selects RX5 yX5_fault yX5_fault, Cond.code yX5_fault cX5_fault 2 (some .int), Cond.methodLink RL 106 yX4_keep, Cond.instanceMethod yX4_keep, Cond.selects RX4 yX4_keep yX4_keep, Cond.code yX4_keep cX4_keep 2 (some .int), Cond.methodLink RL 109 yX5_keep, Cond.instanceMethod yX5_keep, Cond.selects RX5 yX5_keep yX5_keep, Cond.code yX5_keep cX5_keep 3 (some .int), Cond.methodLink RX5 196 yX5_isImage, Cond.static yX5_isImage]
def wsL_law_r28 : List Cond := [Cond.code yX5_isImage cX5_isImage 1 (some .boolean), Cond.methodLink RL 110 yX4_back, Cond.instanceMethod yX4_back, Cond.selects RX4 yX4_back yX4_back, Cond.code yX4_back cX4_back 2 (some .int), Cond.methodLink RL 113 yX5_back, Cond.instanceMethod yX5_back, Cond.selects RX5 yX5_back yX5_back, Cond.code yX5_back cX5_back 3 (some .int)]
def wsL_law : List Cond := (wsL_law_r1 ++ (wsL_law_r2 ++ (wsL_law_r3 ++ (wsL_law_r4 ++ (wsL_law_r5 ++ (wsL_law_r6 ++ (wsL_law_r7 ++ (wsL_law_r8 ++ (wsL_law_r9 ++ (wsL_law_r10 ++ (wsL_law_r11 ++ (wsL_law_r12 ++ (wsL_law_r13 ++ (wsL_law_r14 ++ (wsL_law_r15 ++ (wsL_law_r16 ++ (wsL_law_r17 ++ (wsL_law_r18 ++ (wsL_law_r19 ++ (wsL_law_r20 ++ (wsL_law_r21 ++ (wsL_law_r22 ++ (wsL_law_r23 ++ (wsL_law_r24 ++ (wsL_law_r25 ++ (wsL_law_r26 ++ (wsL_law_r27 ++ wsL_law_r28))))))))))))))))))))))))))) ++ wsX40 ++ wsX50 ++ wsX20 ++ wsX30 ++ wsX10 ++ wsX00 ++ ([] : List Cond)
theorem inlX0 : ∀ w ∈ wsX00, w ∈ wsL_law := fun _ h => List.mem_append_left _ (List.mem_append_right _ h)
theorem inlX1 : ∀ w ∈ wsX10, w ∈ wsL_law := fun _ h => List.mem_append_left _ (List.mem_append_left _ (List.mem_append_right _ h))
theorem inlX2 : ∀ w ∈ wsX20, w ∈ wsL_law := fun _ h => List.mem_append_left _ (List.mem_append_left _ (List.mem_append_left _ (List.mem_append_left _ (List.mem_append_right _ h))))
theorem inlX3 : ∀ w ∈ wsX30, w ∈ wsL_law := fun _ h => List.mem_append_left _ (List.mem_append_left _ (List.mem_append_left _ (List.mem_append_right _ h)))
theorem inlX4 : ∀ w ∈ wsX40, w ∈ wsL_law := fun _ h => List.mem_append_left _ (List.mem_append_left _ (List.mem_append_left _ (List.mem_append_left _ (List.mem_append_left _ (List.mem_append_left _ (List.mem_append_right _ h))))))
theorem inlX5 : ∀ w ∈ wsX50, w ∈ wsL_law := fun _ h => List.mem_append_left _ (List.mem_append_left _ (List.mem_append_left _ (List.mem_append_left _ (List.mem_append_left _ (List.mem_append_right _ h)))))
theorem inJ9 : ∀ w ∈ wsJ90, w ∈ lw_tbl := by decide +kernel
theorem inJ10 : ∀ w ∈ wsJ100, w ∈ lw_tbl := by decide +kernel
theorem inJ7 : ∀ w ∈ wsJ70, w ∈ lw_tbl := by decide +kernel
abbrev vwCl : List vw_C := [(RX0, TX0, 8), (RX1, TX1, 8), (RX2, TX2, 2), (RX3, TX3, 4), (RX4, TX4, 7), (RX5, TX5, 21)]
end
section
/-! ===== the memory of class and reference: objects by (class, number), each with ints by slot and int arrays by slot ===== -/
abbrev OV : Type := (Nat → Int32) × (Nat → Nat → Int32)
abbrev Mem : Type := (Nat → Nat → OV) × (Nat → Nat)
/-- what stays the same over a run: the launch, the classes, the array classes (int, boolean, State, Chain), the addresses, where the world begins, the table's address -/
abbrev GT : Type := Launch × va_G × (ClassId × ClassId × ClassId × ClassId) × (Nat → Nat → Nat → Nat) × Nat × Nat
def ad (Γ : GT) (ci i j : Nat) : Nat := Γ.2.2.2.1 ci i j
def gA (Γ : GT) : Nat → Prop := fun q => Γ.2.2.2.2.1 ≤ q
def tys (Γ : GT) : List (ClassId × FieldType) := [(Γ.2.2.1.1, .int), (Γ.2.2.1.2.1, .boolean), (Γ.2.2.1.2.2.1, .object RX2), (Γ.2.2.1.2.2.2, .object RX1)]
def alen (ci s : Nat) : Nat := match ci with
  | 0 => 30
  | 1 => 10
  | 3 => 40
  | _ => match s with
    | 0 => 130
    | 1 => 1040
    | 3 => 260
    | 4 => 2
    | 5 => 40
    | 9 => 130
    | 14 => 30
    | 15 => 3
    | _ => 10
/-- how many objects of a class -/
abbrev nO (ci : Nat) : Nat := match ci with
  | 0 => 11
  | 1 => 15
  | 2 => 11
  | _ => 1
/-- which slots of a class are int arrays -/
def isA (ci s : Nat) : Bool := match ci with
  | 0 => Nat.beq s 5 || Nat.beq s 6 || Nat.beq s 7
  | 1 => Nat.beq s 1 || Nat.beq s 2 || Nat.beq s 3
  | 3 => Nat.beq s 0
  | 5 => Nat.beq s 0 || Nat.beq s 1 || Nat.beq s 3 || Nat.beq s 4 || Nat.beq s 5 || Nat.beq s 9 || Nat.beq s 14 || Nat.beq s 15 || Nat.beq s 16 || Nat.beq s 17
  | _ => false
/-- which slots of a class are ints -/
def isI (ci s : Nat) : Bool := match ci with
  | 0 => Nat.blt s 5
  | 1 => Nat.beq s 0 || Nat.beq s 4 || Nat.beq s 5 || Nat.beq s 6 || Nat.beq s 7
  | 3 => Nat.beq s 1 || Nat.beq s 2 || Nat.beq s 3
  | 4 => Nat.beq s 2
  | 5 => Nat.beq s 2 || Nat.beq s 6 || Nat.beq s 7 || Nat.beq s 8 || Nat.beq s 10 || Nat.beq s 11 || Nat.beq s 12 || Nat.beq s 13 || Nat.beq s 18 || Nat.beq s 19 || Nat.beq s 20
  | _ => false
/-- which slots of the main object are arrays of another kind -/
def isR (ci s : Nat) : Bool := Nat.beq ci 4 && (Nat.beq s 1 || Nat.beq s 3 || Nat.beq s 4 || Nat.beq s 6)
def okJ (ci j : Nat) : Bool := match j with
  | 0 => true
  | s + 1 => isA ci s || isR ci s
def keys : List (Nat × Nat × Nat) := (List.range 6).flatMap fun ci => (List.range (nO ci)).flatMap fun i => ((List.range 19).filter (okJ ci)).map fun j => (ci, i, j)
theorem mem_keys {ci i j : Nat} (h1 : ci < 6) (h2 : i < nO ci) (h3 : j < 19) (h4 : okJ ci j = true) : (ci, i, j) ∈ keys := by
  unfold keys
  refine List.mem_flatMap.mpr ⟨ci, List.mem_range.mpr h1, List.mem_flatMap.mpr ⟨i, List.mem_range.mpr h2, List.mem_map.mpr ⟨j, List.mem_filter.mpr ⟨List.mem_range.mpr h3, h4⟩, rfl⟩⟩⟩
theorem keys_nodup : keys.Nodup := by decide +kernel
def flds (Γ : GT) (M : Mem) (ci i : Nat) : List Value := match ci with
  | 0 => [.int ((M.1 0 i).1 0), .int ((M.1 0 i).1 1), .int ((M.1 0 i).1 2), .int ((M.1 0 i).1 3), .int ((M.1 0 i).1 4), .ref (ad Γ 0 i 6), .ref (ad Γ 0 i 7), .ref (ad Γ 0 i 8)]
  | 1 => [.int ((M.1 1 i).1 0), .ref (ad Γ 1 i 2), .ref (ad Γ 1 i 3), .ref (ad Γ 1 i 4), .int ((M.1 1 i).1 4), .int ((M.1 1 i).1 5), .int ((M.1 1 i).1 6), .int ((M.1 1 i).1 7)]
  | 2 => [.ref (ad Γ 1 i 0), .ref (ad Γ 0 i 0)]
  | 3 => [.ref (ad Γ 3 i 1), .int ((M.1 3 i).1 1), .int ((M.1 3 i).1 2), .int ((M.1 3 i).1 3)]
  | 4 => [.ref (ad Γ 2 0 0), .ref (ad Γ 4 i 2), .int ((M.1 4 i).1 2), .ref (ad Γ 4 i 4), .ref (ad Γ 4 i 5), .ref (ad Γ 3 0 0), .ref (ad Γ 4 i 7)]
  | ci => [.ref (ad Γ ci i 1), .ref (ad Γ ci i 2), .int ((M.1 ci i).1 2), .ref (ad Γ ci i 4), .ref (ad Γ ci i 5), .ref (ad Γ ci i 6), .int ((M.1 ci i).1 6), .int ((M.1 ci i).1 7), .int ((M.1 ci i).1 8), .ref (ad Γ ci i 10), .int ((M.1 ci i).1 10), .int ((M.1 ci i).1 11), .int ((M.1 ci i).1 12), .int ((M.1 ci i).1 13), .ref (ad Γ ci i 15), .ref (ad Γ ci i 16), .ref (ad Γ ci i 17), .ref (ad Γ ci i 18), .int ((M.1 ci i).1 18), .int ((M.1 ci i).1 19), .int ((M.1 ci i).1 20)]
def acell (Γ : GT) (M : Mem) (ci i s : Nat) : va_E := match ci with
  | 4 => (match s with
    | 1 => .inl (Γ.2.2.1.2.2.1, 8, .inr (.inr (.inr (.inr (fun k => some (ad Γ 2 (M.2 k) 0))))))
    | 3 => .inl (Γ.2.2.1.2.2.1, 2, .inr (.inr (.inr (.inr (fun k => some (ad Γ 2 (9 + k) 0))))))
    | 4 => .inl (Γ.2.2.1.2.1, 2, .inl ((M.1 4 i).2 4))
    | _ => .inl (Γ.2.2.1.2.2.2, 4, .inr (.inr (.inr (.inr (fun k => some (ad Γ 1 (11 + k) 0)))))))
  | ci => .inl (Γ.2.2.1.1, alen ci s, .inl ((M.1 ci i).2 s))
def cell (Γ : GT) (M : Mem) (ci i j : Nat) : va_E := match j with
  | 0 => .inr (ci, flds Γ M ci i)
  | s + 1 => acell Γ M ci i s
def mem (Γ : GT) (M : Mem) : va_W := keys.map fun k => (ad Γ k.1 k.2.1 k.2.2, cell Γ M k.1 k.2.1 k.2.2)
/-- the addresses are apart, and in the world -/
def GOK (Γ : GT) : Prop := (∀ k ∈ keys, ∀ k' ∈ keys, ad Γ k.1 k.2.1 k.2.2 = ad Γ k'.1 k'.2.1 k'.2.2 → k = k') ∧ ∀ k ∈ keys, gA Γ (ad Γ k.1 k.2.1 k.2.2)
theorem mem_at (Γ : GT) (M : Mem) {k : Nat × Nat × Nat} (hk : k ∈ keys) : ∃ q : Nat, (mem Γ M)[q]? = some (ad Γ k.1 k.2.1 k.2.2, cell Γ M k.1 k.2.1 k.2.2) := by
  obtain ⟨q, hq⟩ := List.getElem?_of_mem hk
  exact ⟨q, by simp [mem, hq]⟩
theorem mem_inv {Γ : GT} {M : Mem} {q : Nat} {x : Nat × va_E} (h : (mem Γ M)[q]? = some x) : ∃ k, keys[q]? = some k ∧ x = (ad Γ k.1 k.2.1 k.2.2, cell Γ M k.1 k.2.1 k.2.2) := by
  unfold mem at h
  rw [List.getElem?_map] at h
  cases hq : keys[q]? with
  | none => rw [hq] at h; cases h
  | some k => rw [hq] at h; exact ⟨k, rfl, (Option.some.inj h).symm⟩
theorem memD {Γ : GT} (hG : GOK Γ) (M : Mem) : va_D (gA Γ) (mem Γ M) := by
  refine ⟨fun i j x y hi hj hxy => ?_, fun q x hq => ?_⟩
  · obtain ⟨k, hk, rfl⟩ := mem_inv hi
    obtain ⟨k', hk', rfl⟩ := mem_inv hj
    have e := hG.1 k (List.mem_of_getElem? hk) k' (List.mem_of_getElem? hk') hxy
    subst e
    have hl : i < keys.length := (List.getElem?_eq_some_iff.mp hk).1
    exact (List.getElem?_inj hl keys_nodup).mp (hk.trans hk'.symm)
  · obtain ⟨k, hk, rfl⟩ := mem_inv hq
    exact hG.2 k (List.mem_of_getElem? hk)
theorem mem_set {Γ : GT} (hG : GOK Γ) {M M' : Mem} {k : Nat × Nat × Nat} (hk : k ∈ keys) {q : Nat} {e0 e : va_E} (hq : (mem Γ M)[q]? = some (ad Γ k.1 k.2.1 k.2.2, e0)) (he : cell Γ M' k.1 k.2.1 k.2.2 = e) (ho : ∀ k' ∈ keys, k' ≠ k → cell Γ M' k'.1 k'.2.1 k'.2.2 = cell Γ M k'.1 k'.2.1 k'.2.2) : (mem Γ M).set q (ad Γ k.1 k.2.1 k.2.2, e) = mem Γ M' := by
  obtain ⟨k0, hk0, e1⟩ := mem_inv hq
  have ek : k = k0 := hG.1 k hk k0 (List.mem_of_getElem? hk0) (by have := congrArg Prod.fst e1; exact this)
  subst ek
  have hl : q < keys.length := (List.getElem?_eq_some_iff.mp hk0).1
  apply List.ext_getElem?
  intro q'
  by_cases h : q' = q
  · subst h
    rw [List.getElem?_set_self (by unfold mem; rw [List.length_map]; exact hl)]
    unfold mem
    rw [List.getElem?_map, hk0]
    simp only [Option.map_some, he]
  · rw [List.getElem?_set_ne (Ne.symm h)]
    unfold mem
    rw [List.getElem?_map, List.getElem?_map]
    cases hq' : keys[q']? with
    | none => rfl
    | some k' =>
      have hne : k' ≠ k := by
        intro z
        subst z
        exact h ((List.getElem?_inj hl keys_nodup).mp (hk0.trans hq'.symm)).symm
      simp only [Option.map_some, ho k' (List.mem_of_getElem? hq') hne]
/-! ===== writes ===== -/
def sO (M : Mem) (ci i : Nat) (X : OV) : Mem := (fun c' i' => if c' = ci ∧ i' = i then X else M.1 c' i', M.2)
abbrev oI (X : OV) (j : Nat) (v : Int32) : OV := (upd X.1 j v, X.2)
def updA (F : Nat → Nat → Int32) (s : Nat) (f : Nat → Int32) : Nat → Nat → Int32 := fun s' => if s' = s then f else F s'
abbrev oA (X : OV) (s : Nat) (f : Nat → Int32) : OV := (X.1, updA X.2 s f)
abbrev sI (M : Mem) (ci i j : Nat) (v : Int32) : Mem := sO M ci i (oI (M.1 ci i) j v)
abbrev sA (M : Mem) (ci i s : Nat) (f : Nat → Int32) : Mem := sO M ci i (oA (M.1 ci i) s f)
abbrev sH (M : Mem) (g : Nat → Nat) : Mem := (M.1, g)
theorem sO_same (M : Mem) (ci i : Nat) (X : OV) : (sO M ci i X).1 ci i = X := by simp [sO]
theorem sO_kind (M : Mem) {ci ci' : Nat} (i i' : Nat) (X : OV) (h : ci' ≠ ci) : (sO M ci i X).1 ci' i' = M.1 ci' i' := by simp [sO, h]
theorem sO_idx (M : Mem) (ci ci' : Nat) {i i' : Nat} (X : OV) (h : i' ≠ i) : (sO M ci i X).1 ci' i' = M.1 ci' i' := by simp [sO, h]
theorem sO_hist (M : Mem) (ci i : Nat) (X : OV) : (sO M ci i X).2 = M.2 := rfl
theorem sO_sO (M : Mem) (ci i : Nat) (X Y : OV) : sO (sO M ci i X) ci i Y = sO M ci i Y := by
  unfold sO
  refine congrArg (fun f => (f, M.2)) ?_
  funext c' i'
  by_cases h : c' = ci ∧ i' = i <;> simp [h]
theorem sO_self (M : Mem) (ci i : Nat) : sO M ci i (M.1 ci i) = M := by
  unfold sO
  refine Prod.ext ?_ rfl
  funext c' i'
  by_cases h : c' = ci ∧ i' = i
  · simp [h]
  · simp [h]
theorem sO_comm (M : Mem) {ci ci' : Nat} (i i' : Nat) (X Y : OV) (h : ci ≠ ci' ∨ i ≠ i') : sO (sO M ci i X) ci' i' Y = sO (sO M ci' i' Y) ci i X := by
  unfold sO
  refine congrArg (fun f => (f, M.2)) ?_
  funext c i0
  show (if c = ci' ∧ i0 = i' then Y else if c = ci ∧ i0 = i then X else M.1 c i0) = (if c = ci ∧ i0 = i then X else if c = ci' ∧ i0 = i' then Y else M.1 c i0)
  by_cases h1 : c = ci ∧ i0 = i
  · have h2 : ¬ (c = ci' ∧ i0 = i') := by
      rintro ⟨h3, h4⟩
      rcases h with h | h
      · exact h (h1.1.symm.trans h3)
      · exact h (h1.2.symm.trans h4)
    rw [if_pos h1, if_neg h2, if_pos h1]
  · rw [if_neg h1, if_neg h1]
theorem upd_same (f : Nat → Int32) (k : Nat) (x : Int32) : upd f k x k = x := by simp [upd]
theorem upd_ne (f : Nat → Int32) {k j : Nat} (x : Int32) (h : j ≠ k) : upd f k x j = f j := by simp [upd, h]
theorem updA_same (F : Nat → Nat → Int32) (s : Nat) (f : Nat → Int32) : updA F s f s = f := by simp [updA]
theorem updA_ne (F : Nat → Nat → Int32) {s s' : Nat} (f : Nat → Int32) (h : s' ≠ s) : updA F s f s' = F s' := by simp [updA, h]
theorem updA_updA (F : Nat → Nat → Int32) (s : Nat) (f g : Nat → Int32) : updA (updA F s f) s g = updA F s g := by
  funext s'
  by_cases h : s' = s <;> simp [updA, h]
theorem flds_c (Γ : GT) {M M' : Mem} {ci i : Nat} (h : (M'.1 ci i).1 = (M.1 ci i).1) : flds Γ M' ci i = flds Γ M ci i := by
  unfold flds
  split <;> simp only [h]
theorem acell_c (Γ : GT) {M M' : Mem} {ci i s : Nat} (h : (M'.1 ci i).2 s = (M.1 ci i).2 s) (h2 : M'.2 = M.2) : acell Γ M' ci i s = acell Γ M ci i s := by
  unfold acell
  split
  · split
    · rw [h2]
    · rfl
    · rw [h]
    · rfl
  · rw [h]
theorem cell_c (Γ : GT) {M M' : Mem} {ci i j : Nat} (h1 : (M'.1 ci i).1 = (M.1 ci i).1) (h : (M'.1 ci i).2 = (M.1 ci i).2) (h2 : M'.2 = M.2) : cell Γ M' ci i j = cell Γ M ci i j := by
  cases j with
  | zero => exact congrArg (fun l => Sum.inr (ci, l)) (flds_c Γ h1)
  | succ s => exact acell_c Γ (by rw [h]) h2
theorem flds_put (Γ : GT) (M : Mem) {ci i j : Nat} (v : Int32) (h : isI ci j = true) : (flds Γ M ci i).set j (.int v) = flds Γ (sI M ci i j v) ci i := by
  have e : ((sI M ci i j v).1 ci i).1 = upd (M.1 ci i).1 j v := by rw [sI, sO_same]
  unfold isI at h
  split at h
  · have hj : j = 0 ∨ j = 1 ∨ j = 2 ∨ j = 3 ∨ j = 4 := by
      have := Nat.blt_eq.mp h
      omega
    rcases hj with rfl | rfl | rfl | rfl | rfl <;> simp [flds, e, upd]
  · simp only [Bool.or_eq_true, Nat.beq_eq] at h
    rcases h with (((rfl | rfl) | rfl) | rfl) | rfl <;> simp [flds, e, upd]
  · simp only [Bool.or_eq_true, Nat.beq_eq] at h
    rcases h with (rfl | rfl) | rfl <;> simp [flds, e, upd]
  · simp only [Nat.beq_eq] at h
    subst h
    simp [flds, e, upd]
  · simp only [Bool.or_eq_true, Nat.beq_eq] at h
    rcases h with (((((((((rfl | rfl) | rfl) | rfl) | rfl) | rfl) | rfl) | rfl) | rfl) | rfl) | rfl <;> simp [flds, e, upd]
  · cases h
theorem acell_isA (Γ : GT) (M : Mem) {ci i s : Nat} (h : isA ci s = true) : acell Γ M ci i s = .inl (Γ.2.2.1.1, alen ci s, .inl ((M.1 ci i).2 s)) := by
  unfold acell
  split
  · cases h
  · rfl
theorem mem_put {Γ : GT} (hG : GOK Γ) {M : Mem} {ci i j : Nat} (v : Int32) (hc : ci < 6) (hi : i < nO ci) (h : isI ci j = true) {q : Nat} {e0 : va_E} (hq : (mem Γ M)[q]? = some (ad Γ ci i 0, e0)) : (mem Γ M).set q (ad Γ ci i 0, .inr (ci, (flds Γ M ci i).set j (.int v))) = mem Γ (sI M ci i j v) := by
  refine mem_set (k := (ci, i, 0)) hG (mem_keys hc hi (by decide) rfl) hq ?_ ?_
  · show cell Γ _ ci i 0 = _
    exact congrArg (fun l => Sum.inr (ci, l)) (flds_put Γ M v h).symm
  · rintro ⟨ci', i', j'⟩ - hne
    show cell Γ _ ci' i' j' = cell Γ _ ci' i' j'
    by_cases hs : ci' = ci ∧ i' = i
    · obtain ⟨rfl, rfl⟩ := hs
      cases j' with
      | zero => exact absurd rfl hne
      | succ s => exact acell_c Γ (by rw [sI, sO_same]) rfl
    · have e : (sI M ci i j v).1 ci' i' = M.1 ci' i' := by simp only [sI, sO, if_neg hs]
      exact cell_c Γ (by rw [e]) (by rw [e]) rfl
theorem mem_aput {Γ : GT} (hG : GOK Γ) {M : Mem} {ci i s : Nat} (f : Nat → Int32) (hc : ci < 6) (hi : i < nO ci) (hs : s < 18) (h : isA ci s = true) {q : Nat} {e0 : va_E} (hq : (mem Γ M)[q]? = some (ad Γ ci i (s + 1), e0)) : (mem Γ M).set q (ad Γ ci i (s + 1), .inl (Γ.2.2.1.1, alen ci s, .inl f)) = mem Γ (sA M ci i s f) := by
  refine mem_set (k := (ci, i, s + 1)) hG (mem_keys hc hi (by omega) (by show (isA ci s || isR ci s) = true; rw [h]; rfl)) hq ?_ ?_
  · show acell Γ _ ci i s = _
    rw [acell_isA Γ _ h, sA, sO_same]
    simp only [oA, updA_same]
  · rintro ⟨ci', i', j'⟩ - hne
    show cell Γ _ ci' i' j' = cell Γ _ ci' i' j'
    by_cases hz : ci' = ci ∧ i' = i
    · obtain ⟨rfl, rfl⟩ := hz
      cases j' with
      | zero => exact congrArg (fun l => Sum.inr (ci', l)) (flds_c Γ (by rw [sA, sO_same]))
      | succ s' =>
        have hn : s' ≠ s := fun z => hne (by rw [z])
        exact acell_c Γ (by simp only [sA, sO_same, oA, updA_ne _ _ hn]) rfl
    · have e : (sA M ci i s f).1 ci' i' = M.1 ci' i' := by simp only [sA, sO, if_neg hz]
      exact cell_c Γ (by rw [e]) (by rw [e]) rfl
theorem mem_kput {Γ : GT} (hG : GOK Γ) {M : Mem} (f : Nat → Int32) {q : Nat} {e0 : va_E} (hq : (mem Γ M)[q]? = some (ad Γ 4 0 5, e0)) : (mem Γ M).set q (ad Γ 4 0 5, .inl (Γ.2.2.1.2.1, 2, .inl f)) = mem Γ (sA M 4 0 4 f) := by
  refine mem_set (k := (4, 0, 5)) hG (mem_keys (by decide) (by decide) (by decide) (by decide)) hq ?_ ?_
  · show acell Γ _ 4 0 4 = _
    simp only [acell, sO_same, oA, updA_same]
  · rintro ⟨ci', i', j'⟩ - hne
    show cell Γ _ ci' i' j' = cell Γ _ ci' i' j'
    by_cases hz : ci' = 4 ∧ i' = 0
    · obtain ⟨rfl, rfl⟩ := hz
      cases j' with
      | zero => exact congrArg (fun l => Sum.inr (4, l)) (flds_c Γ (by rw [sA, sO_same]))
      | succ s' =>
        have hn : s' ≠ 4 := fun z => hne (by rw [z])
        exact acell_c Γ (M := M) (M' := sA M 4 0 4 f) (ci := 4) (i := 0) (s := s') (by simp only [sA, sO_same, oA, updA_ne _ _ hn]) rfl
    · have e : (sA M 4 0 4 f).1 ci' i' = M.1 ci' i' := by simp only [sA, sO, if_neg hz]
      exact cell_c Γ (by rw [e]) (by rw [e]) rfl
theorem mem_hput {Γ : GT} (hG : GOK Γ) {M : Mem} (g : Nat → Nat) {q : Nat} {e0 : va_E} (hq : (mem Γ M)[q]? = some (ad Γ 4 0 2, e0)) : (mem Γ M).set q (ad Γ 4 0 2, .inl (Γ.2.2.1.2.2.1, 8, .inr (.inr (.inr (.inr (fun k => some (ad Γ 2 (g k) 0))))))) = mem Γ (sH M g) := by
  refine mem_set (k := (4, 0, 2)) hG (mem_keys (by decide) (by decide) (by decide) (by decide)) hq rfl ?_
  rintro ⟨ci', i', j'⟩ hk' hne
  show cell Γ _ ci' i' j' = cell Γ _ ci' i' j'
  cases j' with
  | zero => exact congrArg (fun l => Sum.inr (ci', l)) (flds_c Γ rfl)
  | succ s' =>
    show acell Γ _ ci' i' s' = acell Γ _ ci' i' s'
    by_cases hz : ci' = 4
    · subst hz
      have hi : i' = 0 := by
        unfold keys at hk'
        obtain ⟨a, -, h1⟩ := List.mem_flatMap.mp hk'
        obtain ⟨b, hb, h2⟩ := List.mem_flatMap.mp h1
        obtain ⟨c, -, h3⟩ := List.mem_map.mp h2
        cases h3
        have := List.mem_range.mp hb
        have h9 : nO 4 = 1 := rfl
        omega
      subst hi
      have hn : s' ≠ 1 := fun z => hne (by rw [z])
      unfold acell
      simp only
      split
      · exact absurd rfl hn
      · rfl
      · rfl
      · rfl
    · unfold acell
      split
      · exact absurd rfl hz
      · rfl
end
section
/-! ===== a method's walk over the memory ===== -/
abbrev KT : Type := Program × Env × Room × State × MethodId × Array Value × List Frame × Method × Code × (State → Prop)
abbrev kP (K : KT) : Program := K.1
abbrev kE (K : KT) : Env := K.2.1
abbrev kR (K : KT) : Room := K.2.2.1
abbrev kS (K : KT) : State := K.2.2.2.1
abbrev kM (K : KT) : MethodId := K.2.2.2.2.1
abbrev kArgs (K : KT) : Array Value := K.2.2.2.2.2.1
abbrev kB (K : KT) : List Frame := K.2.2.2.2.2.2.1
abbrev kMeth (K : KT) : Method := K.2.2.2.2.2.2.2.1
abbrev kC (K : KT) : Code := K.2.2.2.2.2.2.2.2.1
abbrev kQ (K : KT) : State → Prop := K.2.2.2.2.2.2.2.2.2
def WM (Γ : GT) (K : KT) (M : Mem) (L : List (Nat × Value)) (pc : Nat) (st : List Value) : Prop :=
  ∀ (H : Heap) (locs : List Loc) (ls : Array Slot), va_P Γ.2.1 vwCl (mem Γ M) H → va_S (gA Γ) (kS K).heap H locs → lv_has ls (kC K).maxLocals L → W (kP K) Γ.1 (kE K) (kR K) (kS K) (kM K) (kArgs K) (kB K) (kMeth K) (kC K) H locs 0 0 (kQ K) (F0 (kM K) pc ls st)
/-- the links between nest mates -/
def NWF (U : State) : Prop := va_Nw (.methodLinkNest RX1 72 yX4_pull RX4) U ∧ va_Nw (.methodLinkNest RX1 75 yX4_cosine RX4) U ∧ va_Nw (.methodLinkNest RX3 31 yX4_isWithin RX4) U
def cosV (k : Nat) : Int32 := ([10, 7, 0, -7, -10, -7, 0, 7] : List Int32).getD k 0
def COSF (Γ : GT) (U : State) (H : Heap) : Prop := va_Z RX4 "COSINES" "[I" (.ref Γ.2.2.2.2.2) (gA Γ) U H ∧ va_T .int Γ.2.2.2.2.2 8 (fun k => .int (cosV k)) (gA Γ) U H
def HW (Γ : GT) (M : Mem) (U : State) : Prop := GOK Γ ∧ va_P Γ.2.1 vwCl (mem Γ M) U.heap ∧ va_K Γ.2.1 vwCl (tys Γ) U ∧ NWF U ∧ COSF Γ U U.heap
theorem NWF.same {u U : State} (h : u.vm = U.vm) (hn : NWF u) : NWF U := ⟨va_Nw.same rfl h hn.1, va_Nw.same rfl h hn.2.1, va_Nw.same rfl h hn.2.2⟩
theorem NWF.warm {s U : State} (hW : s.WarmedH U.vm) (hn : NWF s) : NWF U := ⟨va_Nw.warmM hW hn.1, va_Nw.warmM hW hn.2.1, va_Nw.warmM hW hn.2.2⟩
theorem HW.blind (Γ : GT) (M : Mem) (a : Array Value) (U : State) (g : JFrame) (mk : MethodId) (h : HW Γ M U) : HW Γ M (U.calling g mk a) :=
  ⟨h.1, h.2.1, va_K.moved (u := U) (U := U.calling g mk a) (Vm.Alike.refl U.vm) h.2.2.1, NWF.same rfl h.2.2.2.1, va_Z.moved (u := U) (U := U.calling g mk a) (Vm.Alike.refl U.vm) h.2.2.2.2.1, va_T.moved (u := U) (U := U.calling g mk a) (Vm.Alike.refl U.vm) h.2.2.2.2.2⟩
def Gd (Γ : GT) (K : KT) (cc : ByteArray) (own : String) (nL d : Nat) : Prop :=
  (kP K).tables.exec = Jvm.exec ∧ (kC K).code = cc ∧ (kC K).maxLocals = nL ∧ (kS K).vm.findClass own = some (kM K).cls ∧ (∀ w ∈ wsL_law, w.before (kArgs K) (kS K) = true) ∧ va_K Γ.2.1 vwCl (tys Γ) (kS K) ∧ GOK Γ ∧ NWF (kS K) ∧ COSF Γ (kS K) (kS K).heap ∧ d ≤ (kR K).frames ∧ 64 * d ≤ (kR K).locals
def QC (Γ : GT) (o : Option Value) (M : Mem) : Array Value → State → Outcome → State → Prop := fun _ st oc t => (oc = .returned o ∧ va_P Γ.2.1 vwCl (mem Γ M) t.heap) ∧ va_F (gA Γ) st t
/-- the end that the walk is to reach: the answer o, the memory M -/
def RK (Γ : GT) (K : KT) (ret : Option FieldType) (o : Option Value) (M : Mem) : Prop := (kMeth K).sig.returnType = ret ∧ (kMeth K).locks = false ∧ kQ K = MQ (kB K) (QC Γ o M) (kArgs K) (kS K) 0 0 (gA Γ)
abbrev rmd (d : Nat) : Room := { frames := d, cells := 0, slots := 0, locals := 64 * d }
/-- a method's contract: from the memory M it returns o, and the memory is M' -/
def Ct (Γ : GT) (y : MethodName) (cc : ByteArray) (nL : Nat) (ret : Option FieldType) (d : Nat) (args : List Value) (M : Mem) (o : Option Value) (M' : Mem) : Prop :=
  Met Γ.1 y (.code y cc nL ret :: wsL_law) (rmd d) (va_Pc args (HW Γ M)) (QC Γ o M') 0 0 (gA Γ)
theorem ct_of {Γ : GT} {y : MethodName} {cc : ByteArray} {nL : Nat} {ret : Option FieldType} {d : Nat} {args : List Value} {M : Mem} {o : Option Value} {M' : Mem} (hy : plainName y.cls = true) (hsz : (lg_sl args).length ≤ nL)
    (body : ∀ K : KT, Gd Γ K cc y.cls nL d → RK Γ K ret o M' → WM Γ K M (lv_args 0 args) 0 []) : Ct Γ y cc nL ret d args M o M' := by
  refine Met.ofW (cc := cc) (maxL := nL) (ret := ret) hy rfl ?_
  intro p e s m a below meth c s₁ B hml hv
  obtain ⟨rfl, hG, hP, hK, hN, hC⟩ := hv
  have hts := atoms_spec (ws := Cond.code y cc nL ret :: wsL_law) B.pre
  have hown : s.vm.findClass y.cls = some m.cls := findClass_of_methodNamed B.named
  have hl := lv_entry args (n := nL) hsz
  rw [lg_entry_eq]
  have h := body (p, e, rmd d, s, m, args.toArray, below, meth, c, MQ below (QC Γ o M') args.toArray s 0 0 (gA Γ)) ⟨B.exec, B.bytes, hml, hown, fun w hw => hts w (List.mem_cons_of_mem _ hw), hK, hG, hN, hC, Nat.le_refl _, Nat.le_refl _⟩ ⟨B.returns, B.notSynchronized, rfl⟩
  exact h s.heap [] _ hP va_S.rf (by rw [hml]; exact hl)
/-! ===== the end of a walk ===== -/
section Rows
variable {Γ : GT} {K : KT} {cc : ByteArray} {own : String} {nL d : Nat} {M : Mem} {L : List (Nat × Value)} {pc : Nat} {st : List Value}
theorem wm_ireturn {v : Int32} (hg : Gd Γ K cc own nL d) (hr : RK Γ K (some .int) (some (.int v)) M) (hd : decode cc pc = .ok (.ireturn, 1)) : WM Γ K M L pc [.int v] := by
  intro H locs ls hP hS hl
  obtain ⟨hx, hb, -⟩ := hg
  obtain ⟨h1, h2, h3⟩ := hr
  rw [h3]
  exact W.iret hx hb h1 (fun t ht hW => ⟨⟨rfl, by rw [ht]; exact hP⟩, hS.F ht⟩) hS.2.2 hd h2
theorem wm_zreturn {v : Int32} (hg : Gd Γ K cc own nL d) (hr : RK Γ K (some .boolean) (some (.int v)) M) (hn : v = 0 ∨ v = 1) (hd : decode cc pc = .ok (.ireturn, 1)) : WM Γ K M L pc [.int v] := by
  intro H locs ls hP hS hl
  obtain ⟨hx, hb, -⟩ := hg
  obtain ⟨h1, h2, h3⟩ := hr
  rw [h3]
  exact W.zret hx hb h1 (by rcases hn with rfl | rfl <;> rfl) (fun t ht hW => ⟨⟨rfl, by rw [ht]; exact hP⟩, hS.F ht⟩) hS.2.2 hd h2
theorem wm_return (hg : Gd Γ K cc own nL d) (hr : RK Γ K none none M) (hd : decode cc pc = .ok (.return_, 1)) : WM Γ K M L pc [] := by
  intro H locs ls hP hS hl
  obtain ⟨hx, hb, -⟩ := hg
  obtain ⟨h1, h2, h3⟩ := hr
  rw [h3]
  exact W.vret hx hb h1 (fun t ht hW => ⟨⟨rfl, by rw [ht]; exact hP⟩, hS.F ht⟩) hS.2.2 hd h2
theorem wm_freturn {v : UInt32} (hg : Gd Γ K cc own nL d) (hr : RK Γ K (some .float) (some (.float v)) M) (hd : decode cc pc = .ok (.freturn, 1)) : WM Γ K M L pc [.float v] := by
  intro H locs ls hP hS hl
  obtain ⟨hx, hb, -⟩ := hg
  obtain ⟨h1, h2, h3⟩ := hr
  rw [h3]
  exact W.fret hx hb h1 (fun t ht hW => ⟨⟨rfl, by rw [ht]; exact hP⟩, hS.F ht⟩) hS.2.2 hd h2
/-- another way to write the same memory -/
theorem wm_mem {M' : Mem} (h : M = M') (kk : WM Γ K M' L pc st) : WM Γ K M L pc st := h ▸ kk
/-- another way to write the same cells -/
theorem wm_cells {M' : Mem} (h : ∀ H, va_P Γ.2.1 vwCl (mem Γ M) H → va_P Γ.2.1 vwCl (mem Γ M') H) (kk : WM Γ K M' L pc st) : WM Γ K M L pc st := fun H locs ls hP hS hl => kk H locs ls (h H hP) hS hl
theorem wm_st {st' : List Value} (h : st = st') (kk : WM Γ K M L pc st') : WM Γ K M L pc st := h ▸ kk
/-- fewer locals, in any order -/
theorem wm_L {L' : List (Nat × Value)} (ks : List Nat) (h : lv_pick L ks = L') (kk : WM Γ K M L' pc st) : WM Γ K M L pc st := fun H locs ls hP hS hl => kk H locs ls hP hS (lv_sub hl ks h)
theorem wm_Leq {L' : List (Nat × Value)} (h : L = L') (kk : WM Γ K M L' pc st) : WM Γ K M L pc st := h ▸ kk
/-! ===== locals ===== -/
def ldL : List (Nat × Value) → Nat → Option Value
  | [], _ => none
  | (j, v) :: l, i => bif Nat.beq j i then some v else ldL l i
theorem ldL_has {i : Nat} {v : Value} : ∀ {L : List (Nat × Value)}, ldL L i = some v → (i, v) ∈ L
  | [], h => by cases h
  | (j, w) :: l, h => by
    unfold ldL at h
    cases hb : Nat.beq j i with
    | true =>
      rw [hb] at h
      have hj : j = i := Nat.eq_of_beq_eq_true hb
      cases h
      rw [hj]
      exact List.mem_cons_self
    | false =>
      rw [hb] at h
      exact List.mem_cons_of_mem _ (ldL_has h)
/-- a value of one slot put at its place, the list in the order of the places -/
def stL : List (Nat × Value) → Nat → Value → List (Nat × Value)
  | [], i, v => [(i, v)]
  | (j, w) :: l, i, v => bif Nat.blt i j then (i, v) :: (j, w) :: l else bif Nat.beq i j then (i, v) :: l else (j, w) :: stL l i v
def cat1 (L : List (Nat × Value)) : Bool := L.all fun q => Nat.beq q.2.category 1
theorem stL_in {i : Nat} {v : Value} : ∀ {L : List (Nat × Value)} (q : Nat × Value), (L.map (·.1)).Pairwise (· < ·) → q ∈ stL L i v → q = (i, v) ∨ (q ∈ L ∧ q.1 ≠ i)
  | [], q, _, h => by
    simp [stL] at h
    exact Or.inl h
  | (j, w) :: l, q, hp, h => by
    have hp1 := (List.pairwise_cons.mp hp)
    unfold stL at h
    cases hb : Nat.blt i j with
    | true =>
      rw [hb] at h
      have hij : i < j := Nat.blt_eq.mp hb
      rcases List.mem_cons.mp h with h | h
      · exact Or.inl h
      · refine Or.inr ⟨h, ?_⟩
        rcases List.mem_cons.mp h with h | h
        · rw [h]; exact Nat.ne_of_gt hij
        · have h9 : j < q.1 := hp1.1 q.1 (List.mem_map.mpr ⟨q, h, rfl⟩)
          omega
    | false =>
      rw [hb] at h
      cases he : Nat.beq i j with
      | true =>
        rw [he] at h
        have hij : i = j := Nat.eq_of_beq_eq_true he
        rcases List.mem_cons.mp h with h | h
        · exact Or.inl h
        · refine Or.inr ⟨List.mem_cons_of_mem _ h, ?_⟩
          have h9 : j < q.1 := hp1.1 q.1 (List.mem_map.mpr ⟨q, h, rfl⟩)
          omega
      | false =>
        rw [he] at h
        have hij : i ≠ j := fun z => by rw [z, Nat.beq_refl] at he; cases he
        rcases List.mem_cons.mp h with h | h
        · refine Or.inr ⟨by rw [h]; exact List.mem_cons_self, by rw [h]; exact Ne.symm hij⟩
        · rcases stL_in q hp1.2 h with h | ⟨h, h2⟩
          · exact Or.inl h
          · exact Or.inr ⟨List.mem_cons_of_mem _ h, h2⟩
/-- the places of a list of locals, in order: decided -/
def ordL : List (Nat × Value) → Bool
  | [] => true
  | (j, _) :: l => (l.all fun q => Nat.blt j q.1) && ordL l
theorem ordL_pw : ∀ {L : List (Nat × Value)}, ordL L = true → (L.map (·.1)).Pairwise (· < ·)
  | [], _ => List.Pairwise.nil
  | (j, w) :: l, h => by
    unfold ordL at h
    rw [Bool.and_eq_true] at h
    refine List.Pairwise.cons (fun a ha => ?_) (ordL_pw h.2)
    obtain ⟨q, hq, rfl⟩ := List.mem_map.mp ha
    exact Nat.blt_eq.mp (List.all_eq_true.mp h.1 q hq)
theorem wm_store {i : Nat} {v : Value} {L' : List (Nat × Value)} {len : Nat} (hg : Gd Γ K cc own nL d) (hL : stL L i v = L') (hc : (cat1 L && ordL L && Nat.blt i nL) = true)
    (hrow : ∀ (H : Heap) (locs : List Loc) (ls : Array Slot) (lv' : List (Nat × Value)), lv_has ls (kC K).maxLocals L → i < (kC K).maxLocals → (i, v) :: L.filter (fun q => !(q.1 == i) && !(q.1 + 1 == i && q.2.category == 2)) = lv' → (∀ ls' : Array Slot, lv_has ls' (kC K).maxLocals lv' → W (kP K) Γ.1 (kE K) (kR K) (kS K) (kM K) (kArgs K) (kB K) (kMeth K) (kC K) H locs 0 0 (kQ K) (F0 (kM K) (pc + len) ls' st)) → W (kP K) Γ.1 (kE K) (kR K) (kS K) (kM K) (kArgs K) (kB K) (kMeth K) (kC K) H locs 0 0 (kQ K) (F0 (kM K) pc ls (v :: st)))
    (kk : WM Γ K M L' (pc + len) st) : WM Γ K M L pc (v :: st) := by
  intro H locs ls hP hS hl
  simp only [Bool.and_eq_true] at hc
  obtain ⟨⟨hc, ho⟩, hn⟩ := hc
  have hn : i < (kC K).maxLocals := by rw [hg.2.2.1]; exact Nat.blt_eq.mp hn
  refine hrow H locs ls _ hl hn rfl (fun ls' hl' => kk H locs ls' hP hS ⟨hl'.1, hl'.2.1, fun q hq => ?_⟩)
  subst hL
  refine hl'.2.2 q ?_
  rcases stL_in q (ordL_pw ho) hq with rfl | ⟨h1, h2⟩
  · exact List.mem_cons_self
  · refine List.mem_cons_of_mem _ (List.mem_filter.mpr ⟨h1, ?_⟩)
    have h3 : q.2.category = 1 := Nat.eq_of_beq_eq_true (List.all_eq_true.mp hc q h1)
    simp [h2, h3]
end Rows
end
section
section Rows
variable {Γ : GT} {K : KT} {cc : ByteArray} {own : String} {nL d : Nat} {M : Mem} {L : List (Nat × Value)} {pc q : Nat} {st : List Value}
theorem wm_iconst {n : Int} (v : Int32) (hg : Gd Γ K cc own nL d) (hd : decode cc pc = .ok (.iconst n, 1)) (hp : pc + 1 = q) (hv : Int32.ofInt n = v) (kk : WM Γ K M L q (.int v :: st)) : WM Γ K M L pc (st) := by
  subst hp
  exact fun H locs ls hP hS hl => lv_iconst hg.1 hg.2.1 hd hv (kk H locs ls hP hS hl)
theorem wm_bipush {n : Int} (v : Int32) (hg : Gd Γ K cc own nL d) (hd : decode cc pc = .ok (.bipush n, 2)) (hp : pc + 2 = q) (hv : (Int8.ofInt n).toInt32 = v) (kk : WM Γ K M L q (.int v :: st)) : WM Γ K M L pc (st) := by
  subst hp
  exact fun H locs ls hP hS hl => lv_bipush hg.1 hg.2.1 hd hv (kk H locs ls hP hS hl)
theorem wm_sipush {n : Int} (v : Int32) (hg : Gd Γ K cc own nL d) (hd : decode cc pc = .ok (.sipush n, 3)) (hp : pc + 3 = q) (hv : (Int16.ofInt n).toInt32 = v) (kk : WM Γ K M L q (.int v :: st)) : WM Γ K M L pc (st) := by
  subst hp
  exact fun H locs ls hP hS hl => lv_sipush hg.1 hg.2.1 hd hv (kk H locs ls hP hS hl)
theorem wm_ldc {ix : Nat} (v : Int32) (hg : Gd Γ K cc own nL d) (hd : decode cc pc = .ok (.ldc ix, 2)) (hp : pc + 2 = q) (hw : Cond.constant own ix v ∈ wsL_law) (kk : WM Γ K M L q (.int v :: st)) : WM Γ K M L pc (st) := by
  subst hp
  exact fun H locs ls hP hS hl => lv_ldc hg.1 hg.2.1 hg.2.2.2.1 (hg.2.2.2.2.1 _ hw) hd (kk H locs ls hP hS hl)
theorem wm_iload_n {k : Fin 4} {i : Nat} {x : Int32} (hg : Gd Γ K cc own nL d) (hd : decode cc pc = .ok (.iload_n k, 1)) (hp : pc + 1 = q) (hi : (k : Nat) = i) (hv : ldL L i = some (.int x)) (kk : WM Γ K M L q (.int x :: st)) : WM Γ K M L pc (st) := by
  subst hp
  exact fun H locs ls hP hS hl => lv_iload_n hg.1 hg.2.1 hd hi (hl.2.2 _ (ldL_has hv)) (kk H locs ls hP hS hl)
theorem wm_iload {i : Nat} {x : Int32} (hg : Gd Γ K cc own nL d) (hd : decode cc pc = .ok (.iload i, 2)) (hp : pc + 2 = q) (hv : ldL L i = some (.int x)) (kk : WM Γ K M L q (.int x :: st)) : WM Γ K M L pc (st) := by
  subst hp
  exact fun H locs ls hP hS hl => lv_iload hg.1 hg.2.1 hd (hl.2.2 _ (ldL_has hv)) (kk H locs ls hP hS hl)
theorem wm_aload_n {k : Fin 4} {i : Nat} {x : Nat} (hg : Gd Γ K cc own nL d) (hd : decode cc pc = .ok (.aload_n k, 1)) (hp : pc + 1 = q) (hi : (k : Nat) = i) (hv : ldL L i = some (.ref x)) (kk : WM Γ K M L q (.ref x :: st)) : WM Γ K M L pc (st) := by
  subst hp
  exact fun H locs ls hP hS hl => lv_aload_n hg.1 hg.2.1 hd hi (hl.2.2 _ (ldL_has hv)) (kk H locs ls hP hS hl)
theorem wm_aload {i : Nat} {x : Nat} (hg : Gd Γ K cc own nL d) (hd : decode cc pc = .ok (.aload i, 2)) (hp : pc + 2 = q) (hv : ldL L i = some (.ref x)) (kk : WM Γ K M L q (.ref x :: st)) : WM Γ K M L pc (st) := by
  subst hp
  exact fun H locs ls hP hS hl => lv_aload hg.1 hg.2.1 hd (hl.2.2 _ (ldL_has hv)) (kk H locs ls hP hS hl)
theorem wm_aload_nN {k : Fin 4} {i : Nat} (hg : Gd Γ K cc own nL d) (hd : decode cc pc = .ok (.aload_n k, 1)) (hp : pc + 1 = q) (hi : (k : Nat) = i) (hv : ldL L i = some .null) (kk : WM Γ K M L q (.null :: st)) : WM Γ K M L pc (st) := by
  subst hp
  exact fun H locs ls hP hS hl => lv_aload_nN hg.1 hg.2.1 hd hi (hl.2.2 _ (ldL_has hv)) (kk H locs ls hP hS hl)
theorem wm_istore_n {k : Fin 4} {i : Nat} {x : Int32} {L' : List (Nat × Value)} (hg : Gd Γ K cc own nL d) (hd : decode cc pc = .ok (.istore_n k, 1)) (hp : pc + 1 = q) (hi : (k : Nat) = i) (hL : stL L i (.int x) = L') (hc : (cat1 L && ordL L && Nat.blt i nL) = true) (kk : WM Γ K M L' q st) : WM Γ K M L pc (.int x :: st) := by
  subst hp
  exact wm_store (len := 1) hg hL hc (fun H locs ls lv' h hn hl k => lv_istore_n hg.1 hg.2.1 hd hi h hn hl k) kk
theorem wm_istore {i : Nat} {x : Int32} {L' : List (Nat × Value)} (hg : Gd Γ K cc own nL d) (hd : decode cc pc = .ok (.istore i, 2)) (hp : pc + 2 = q) (hL : stL L i (.int x) = L') (hc : (cat1 L && ordL L && Nat.blt i nL) = true) (kk : WM Γ K M L' q st) : WM Γ K M L pc (.int x :: st) := by
  subst hp
  exact wm_store (len := 2) hg hL hc (fun H locs ls lv' h hn hl k => lv_istore hg.1 hg.2.1 hd h hn hl k) kk
theorem wm_astore_n {k : Fin 4} {i : Nat} {x : Nat} {L' : List (Nat × Value)} (hg : Gd Γ K cc own nL d) (hd : decode cc pc = .ok (.astore_n k, 1)) (hp : pc + 1 = q) (hi : (k : Nat) = i) (hL : stL L i (.ref x) = L') (hc : (cat1 L && ordL L && Nat.blt i nL) = true) (kk : WM Γ K M L' q st) : WM Γ K M L pc (.ref x :: st) := by
  subst hp
  exact wm_store (len := 1) hg hL hc (fun H locs ls lv' h hn hl k => lv_astore_n hg.1 hg.2.1 hd hi h hn hl k) kk
theorem wm_astore {i : Nat} {x : Nat} {L' : List (Nat × Value)} (hg : Gd Γ K cc own nL d) (hd : decode cc pc = .ok (.astore i, 2)) (hp : pc + 2 = q) (hL : stL L i (.ref x) = L') (hc : (cat1 L && ordL L && Nat.blt i nL) = true) (kk : WM Γ K M L' q st) : WM Γ K M L pc (.ref x :: st) := by
  subst hp
  exact wm_store (len := 2) hg hL hc (fun H locs ls lv' h hn hl k => lv_astore hg.1 hg.2.1 hd h hn hl k) kk
theorem lv_iinc0 {i : Nat} {L L' : List (Nat × Value)} {x v : Int32} {n : Int} (hg : Gd Γ K cc own nL d) (hd : decode cc pc = .ok (.iinc i n, 3)) (hp : pc + 3 = q) (hx : ldL L i = some (.int x)) (hv : x + Int32.ofInt n = v) (hL : stL L i (.int v) = L') (hc : (cat1 L && ordL L && Nat.blt i nL) = true) (kk : WM Γ K M L' q st) : WM Γ K M L pc st := by
  subst hp
  intro H locs ls hP hS hl
  simp only [Bool.and_eq_true] at hc
  obtain ⟨⟨hc, ho⟩, hn⟩ := hc
  have hn : i < (kC K).maxLocals := by rw [hg.2.2.1]; exact Nat.blt_eq.mp hn
  obtain ⟨k, hk⟩ := List.getElem?_of_mem (ldL_has hx)
  refine lv_iinc hg.1 hg.2.1 hd hl hk hv hn rfl (fun ls' hl' => kk H locs ls' hP hS ⟨hl'.1, hl'.2.1, fun q hq => ?_⟩)
  subst hL
  refine hl'.2.2 q ?_
  rcases stL_in q (ordL_pw ho) hq with rfl | ⟨h1, h2⟩
  · exact List.mem_cons_self
  · refine List.mem_cons_of_mem _ (List.mem_filter.mpr ⟨h1, ?_⟩)
    have h3 : q.2.category = 1 := Nat.eq_of_beq_eq_true (List.all_eq_true.mp hc q h1)
    simp [h2, h3]
theorem wm_iinc {i : Nat} {L' : List (Nat × Value)} {x : Int32} {n : Int} (v : Int32) (hg : Gd Γ K cc own nL d) (hd : decode cc pc = .ok (.iinc i n, 3)) (hp : pc + 3 = q) (hx : ldL L i = some (.int x)) (hv : x + Int32.ofInt n = v) (hL : stL L i (.int v) = L') (hc : (cat1 L && ordL L && Nat.blt i nL) = true) (kk : WM Γ K M L' q st) : WM Γ K M L pc st := lv_iinc0 hg hd hp hx hv hL hc kk
theorem wm_iadd {x y : Int32} (hg : Gd Γ K cc own nL d) (hd : decode cc pc = .ok (.iadd, 1)) (hp : pc + 1 = q)  (kk : WM Γ K M L q (.int (x + y) :: st)) : WM Γ K M L pc (.int y :: .int x :: st) := by
  subst hp
  exact fun H locs ls hP hS hl => lv_iadd hg.1 hg.2.1 hd (kk H locs ls hP hS hl)
theorem wm_isub {x y : Int32} (hg : Gd Γ K cc own nL d) (hd : decode cc pc = .ok (.isub, 1)) (hp : pc + 1 = q)  (kk : WM Γ K M L q (.int (x - y) :: st)) : WM Γ K M L pc (.int y :: .int x :: st) := by
  subst hp
  exact fun H locs ls hP hS hl => lv_isub hg.1 hg.2.1 hd (kk H locs ls hP hS hl)
theorem wm_imul {x y : Int32} (hg : Gd Γ K cc own nL d) (hd : decode cc pc = .ok (.imul, 1)) (hp : pc + 1 = q)  (kk : WM Γ K M L q (.int (x * y) :: st)) : WM Γ K M L pc (.int y :: .int x :: st) := by
  subst hp
  exact fun H locs ls hP hS hl => lv_imul hg.1 hg.2.1 hd (kk H locs ls hP hS hl)
theorem wm_iand {x y : Int32} (hg : Gd Γ K cc own nL d) (hd : decode cc pc = .ok (.iand, 1)) (hp : pc + 1 = q)  (kk : WM Γ K M L q (.int (x &&& y) :: st)) : WM Γ K M L pc (.int y :: .int x :: st) := by
  subst hp
  exact fun H locs ls hP hS hl => lv_iand hg.1 hg.2.1 hd (kk H locs ls hP hS hl)
theorem wm_ior {x y : Int32} (hg : Gd Γ K cc own nL d) (hd : decode cc pc = .ok (.ior, 1)) (hp : pc + 1 = q)  (kk : WM Γ K M L q (.int (x ||| y) :: st)) : WM Γ K M L pc (.int y :: .int x :: st) := by
  subst hp
  exact fun H locs ls hP hS hl => lv_ior hg.1 hg.2.1 hd (kk H locs ls hP hS hl)
theorem wm_ishl {x y : Int32} (hg : Gd Γ K cc own nL d) (hd : decode cc pc = .ok (.ishl, 1)) (hp : pc + 1 = q)  (kk : WM Γ K M L q (.int (x <<< (y &&& 31)) :: st)) : WM Γ K M L pc (.int y :: .int x :: st) := by
  subst hp
  exact fun H locs ls hP hS hl => lv_ishl hg.1 hg.2.1 hd (kk H locs ls hP hS hl)
theorem wm_ishr {x y : Int32} (hg : Gd Γ K cc own nL d) (hd : decode cc pc = .ok (.ishr, 1)) (hp : pc + 1 = q)  (kk : WM Γ K M L q (.int (x >>> (y &&& 31)) :: st)) : WM Γ K M L pc (.int y :: .int x :: st) := by
  subst hp
  exact fun H locs ls hP hS hl => lv_ishr hg.1 hg.2.1 hd (kk H locs ls hP hS hl)
theorem wm_idiv {x y : Int32} (hg : Gd Γ K cc own nL d) (hd : decode cc pc = .ok (.idiv, 1)) (hp : pc + 1 = q) (hne : ¬ y = 0) (kk : WM Γ K M L q (.int (x / y) :: st)) : WM Γ K M L pc (.int y :: .int x :: st) := by
  subst hp
  exact fun H locs ls hP hS hl => lv_idiv hg.1 hg.2.1 hd hne (kk H locs ls hP hS hl)
theorem wm_irem {x y : Int32} (hg : Gd Γ K cc own nL d) (hd : decode cc pc = .ok (.irem, 1)) (hp : pc + 1 = q) (hne : ¬ y = 0) (kk : WM Γ K M L q (.int (x - x / y * y) :: st)) : WM Γ K M L pc (.int y :: .int x :: st) := by
  subst hp
  exact fun H locs ls hP hS hl => lv_irem hg.1 hg.2.1 hd hne (kk H locs ls hP hS hl)
theorem wm_ineg {x : Int32} (hg : Gd Γ K cc own nL d) (hd : decode cc pc = .ok (.ineg, 1)) (hp : pc + 1 = q)  (kk : WM Γ K M L q (.int (-x) :: st)) : WM Γ K M L pc (.int x :: st) := by
  subst hp
  exact fun H locs ls hP hS hl => lv_ineg hg.1 hg.2.1 hd (kk H locs ls hP hS hl)
theorem wm_i2f {x : Int32} (hg : Gd Γ K cc own nL d) (hd : decode cc pc = .ok (.i2f, 1)) (hp : pc + 1 = q)  (kk : WM Γ K M L q (.float (FP.i2f x) :: st)) : WM Γ K M L pc (.int x :: st) := by
  subst hp
  exact fun H locs ls hP hS hl => lv_i2f hg.1 hg.2.1 hd (kk H locs ls hP hS hl)
theorem wm_fdiv {x y : UInt32} (hg : Gd Γ K cc own nL d) (hd : decode cc pc = .ok (.fdiv, 1)) (hp : pc + 1 = q) (hn : vf_n32 (FP.fdiv x y)) (kk : WM Γ K M L q (.float (FP.fdiv x y) :: st)) : WM Γ K M L pc (.float y :: .float x :: st) := by
  subst hp
  exact fun H locs ls hP hS hl => lv_fdiv hg.1 hg.2.1 hd hn (kk H locs ls hP hS hl)
theorem wm_dup {va : Value} (hg : Gd Γ K cc own nL d) (hd : decode cc pc = .ok (.dup, 1)) (hp : pc + 1 = q) (hva : va.category = 1) (kk : WM Γ K M L q (va :: va :: st)) : WM Γ K M L pc (va :: st) := by
  subst hp
  exact fun H locs ls hP hS hl => lv_dup hg.1 hg.2.1 hd hva (kk H locs ls hP hS hl)
theorem wm_dup2 {va vb : Value} (hg : Gd Γ K cc own nL d) (hd : decode cc pc = .ok (.dup2, 1)) (hp : pc + 1 = q) (hva : va.category = 1) (hvb : vb.category = 1) (kk : WM Γ K M L q (va :: vb :: va :: vb :: st)) : WM Γ K M L pc (va :: vb :: st) := by
  subst hp
  exact fun H locs ls hP hS hl => lv_dup2_11 hg.1 hg.2.1 hd hva hvb (kk H locs ls hP hS hl)
theorem wm_pop {va : Value} (hg : Gd Γ K cc own nL d) (hd : decode cc pc = .ok (.pop, 1)) (hp : pc + 1 = q) (hva : va.category = 1) (kk : WM Γ K M L q (st)) : WM Γ K M L pc (va :: st) := by
  subst hp
  exact fun H locs ls hP hS hl => lv_pop hg.1 hg.2.1 hd hva (kk H locs ls hP hS hl)
theorem wm_null  (hg : Gd Γ K cc own nL d) (hd : decode cc pc = .ok (.aconst_null, 1)) (hp : pc + 1 = q)  (kk : WM Γ K M L q (.null :: st)) : WM Γ K M L pc (st) := by
  subst hp
  exact fun H locs ls hP hS hl => lv_null hg.1 hg.2.1 hd (kk H locs ls hP hS hl)
theorem wm_goto {off : Int} (hg : Gd Γ K cc own nL d) (hd : decode cc pc = .ok (.goto off, 3)) (hp : (pc : Int) + off = (q : Int)) (kk : WM Γ K M L q st) : WM Γ K M L pc st := fun H locs ls hP hS hl => lv_goto hg.1 hg.2.1 hd hp (kk H locs ls hP hS hl)
theorem wm_if_eq {x : Int32} {off : Int} {q2 : Nat} (hg : Gd Γ K cc own nL d) (hd : decode cc pc = .ok (.ifCond .eq off, 3)) (hp : (pc : Int) + off = (q : Int)) (hp2 : pc + 3 = q2) (kt : x = 0 → WM Γ K M L q st) (kf : ¬ (x = 0) → WM Γ K M L q2 st) : WM Γ K M L pc (.int x :: st) := by
  subst hp2
  exact fun H locs ls hP hS hl => lv_if_eq hg.1 hg.2.1 hd hp (fun h => kt h H locs ls hP hS hl) (fun h => kf h H locs ls hP hS hl)
theorem wm_if_ne {x : Int32} {off : Int} {q2 : Nat} (hg : Gd Γ K cc own nL d) (hd : decode cc pc = .ok (.ifCond .ne off, 3)) (hp : (pc : Int) + off = (q : Int)) (hp2 : pc + 3 = q2) (kt : ¬ x = 0 → WM Γ K M L q st) (kf : x = 0 → WM Γ K M L q2 st) : WM Γ K M L pc (.int x :: st) := by
  subst hp2
  exact fun H locs ls hP hS hl => lv_if_ne hg.1 hg.2.1 hd hp (fun h => kt h H locs ls hP hS hl) (fun h => kf h H locs ls hP hS hl)
theorem wm_if_lt {x : Int32} {off : Int} {q2 : Nat} (hg : Gd Γ K cc own nL d) (hd : decode cc pc = .ok (.ifCond .lt off, 3)) (hp : (pc : Int) + off = (q : Int)) (hp2 : pc + 3 = q2) (kt : x < 0 → WM Γ K M L q st) (kf : ¬ (x < 0) → WM Γ K M L q2 st) : WM Γ K M L pc (.int x :: st) := by
  subst hp2
  exact fun H locs ls hP hS hl => lv_if_lt hg.1 hg.2.1 hd hp (fun h => kt h H locs ls hP hS hl) (fun h => kf h H locs ls hP hS hl)
theorem wm_if_ge {x : Int32} {off : Int} {q2 : Nat} (hg : Gd Γ K cc own nL d) (hd : decode cc pc = .ok (.ifCond .ge off, 3)) (hp : (pc : Int) + off = (q : Int)) (hp2 : pc + 3 = q2) (kt : 0 ≤ x → WM Γ K M L q st) (kf : ¬ (0 ≤ x) → WM Γ K M L q2 st) : WM Γ K M L pc (.int x :: st) := by
  subst hp2
  exact fun H locs ls hP hS hl => lv_if_ge hg.1 hg.2.1 hd hp (fun h => kt h H locs ls hP hS hl) (fun h => kf h H locs ls hP hS hl)
theorem wm_if_gt {x : Int32} {off : Int} {q2 : Nat} (hg : Gd Γ K cc own nL d) (hd : decode cc pc = .ok (.ifCond .gt off, 3)) (hp : (pc : Int) + off = (q : Int)) (hp2 : pc + 3 = q2) (kt : 0 < x → WM Γ K M L q st) (kf : ¬ (0 < x) → WM Γ K M L q2 st) : WM Γ K M L pc (.int x :: st) := by
  subst hp2
  exact fun H locs ls hP hS hl => lv_if_gt hg.1 hg.2.1 hd hp (fun h => kt h H locs ls hP hS hl) (fun h => kf h H locs ls hP hS hl)
theorem wm_if_le {x : Int32} {off : Int} {q2 : Nat} (hg : Gd Γ K cc own nL d) (hd : decode cc pc = .ok (.ifCond .le off, 3)) (hp : (pc : Int) + off = (q : Int)) (hp2 : pc + 3 = q2) (kt : x ≤ 0 → WM Γ K M L q st) (kf : ¬ (x ≤ 0) → WM Γ K M L q2 st) : WM Γ K M L pc (.int x :: st) := by
  subst hp2
  exact fun H locs ls hP hS hl => lv_if_le hg.1 hg.2.1 hd hp (fun h => kt h H locs ls hP hS hl) (fun h => kf h H locs ls hP hS hl)
theorem wm_icmp_eq {x y : Int32} {off : Int} {q2 : Nat} (hg : Gd Γ K cc own nL d) (hd : decode cc pc = .ok (.if_icmp .eq off, 3)) (hp : (pc : Int) + off = (q : Int)) (hp2 : pc + 3 = q2) (kt : x = y → WM Γ K M L q st) (kf : ¬ (x = y) → WM Γ K M L q2 st) : WM Γ K M L pc (.int y :: .int x :: st) := by
  subst hp2
  exact fun H locs ls hP hS hl => lv_icmp_eq hg.1 hg.2.1 hd hp (fun h => kt h H locs ls hP hS hl) (fun h => kf h H locs ls hP hS hl)
theorem wm_icmp_ne {x y : Int32} {off : Int} {q2 : Nat} (hg : Gd Γ K cc own nL d) (hd : decode cc pc = .ok (.if_icmp .ne off, 3)) (hp : (pc : Int) + off = (q : Int)) (hp2 : pc + 3 = q2) (kt : ¬ x = y → WM Γ K M L q st) (kf : x = y → WM Γ K M L q2 st) : WM Γ K M L pc (.int y :: .int x :: st) := by
  subst hp2
  exact fun H locs ls hP hS hl => lv_icmp_ne hg.1 hg.2.1 hd hp (fun h => kt h H locs ls hP hS hl) (fun h => kf h H locs ls hP hS hl)
theorem wm_icmp_lt {x y : Int32} {off : Int} {q2 : Nat} (hg : Gd Γ K cc own nL d) (hd : decode cc pc = .ok (.if_icmp .lt off, 3)) (hp : (pc : Int) + off = (q : Int)) (hp2 : pc + 3 = q2) (kt : x < y → WM Γ K M L q st) (kf : ¬ (x < y) → WM Γ K M L q2 st) : WM Γ K M L pc (.int y :: .int x :: st) := by
  subst hp2
  exact fun H locs ls hP hS hl => lv_icmp_lt hg.1 hg.2.1 hd hp (fun h => kt h H locs ls hP hS hl) (fun h => kf h H locs ls hP hS hl)
theorem wm_icmp_ge {x y : Int32} {off : Int} {q2 : Nat} (hg : Gd Γ K cc own nL d) (hd : decode cc pc = .ok (.if_icmp .ge off, 3)) (hp : (pc : Int) + off = (q : Int)) (hp2 : pc + 3 = q2) (kt : y ≤ x → WM Γ K M L q st) (kf : ¬ (y ≤ x) → WM Γ K M L q2 st) : WM Γ K M L pc (.int y :: .int x :: st) := by
  subst hp2
  exact fun H locs ls hP hS hl => lv_icmp_ge hg.1 hg.2.1 hd hp (fun h => kt h H locs ls hP hS hl) (fun h => kf h H locs ls hP hS hl)
theorem wm_icmp_gt {x y : Int32} {off : Int} {q2 : Nat} (hg : Gd Γ K cc own nL d) (hd : decode cc pc = .ok (.if_icmp .gt off, 3)) (hp : (pc : Int) + off = (q : Int)) (hp2 : pc + 3 = q2) (kt : y < x → WM Γ K M L q st) (kf : ¬ (y < x) → WM Γ K M L q2 st) : WM Γ K M L pc (.int y :: .int x :: st) := by
  subst hp2
  exact fun H locs ls hP hS hl => lv_icmp_gt hg.1 hg.2.1 hd hp (fun h => kt h H locs ls hP hS hl) (fun h => kf h H locs ls hP hS hl)
theorem wm_icmp_le {x y : Int32} {off : Int} {q2 : Nat} (hg : Gd Γ K cc own nL d) (hd : decode cc pc = .ok (.if_icmp .le off, 3)) (hp : (pc : Int) + off = (q : Int)) (hp2 : pc + 3 = q2) (kt : x ≤ y → WM Γ K M L q st) (kf : ¬ (x ≤ y) → WM Γ K M L q2 st) : WM Γ K M L pc (.int y :: .int x :: st) := by
  subst hp2
  exact fun H locs ls hP hS hl => lv_icmp_le hg.1 hg.2.1 hd hp (fun h => kt h H locs ls hP hS hl) (fun h => kf h H locs ls hP hS hl)
theorem wm_ifnull {x : Nat} {off : Int} (hg : Gd Γ K cc own nL d) (hd : decode cc pc = .ok (.ifnull off, 3)) (hp : pc + 3 = q) (kk : WM Γ K M L q st) : WM Γ K M L pc (.ref x :: st) := by
  subst hp
  exact fun H locs ls hP hS hl => lv_ifnull hg.1 hg.2.1 hd (kk H locs ls hP hS hl)
theorem wm_ifnullN {off : Int} (hg : Gd Γ K cc own nL d) (hd : decode cc pc = .ok (.ifnull off, 3)) (hp : (pc : Int) + off = (q : Int)) (kk : WM Γ K M L q st) : WM Γ K M L pc (.null :: st) := fun H locs ls hP hS hl => lv_ifnullN hg.1 hg.2.1 hd hp (kk H locs ls hP hS hl)
theorem wm_tableOut {dflt lo hi : Int} {offs : Array Int} {len : Nat} {x : Int32} (hg : Gd Γ K cc own nL d) (hd : decode cc pc = .ok (.tableswitch dflt lo hi offs, len)) (h : x.toInt < lo ∨ hi < x.toInt) (hp : (pc : Int) + dflt = (q : Int)) (kk : WM Γ K M L q st) : WM Γ K M L pc (.int x :: st) := fun H locs ls hP hS hl => lv_tableOut hg.1 hg.2.1 hd h hp (kk H locs ls hP hS hl)
theorem wm_tableIn {dflt lo hi : Int} {offs : Array Int} {len : Nat} {x : Int32} {off : Int} (hg : Gd Γ K cc own nL d) (hd : decode cc pc = .ok (.tableswitch dflt lo hi offs, len)) (h1 : ¬ x.toInt < lo) (h2 : ¬ hi < x.toInt) (ho : offs[(x.toInt - lo).toNat]? = some off) (hp : (pc : Int) + off = (q : Int)) (kk : WM Γ K M L q st) : WM Γ K M L pc (.int x :: st) := fun H locs ls hP hS hl => lv_tableIn hg.1 hg.2.1 hd h1 h2 ho hp (kk H locs ls hP hS hl)
theorem wm_lookup {dflt : Int} {ps : Array (Int × Int)} {len : Nat} {x : Int32} {off : Int} (hg : Gd Γ K cc own nL d) (hd : decode cc pc = .ok (.lookupswitch dflt ps, len)) (ha : (ps.toList.zip (ps.toList.drop 1)).all (fun (a, next) => a.1 < next.1) = true) (ho : Op.lookupswitch.offset ps.toList dflt x.toInt = off) (hp : (pc : Int) + off = (q : Int)) (kk : WM Γ K M L q st) : WM Γ K M L pc (.int x :: st) := fun H locs ls hP hS hl => lv_lookup hg.1 hg.2.1 hd ha ho hp (kk H locs ls hP hS hl)
/-! ===== fields ===== -/
abbrev TT (ci : Nat) : u_T := match ci with
  | 0 => TX0
  | 1 => TX1
  | 2 => TX2
  | 3 => TX3
  | 4 => TX4
  | _ => TX5
abbrev NN (ci : Nat) : Nat := match ci with
  | 0 => 8
  | 1 => 8
  | 2 => 2
  | 3 => 4
  | 4 => 7
  | _ => 21
abbrev RR (ci : Nat) : String := match ci with
  | 0 => RX0
  | 1 => RX1
  | 2 => RX2
  | 3 => RX3
  | 4 => RX4
  | _ => RX5
theorem inW {ci : Nat} (h : ci < 6) : ∀ w ∈ u_ws (RR ci) (TT ci) (NN ci), w ∈ wsL_law := by
  rcases (show ci = 0 ∨ ci = 1 ∨ ci = 2 ∨ ci = 3 ∨ ci = 4 ∨ ci = 5 by omega) with rfl | rfl | rfl | rfl | rfl | rfl
  · exact inlX0
  · exact inlX1
  · exact inlX2
  · exact inlX3
  · exact inlX4
  · exact inlX5
theorem clW {ci : Nat} (h : ci < 6) : vwCl[ci]? = some (RR ci, TT ci, NN ci) := by
  rcases (show ci = 0 ∨ ci = 1 ∨ ci = 2 ∨ ci = 3 ∨ ci = 4 ∨ ci = 5 by omega) with rfl | rfl | rfl | rfl | rfl | rfl <;> rfl
theorem nmW {ci : Nat} (h : ci < 6) : ∀ a, a < NN ci → ∀ b, b < NN ci → a ≠ b → (TT ci a).2.1 ≠ (TT ci b).2.1 := by
  rcases (show ci = 0 ∨ ci = 1 ∨ ci = 2 ∨ ci = 3 ∨ ci = 4 ∨ ci = 5 by omega) with rfl | rfl | rfl | rfl | rfl | rfl
  · exact nmX0
  · exact nmX1
  · exact nmX2
  · exact nmX3
  · exact nmX4
  · exact nmX5
abbrev tyW (ci : Nat) : Nat → FieldType := match ci with
  | 0 => tyX0
  | 1 => tyX1
  | 2 => tyX2
  | 3 => tyX3
  | 4 => tyX4
  | _ => tyX5
theorem tyW_ok {ci : Nat} (h : ci < 6) : ∀ k, k < NN ci → parseFieldDescriptor (TT ci k).2.2.1 = some (tyW ci k) := by
  rcases (show ci = 0 ∨ ci = 1 ∨ ci = 2 ∨ ci = 3 ∨ ci = 4 ∨ ci = 5 by omega) with rfl | rfl | rfl | rfl | rfl | rfl
  · exact tyX0_ok
  · exact tyX1_ok
  · exact tyX2_ok
  · exact tyX3_ok
  · exact tyX4_ok
  · exact tyX5_ok
/-- the pool's row ix of a class names the field j of the class ci -/
def FL (own : String) (ix ci j : Nat) : Prop := (Cond.fieldLink own ix (TT ci j).1 (TT ci j).2.1 (TT ci j).2.2.1 ∈ wsL_law ∧ ci < 6 ∧ j < NN ci)
theorem wm_get {ci i j ix : Nat} {v : Value} (hg : Gd Γ K cc own nL d) (hd : decode cc pc = .ok (.getfield ix, 3)) (hp : pc + 3 = q) (hf : FL own ix ci j) (hi : i < nO ci) (hv : (flds Γ M ci i)[j]? = some v) (kk : WM Γ K M L q (v :: st)) : WM Γ K M L pc (.ref (ad Γ ci i 0) :: st) := by
  subst hp
  intro H locs ls hP hS hl
  obtain ⟨hw, hc, hj⟩ := hf
  obtain ⟨q0, hq0⟩ := mem_at Γ M (mem_keys (j := 0) hc hi (by decide) rfl)
  exact va_get (D := Γ.2.1) (ci := ci) (v := v) (C := RR ci) (T := TT ci) (N := NN ci) hg.1 hg.2.1 hg.2.2.2.2.1 (inW hc) hg.2.2.2.1 hg.2.2.2.2.2.1 hP q0 hq0 (clW hc) j hj (hg.2.2.2.2.1 _ hw) (fun _ h9 => h9) hv hd (kk H locs ls hP hS hl)
theorem isI_lt {ci j : Nat} (hc : ci < 6) (h : isI ci j = true) : j < NN ci ∧ j < (flds Γ M ci 0).length := by
  unfold isI at h
  split at h
  · have := Nat.blt_eq.mp h
    refine ⟨by show j < 8; omega, by show j < 8; omega⟩
  · simp only [Bool.or_eq_true, Nat.beq_eq] at h
    refine ⟨by show j < 8; omega, by show j < 8; omega⟩
  · simp only [Bool.or_eq_true, Nat.beq_eq] at h
    refine ⟨by show j < 4; omega, by show j < 4; omega⟩
  · simp only [Nat.beq_eq] at h
    refine ⟨by show j < 7; omega, by show j < 7; omega⟩
  · simp only [Bool.or_eq_true, Nat.beq_eq] at h
    refine ⟨by show j < 21; omega, by show j < 21; omega⟩
  · cases h
theorem flds_len (Γ : GT) (M : Mem) (ci i : Nat) : (flds Γ M ci i).length = (flds Γ M ci 0).length := by
  unfold flds
  split <;> rfl
theorem tyW_int {ci j : Nat} (h : isI ci j = true) : tyW ci j = .int ∧ (TT ci j).2.2.2 = false := by
  unfold isI at h
  split at h
  · have hj : j = 0 ∨ j = 1 ∨ j = 2 ∨ j = 3 ∨ j = 4 := by
      have := Nat.blt_eq.mp h
      omega
    rcases hj with rfl | rfl | rfl | rfl | rfl <;> exact ⟨rfl, rfl⟩
  · simp only [Bool.or_eq_true, Nat.beq_eq] at h
    rcases h with (((rfl | rfl) | rfl) | rfl) | rfl <;> exact ⟨rfl, rfl⟩
  · simp only [Bool.or_eq_true, Nat.beq_eq] at h
    rcases h with (rfl | rfl) | rfl <;> exact ⟨rfl, rfl⟩
  · simp only [Nat.beq_eq] at h
    subst h
    exact ⟨rfl, rfl⟩
  · simp only [Bool.or_eq_true, Nat.beq_eq] at h
    rcases h with (((((((((rfl | rfl) | rfl) | rfl) | rfl) | rfl) | rfl) | rfl) | rfl) | rfl) | rfl <;> exact ⟨rfl, rfl⟩
  · cases h
theorem wm_put {ci i j ix : Nat} {v : Int32} (hg : Gd Γ K cc own nL d) (hd : decode cc pc = .ok (.putfield ix, 3)) (hp : pc + 3 = q) (hf : FL own ix ci j) (hi : i < nO ci) (hj : isI ci j = true) (kk : WM Γ K (sI M ci i j v) L q st) : WM Γ K M L pc (.int v :: .ref (ad Γ ci i 0) :: st) := by
  subst hp
  intro H locs ls hP hS hl
  obtain ⟨hw, hc, hjn⟩ := hf
  obtain ⟨q0, hq0⟩ := mem_at Γ M (mem_keys (j := 0) hc hi (by decide) rfl)
  obtain ⟨hty, hfin⟩ := tyW_int hj
  refine va_put (D := Γ.2.1) (ci := ci) (v := .int v) (ty := .int) (C := RR ci) (T := TT ci) (N := NN ci) hg.1 hg.2.1 hg.2.2.2.2.1 (inW hc) (tyW ci) (tyW_ok hc) (nmW hc) hg.2.2.2.1 hg.2.2.2.2.2.1 hP (memD hg.2.2.2.2.2.2.1 M) hS q0 hq0 (clW hc) j hjn (hg.2.2.2.2.1 _ hw) (fun _ h9 => h9) hfin (by rw [tyW_ok hc j hjn, hty]) rfl rfl (by rw [flds_len]; exact (isI_lt hc hj).2) hd (fun H1 locs1 hP1 hD1 hS1 => ?_)
  rw [mem_put hg.2.2.2.2.2.2.1 v hc hi hj hq0] at hP1
  exact kk H1 locs1 ls hP1 hS1 hl
/-! ===== arrays ===== -/
theorem aOk {ci i s : Nat} (hc : ci < 6) (hi : i < nO ci) (hs : s < 18) (h : isA ci s = true) : (ci, i, s + 1) ∈ keys := mem_keys hc hi (by omega) (by show (isA ci s || isR ci s) = true; rw [h]; rfl)
theorem isA_lt {ci s : Nat} (h : isA ci s = true) : ci < 6 ∧ s < 18 := by
  unfold isA at h
  split at h
  · simp only [Bool.or_eq_true, Nat.beq_eq] at h
    omega
  · simp only [Bool.or_eq_true, Nat.beq_eq] at h
    omega
  · simp only [Nat.beq_eq] at h
    omega
  · simp only [Bool.or_eq_true, Nat.beq_eq] at h
    omega
  · cases h
theorem mem_arr (Γ : GT) (M : Mem) {ci i s : Nat} (hi : i < nO ci) (h : isA ci s = true) : ∃ q0 : Nat, (mem Γ M)[q0]? = some (ad Γ ci i (s + 1), .inl (Γ.2.2.1.1, alen ci s, .inl ((M.1 ci i).2 s))) := by
  obtain ⟨q0, hq0⟩ := mem_at Γ M (aOk (isA_lt h).1 hi (isA_lt h).2 h)
  exact ⟨q0, by rw [hq0]; show some (_, acell Γ M ci i s) = _; rw [acell_isA Γ M h]⟩
theorem wm_alen {ci i s : Nat} {v : Int32} (hg : Gd Γ K cc own nL d) (hd : decode cc pc = .ok (.arraylength, 1)) (hp : pc + 1 = q) (hi : i < nO ci) (h : isA ci s = true) (hv : Int32.ofNat (alen ci s) = v) (kk : WM Γ K M L q (.int v :: st)) : WM Γ K M L pc (.ref (ad Γ ci i (s + 1)) :: st) := by
  subst hp
  intro H locs ls hP hS hl
  obtain ⟨q0, hq0⟩ := mem_arr Γ M hi h
  exact va_alen hg.1 hg.2.1 hg.2.2.2.2.2.1 hP q0 0 hq0 (rfl : (tys Γ)[0]? = some (Γ.2.2.1.1, .int)) hv hd (kk H locs ls hP hS hl)
theorem wm_alenR {s : Nat} {v : Int32} (hg : Gd Γ K cc own nL d) (hd : decode cc pc = .ok (.arraylength, 1)) (hp : pc + 1 = q) (h : (s = 1 ∧ v = 8) ∨ (s = 3 ∧ v = 2) ∨ (s = 6 ∧ v = 4)) (kk : WM Γ K M L q (.int v :: st)) : WM Γ K M L pc (.ref (ad Γ 4 0 (s + 1)) :: st) := by
  subst hp
  intro H locs ls hP hS hl
  rcases h with ⟨rfl, rfl⟩ | ⟨rfl, rfl⟩ | ⟨rfl, rfl⟩
  · obtain ⟨q0, hq0⟩ := mem_at Γ M (k := (4, 0, 2)) (mem_keys (by decide) (by decide) (by decide) (by decide))
    exact va_alen hg.1 hg.2.1 hg.2.2.2.2.2.1 hP q0 2 hq0 (rfl : (tys Γ)[2]? = some (Γ.2.2.1.2.2.1, .object RX2)) rfl hd (kk H locs ls hP hS hl)
  · obtain ⟨q0, hq0⟩ := mem_at Γ M (k := (4, 0, 4)) (mem_keys (by decide) (by decide) (by decide) (by decide))
    exact va_alen hg.1 hg.2.1 hg.2.2.2.2.2.1 hP q0 2 hq0 (rfl : (tys Γ)[2]? = some (Γ.2.2.1.2.2.1, .object RX2)) rfl hd (kk H locs ls hP hS hl)
  · obtain ⟨q0, hq0⟩ := mem_at Γ M (k := (4, 0, 7)) (mem_keys (by decide) (by decide) (by decide) (by decide))
    exact va_alen hg.1 hg.2.1 hg.2.2.2.2.2.1 hP q0 3 hq0 (rfl : (tys Γ)[3]? = some (Γ.2.2.1.2.2.2, .object RX1)) rfl hd (kk H locs ls hP hS hl)
theorem wm_iaload {ci i s : Nat} {x : Int32} (t : Nat) (hg : Gd Γ K cc own nL d) (hd : decode cc pc = .ok (.iaload, 1)) (hp : pc + 1 = q) (hi : i < nO ci) (h : isA ci s = true) (hx : x = nI t) (ht : t < alen ci s) (kk : WM Γ K M L q (.int ((M.1 ci i).2 s t) :: st)) : WM Γ K M L pc (.int x :: .ref (ad Γ ci i (s + 1)) :: st) := by
  subst hp
  subst hx
  intro H locs ls hP hS hl
  obtain ⟨q0, hq0⟩ := mem_arr Γ M hi h
  have hb : alen ci s < 2 ^ 31 := by unfold alen; (repeat' split) <;> decide
  refine va_iald hg.1 hg.2.1 hg.2.2.2.2.2.1 hP q0 0 hq0 (rfl : (tys Γ)[0]? = some (Γ.2.2.1.1, .int)) (vp_in_nI ht hb) hd ?_
  rw [nI_clamp (by omega)]
  exact kk H locs ls hP hS hl
theorem wm_iastore {ci i s : Nat} {x v : Int32} (t : Nat) (hg : Gd Γ K cc own nL d) (hd : decode cc pc = .ok (.iastore, 1)) (hp : pc + 1 = q) (hi : i < nO ci) (h : isA ci s = true) (hx : x = nI t) (ht : t < alen ci s) (kk : WM Γ K (sA M ci i s (upd ((M.1 ci i).2 s) t v)) L q st) : WM Γ K M L pc (.int v :: .int x :: .ref (ad Γ ci i (s + 1)) :: st) := by
  subst hp
  subst hx
  intro H locs ls hP hS hl
  obtain ⟨q0, hq0⟩ := mem_arr Γ M hi h
  have hb : alen ci s < 2 ^ 31 := by unfold alen; (repeat' split) <;> decide
  refine va_iast hg.1 hg.2.1 hg.2.2.2.2.2.1 hP (memD hg.2.2.2.2.2.2.1 M) hS q0 0 hq0 (rfl : (tys Γ)[0]? = some (Γ.2.2.1.1, .int)) (vp_in_nI ht hb) hd (fun H1 locs1 hP1 hD1 hS1 => ?_)
  rw [nI_clamp (by omega)] at hP1
  rw [mem_aput hg.2.2.2.2.2.2.1 _ (isA_lt h).1 hi (isA_lt h).2 h hq0] at hP1
  exact kk H1 locs1 ls hP1 hS1 hl
theorem wsNat : Cond.native arraycopyName ∈ wsL_law := by decide +kernel
theorem wsStat : Cond.static arraycopyName ∈ wsL_law := by decide +kernel
theorem wsIni : Cond.initialized "java/lang/System" ∈ wsL_law := by decide +kernel
theorem wm_arraycopy {ci i s ci' i' s' ix : Nat} {xs xd xn : Int32} (sp dp n : Nat) (hg : Gd Γ K cc own nL d) (hd : decode cc pc = .ok (.invokestatic ix, 3)) (hp : pc + 3 = q) (hw : Cond.methodLink own ix arraycopyName ∈ wsL_law) (hdd : 1 ≤ d) (hi : i < nO ci) (h : isA ci s = true) (hi' : i' < nO ci') (h' : isA ci' s' = true) (hs : xs = nI sp) (hdp : xd = nI dp) (hn : xn = nI n) (h4 : sp + n ≤ alen ci s) (h5 : dp + n ≤ alen ci' s') (hst : (st.map fun v => v.category).sum ≤ 8)
    (kk : WM Γ K (sA M ci' i' s' (va_cpy ((M.1 ci i).2 s) ((M.1 ci' i').2 s') sp dp n)) L q st) : WM Γ K M L pc (.int xn :: .int xd :: .ref (ad Γ ci' i' (s' + 1)) :: .int xs :: .ref (ad Γ ci i (s + 1)) :: st) := by
  subst hp
  subst hs
  subst hdp
  subst hn
  intro H locs ls hP hS hl
  obtain ⟨q0, hq0⟩ := mem_arr Γ M hi h
  obtain ⟨q1, hq1⟩ := mem_arr Γ M hi' h'
  have hb : alen ci s < 2 ^ 31 := by unfold alen; (repeat' split) <;> decide
  have hb' : alen ci' s' < 2 ^ 31 := by unfold alen; (repeat' split) <;> decide
  have hfr := hg.2.2.2.2.2.2.2.2.2
  have nn : (nativeFrameWords "java/lang/System" "arraycopy" 5 + 11) ≤ 40 := by decide +kernel
  refine va_copyi hg.1 hg.2.1 (by rw [hl.1]) hg.2.2.2.1 (hg.2.2.2.2.1 _ hw) (hg.2.2.2.2.1 _ wsNat) (hg.2.2.2.2.1 _ wsStat) (hg.2.2.2.2.1 _ wsIni) hg.2.2.2.2.2.1 hP (memD hg.2.2.2.2.2.2.1 M) hS q0 q1 0 0 hq0 hq1 (rfl : (tys Γ)[0]? = some (Γ.2.2.1.1, .int)) (rfl : (tys Γ)[0]? = some (Γ.2.2.1.1, .int)) rfl (nI_pos (by omega)) (nI_pos (by omega)) (nI_pos (by omega)) (by rw [nI_clamp (by omega), nI_clamp (by omega)]; exact h4) (by rw [nI_clamp (by omega), nI_clamp (by omega)]; exact h5) (fun _ _ => rfl) (by omega) (by omega) hd (fun H1 locs1 hP1 hD1 hS1 => ?_)
  rw [nI_clamp (by omega), nI_clamp (by omega), nI_clamp (by omega)] at hP1
  rw [mem_aput hg.2.2.2.2.2.2.1 _ (isA_lt h').1 hi' (isA_lt h').2 h' hq1] at hP1
  exact kk H1 locs1 ls hP1 hS1 hl
theorem wm_zaload {x : Int32} (t : Nat) (hg : Gd Γ K cc own nL d) (hd : decode cc pc = .ok (.baload, 1)) (hp : pc + 1 = q) (hx : x = nI t) (ht : t < 2) (kk : WM Γ K M L q (.int ((M.1 4 0).2 4 t) :: st)) : WM Γ K M L pc (.int x :: .ref (ad Γ 4 0 5) :: st) := by
  subst hp
  subst hx
  intro H locs ls hP hS hl
  obtain ⟨q0, hq0⟩ := mem_at Γ M (k := (4, 0, 5)) (mem_keys (by decide) (by decide) (by decide) (by decide))
  refine va_zald hg.1 hg.2.1 hg.2.2.2.2.2.1 hP q0 1 hq0 (rfl : (tys Γ)[1]? = some (Γ.2.2.1.2.1, .boolean)) (vp_in_nI ht (by decide)) hd ?_
  rw [nI_clamp (by omega)]
  exact kk H locs ls hP hS hl
theorem wm_zastore {x v : Int32} (t : Nat) (hg : Gd Γ K cc own nL d) (hd : decode cc pc = .ok (.bastore, 1)) (hp : pc + 1 = q) (hx : x = nI t) (ht : t < 2) (hv : vp_nar .boolean v = v) (kk : WM Γ K (sA M 4 0 4 (upd ((M.1 4 0).2 4) t v)) L q st) : WM Γ K M L pc (.int v :: .int x :: .ref (ad Γ 4 0 5) :: st) := by
  subst hp
  subst hx
  intro H locs ls hP hS hl
  obtain ⟨q0, hq0⟩ := mem_at Γ M (k := (4, 0, 5)) (mem_keys (by decide) (by decide) (by decide) (by decide))
  refine va_zast hg.1 hg.2.1 hg.2.2.2.2.2.1 hP (memD hg.2.2.2.2.2.2.1 M) hS q0 1 hq0 (rfl : (tys Γ)[1]? = some (Γ.2.2.1.2.1, .boolean)) (vp_in_nI ht (by decide)) hd (fun H1 locs1 hP1 hD1 hS1 => ?_)
  rw [nI_clamp (by omega), hv] at hP1
  rw [mem_kput hg.2.2.2.2.2.2.1 _ hq0] at hP1
  exact kk H1 locs1 ls hP1 hS1 hl
theorem wm_hload {x : Int32} (t : Nat) (hg : Gd Γ K cc own nL d) (hd : decode cc pc = .ok (.aaload, 1)) (hp : pc + 1 = q) (hx : x = nI t) (ht : t < 8) (kk : WM Γ K M L q (.ref (ad Γ 2 (M.2 t) 0) :: st)) : WM Γ K M L pc (.int x :: .ref (ad Γ 4 0 2) :: st) := by
  subst hp
  subst hx
  intro H locs ls hP hS hl
  obtain ⟨q0, hq0⟩ := mem_at Γ M (k := (4, 0, 2)) (mem_keys (by decide) (by decide) (by decide) (by decide))
  refine va_aldq hg.1 hg.2.1 hg.2.2.2.2.2.1 hP q0 2 hq0 (rfl : (tys Γ)[2]? = some (Γ.2.2.1.2.2.1, .object RX2)) (vp_in_nI ht (by decide)) hd ?_
  rw [nI_clamp (by omega)]
  exact kk H locs ls hP hS hl
theorem wm_imload {x : Int32} (t : Nat) (hg : Gd Γ K cc own nL d) (hd : decode cc pc = .ok (.aaload, 1)) (hp : pc + 1 = q) (hx : x = nI t) (ht : t < 2) (kk : WM Γ K M L q (.ref (ad Γ 2 (9 + t) 0) :: st)) : WM Γ K M L pc (.int x :: .ref (ad Γ 4 0 4) :: st) := by
  subst hp
  subst hx
  intro H locs ls hP hS hl
  obtain ⟨q0, hq0⟩ := mem_at Γ M (k := (4, 0, 4)) (mem_keys (by decide) (by decide) (by decide) (by decide))
  refine va_aldq hg.1 hg.2.1 hg.2.2.2.2.2.1 hP q0 2 hq0 (rfl : (tys Γ)[2]? = some (Γ.2.2.1.2.2.1, .object RX2)) (vp_in_nI ht (by decide)) hd ?_
  rw [nI_clamp (by omega)]
  exact kk H locs ls hP hS hl
theorem wm_cload {x : Int32} (t : Nat) (hg : Gd Γ K cc own nL d) (hd : decode cc pc = .ok (.aaload, 1)) (hp : pc + 1 = q) (hx : x = nI t) (ht : t < 4) (kk : WM Γ K M L q (.ref (ad Γ 1 (11 + t) 0) :: st)) : WM Γ K M L pc (.int x :: .ref (ad Γ 4 0 7) :: st) := by
  subst hp
  subst hx
  intro H locs ls hP hS hl
  obtain ⟨q0, hq0⟩ := mem_at Γ M (k := (4, 0, 7)) (mem_keys (by decide) (by decide) (by decide) (by decide))
  refine va_aldq hg.1 hg.2.1 hg.2.2.2.2.2.1 hP q0 3 hq0 (rfl : (tys Γ)[3]? = some (Γ.2.2.1.2.2.2, .object RX1)) (vp_in_nI ht (by decide)) hd ?_
  rw [nI_clamp (by omega)]
  exact kk H locs ls hP hS hl
theorem wm_hstore {x : Int32} {σ : Nat} (t : Nat) (hg : Gd Γ K cc own nL d) (hd : decode cc pc = .ok (.aastore, 1)) (hp : pc + 1 = q) (hx : x = nI t) (ht : t < 8) (hσ : σ < 11) (kk : WM Γ K (sH M (fun k => if k = t then σ else M.2 k)) L q st) : WM Γ K M L pc (.ref (ad Γ 2 σ 0) :: .int x :: .ref (ad Γ 4 0 2) :: st) := by
  subst hp
  subst hx
  intro H locs ls hP hS hl
  obtain ⟨q0, hq0⟩ := mem_at Γ M (k := (4, 0, 2)) (mem_keys (by decide) (by decide) (by decide) (by decide))
  obtain ⟨qk, hqk⟩ := mem_at Γ M (k := (2, σ, 0)) (mem_keys (by decide) hσ (by decide) rfl)
  refine va_astq hg.1 hg.2.1 hg.2.2.2.2.2.1 hP (memD hg.2.2.2.2.2.2.1 M) hS q0 2 qk 2 (r := (RX2, TX2, 2)) hq0 (rfl : (tys Γ)[2]? = some (Γ.2.2.1.2.2.1, .object RX2)) hqk rfl (vp_in_nI ht (by decide)) hd (fun H1 locs1 hP1 hD1 hS1 => ?_)
  rw [nI_clamp (by omega)] at hP1
  have e : va_up (fun k => some (ad Γ 2 (M.2 k) 0)) t (some (ad Γ 2 σ 0)) = (fun k => some (ad Γ 2 ((fun k => if k = t then σ else M.2 k) k) 0)) := by
    funext k
    by_cases hk : k = t <;> simp [va_up, hk]
  rw [e, mem_hput hg.2.2.2.2.2.2.1 _ hq0] at hP1
  exact kk H1 locs1 ls hP1 hS1 hl
/-! ===== the table of cosines ===== -/
theorem wm_cosines {ix : Nat} (hg : Gd Γ K cc own nL d) (hd : decode cc pc = .ok (.getstatic ix, 3)) (hp : pc + 3 = q) (hw : Cond.fieldLink own ix RX4 "COSINES" "[I" ∈ wsL_law) (kk : WM Γ K M L q (.ref Γ.2.2.2.2.2 :: st)) : WM Γ K M L pc st := by
  subst hp
  intro H locs ls hP hS hl
  exact va_gets hg.1 hg.2.1 hg.2.2.2.2.2.2.2.2.1.1 hS hg.2.2.2.1 (hg.2.2.2.2.1 _ hw) (fun _ h9 => h9) hd (kk H locs ls hP hS hl)
theorem wm_cosload {x : Int32} (t : Nat) (hg : Gd Γ K cc own nL d) (hd : decode cc pc = .ok (.iaload, 1)) (hp : pc + 1 = q) (hx : x = nI t) (ht : t < 8) (kk : WM Γ K M L q (.int (cosV t) :: st)) : WM Γ K M L pc (.int x :: .ref Γ.2.2.2.2.2 :: st) := by
  subst hp
  subst hx
  intro H locs ls hP hS hl
  exact va_ti hg.1 hg.2.1 hg.2.2.2.2.2.2.2.2.1.2 hS (vp_in_nI ht (by decide)) (by rw [nI_clamp (by omega)]) hd (kk H locs ls hP hS hl)
end Rows
end
section
/-! ===== calls ===== -/
def LnkV (own : String) (ix : Nat) (y : MethodName) (cc : ByteArray) (nL : Nat) (ret : Option FieldType) (n : Nat) : Prop := GoodIn wsL_law (wsV own ix y.cls y (Cond.code y cc nL ret :: wsL_law)) ∧ (y.cls ≠ "java/lang/invoke/MethodHandle" ∧ y.cls ≠ "java/lang/invoke/VarHandle" ∧ (parseMethodDescriptor y.desc).map (fun d => d.parameters.length) = some n) ∧ nL ≤ 45
def LnkS (own : String) (ix : Nat) (y : MethodName) (cc : ByteArray) (nL : Nat) (ret : Option FieldType) (n : Nat) : Prop := GoodIn wsL_law (va_wsS own ix y (Cond.code y cc nL ret :: wsL_law)) ∧ (y.cls ≠ "java/lang/invoke/MethodHandle" ∧ y.cls ≠ "java/lang/invoke/VarHandle" ∧ (parseMethodDescriptor y.desc).map (fun d => d.parameters.length) = some n) ∧ nL ≤ 45
/-- a static method of a nest mate: the link itself is a fact of the state -/
def LnkN (y : MethodName) (cc : ByteArray) (nL : Nat) (ret : Option FieldType) (n : Nat) : Prop := GoodIn wsL_law (Cond.code y cc nL ret :: wsL_law) ∧ (Cond.initialized y.cls ∈ wsL_law ∧ Cond.static y ∈ wsL_law) ∧ (y.cls ≠ "java/lang/invoke/MethodHandle" ∧ y.cls ≠ "java/lang/invoke/VarHandle" ∧ (parseMethodDescriptor y.desc).map (fun d => d.parameters.length) = some n) ∧ nL ≤ 45
theorem wsAll : GoodIn wsL_law wsL_law := goodIn_sub (fun _ h => h) (by decide +kernel)
theorem lnkV_of {own : String} {ix : Nat} {y : MethodName} {cc : ByteArray} {nL : Nat} {ret : Option FieldType} {n : Nat} (h1 : ([.methodLink own ix y, .instanceMethod y, .selects y.cls y y, .initialized y.cls, .code y cc nL ret] : List Cond).all (fun w => decide (w ∈ wsL_law) && goodWord w) = true) (h2 : (y.cls ≠ "java/lang/invoke/MethodHandle" ∧ y.cls ≠ "java/lang/invoke/VarHandle" ∧ (parseMethodDescriptor y.desc).map (fun d => d.parameters.length) = some n) ∧ nL ≤ 45) : LnkV own ix y cc nL ret n := by
  have h := goodIn_of _ h1
  exact ⟨fun w hw => by
    unfold wsV at hw
    rcases List.mem_append.mp hw with hw | hw
    · exact h w (show w ∈ ([Cond.methodLink own ix y, Cond.instanceMethod y, Cond.selects y.cls y y, Cond.initialized y.cls] : List Cond) ++ [Cond.code y cc nL ret] from List.mem_append_left _ hw)
    · rcases List.mem_cons.mp hw with rfl | hw
      · exact h _ (show _ ∈ ([Cond.methodLink own ix y, Cond.instanceMethod y, Cond.selects y.cls y y, Cond.initialized y.cls] : List Cond) ++ [Cond.code y cc nL ret] from List.mem_append_right _ List.mem_cons_self)
      · exact wsAll w hw, h2⟩
theorem lnkS_of {own : String} {ix : Nat} {y : MethodName} {cc : ByteArray} {nL : Nat} {ret : Option FieldType} {n : Nat} (h1 : ([.methodLink own ix y, .static y, .initialized y.cls, .code y cc nL ret] : List Cond).all (fun w => decide (w ∈ wsL_law) && goodWord w) = true) (h2 : (y.cls ≠ "java/lang/invoke/MethodHandle" ∧ y.cls ≠ "java/lang/invoke/VarHandle" ∧ (parseMethodDescriptor y.desc).map (fun d => d.parameters.length) = some n) ∧ nL ≤ 45) : LnkS own ix y cc nL ret n := by
  have h := goodIn_of _ h1
  exact ⟨fun w hw => by
    unfold va_wsS at hw
    rcases List.mem_append.mp hw with hw | hw
    · exact h w (show w ∈ ([Cond.methodLink own ix y, Cond.static y, Cond.initialized y.cls] : List Cond) ++ [Cond.code y cc nL ret] from List.mem_append_left _ hw)
    · rcases List.mem_cons.mp hw with rfl | hw
      · exact h _ (show _ ∈ ([Cond.methodLink own ix y, Cond.static y, Cond.initialized y.cls] : List Cond) ++ [Cond.code y cc nL ret] from List.mem_append_right _ List.mem_cons_self)
      · exact wsAll w hw, h2⟩
theorem lnkN_of {y : MethodName} {cc : ByteArray} {nL : Nat} {ret : Option FieldType} {n : Nat} (h1 : ([.static y, .initialized y.cls, .code y cc nL ret] : List Cond).all (fun w => decide (w ∈ wsL_law) && goodWord w) = true) (h2 : (y.cls ≠ "java/lang/invoke/MethodHandle" ∧ y.cls ≠ "java/lang/invoke/VarHandle" ∧ (parseMethodDescriptor y.desc).map (fun d => d.parameters.length) = some n) ∧ nL ≤ 45) : LnkN y cc nL ret n := by
  have h := goodIn_of _ h1
  exact ⟨fun w hw => by
    rcases List.mem_cons.mp hw with rfl | hw
    · exact h _ (List.mem_cons_of_mem _ (List.mem_cons_of_mem _ List.mem_cons_self))
    · exact wsAll w hw, ⟨(h _ (List.mem_cons_of_mem _ List.mem_cons_self)).1, (h _ List.mem_cons_self).1⟩, h2⟩
section Calls2
variable {Γ : GT} {K : KT} {cc : ByteArray} {own : String} {nL d : Nat} {M : Mem} {L : List (Nat × Value)} {pc q : Nat} {st : List Value}
theorem wm_fin {H : Heap} {locs : List Loc} {ls : Array Slot} {o : Option Value} {M' : Mem} {rest : List Value} {a : Array Value} (hr : va_Run (kP K) Γ.1 (kE K) (kR K) (kS K) (kM K) (kArgs K) (kB K) (kMeth K) (kC K) H locs 0 0 0 0 (F0 (kM K) pc ls st) rest (QC Γ o M' a) (gA Γ)) (hS : va_S (gA Γ) (kS K).heap H locs) (hl : lv_has ls (kC K).maxLocals L)
    (kk : WM Γ K M' L (pc + 3) (o.toList ++ rest)) : W (kP K) Γ.1 (kE K) (kR K) (kS K) (kM K) (kArgs K) (kB K) (kMeth K) (kC K) H locs 0 0 (kQ K) (F0 (kM K) pc ls st) := by
  intro T hT X
  obtain ⟨v, st₀, t, T', L', h0, X', hL, e1, e2, ⟨⟨hv, hp⟩, hz, hk⟩, hst⟩ := hr T hT X
  cases hv
  rw [h0] at hz hk
  obtain ⟨t2, a1, b1⟩ := kk T'.heap (locs ++ L') ls (by rw [e1]; exact hp) ⟨Nat.le_trans hS.1 (by rw [e1]; exact hz), fun q h1 h2 => by rw [e1, hk q (Nat.lt_of_lt_of_le h1 hS.1) h2]; exact hS.2.1 q h1 h2, fun q hq => by
    rcases List.mem_append.mp hq with h | h
    · exact hS.2.2 q h
    · exact hL q h⟩ hl T' rfl X'
  exact ⟨t2, hst t2 a1, b1⟩
theorem hw_at {H : Heap} {locs : List Loc} (hg : Gd Γ K cc own nL d) (hP : va_P Γ.2.1 vwCl (mem Γ M) H) (hS : va_S (gA Γ) (kS K).heap H locs) {U : State} (hU : U.heap = H) (hW : (kS K).WarmedH U.vm) : HW Γ M U := by
  obtain ⟨-, -, -, -, -, hK, hG, hN, hC, -⟩ := hg
  refine ⟨hG, by rw [hU]; exact hP, va_K.moved hW.alike hK, NWF.warm hW hN, ?_, ?_⟩
  · rw [hU]
    exact va_Z.moved hW.alike (hC.1.kept hS.2.1)
  · rw [hU]
    exact va_T.moved hW.alike (hC.2.kept hS.2.1)
theorem hw_blind (Γ : GT) (M : Mem) (av : List Value) : FrameBlind (va_Pc av (HW Γ M)) := fun a U g mk h => ⟨h.1, HW.blind Γ M a U g mk h.2⟩
theorem roomR {nLy d' : Nat} (hg : Gd Γ K cc own nL d) (hdd : d' < d) (h : nLy ≤ 45) : (rmd d').frames + 1 ≤ (kR K).frames ∧ 8 + (nLy + 11) + (rmd d').locals ≤ (kR K).locals := by
  have h1 := hg.2.2.2.2.2.2.2.2.2
  refine ⟨?_, ?_⟩
  · show d' + 1 ≤ _
    omega
  · show 8 + (nLy + 11) + 64 * d' ≤ _
    omega
theorem wm_callV {ci i ix n nLy d' : Nat} {y : MethodName} {ccy : ByteArray} {ret : Option FieldType} {As rest : List Value} {o : Option Value} {M' : Mem} (hg : Gd Γ K cc own nL d) (hd : decode cc pc = .ok (.invokevirtual ix, 3)) (hp : pc + 3 = q) (hk : LnkV own ix y ccy nLy ret n) (hdd : d' < d) (hC : Ct Γ y ccy nLy ret d' (.ref (ad Γ ci i 0) :: As) M o M') (hi : i < nO ci) (hcl : RR ci = y.cls ∧ ci < 6) (hn : As.length = n) (hst : st = As.reverse ++ .ref (ad Γ ci i 0) :: rest) (hcat : (rest.map fun v => v.category).sum ≤ 8) (kk : WM Γ K M' L q (o.toList ++ rest)) : WM Γ K M L pc st := by
  subst hp
  intro H locs ls hP hS hl
  obtain ⟨q0, hq0⟩ := mem_at Γ M (mem_keys (j := 0) hcl.2 hi (by decide) rfl)
  have hrecv := va_recv hg.2.2.2.2.2.1 hP (clW hcl.2) hq0
  refine wm_fin (va_runV (C := y.cls) (As := As) (rest := rest) ⟨hg.1, hg.2.1, hg.2.2.1, hg.2.2.2.1, hg.2.2.2.2.1⟩ hC (cwV n hg.2.2.2.2.1 hk.1 rfl rfl rfl ⟨rfl, hk.2.1⟩ (roomR hg hdd hk.2.2)) ⟨hw_blind Γ M _, ?_, fun U hU hW => ⟨rfl, hw_at hg hP hS hU hW⟩⟩ rfl hn (by rw [← hg.2.2.1]; exact hl.1) hst (lv_room hcat) hd ⟨Nat.zero_le _, Nat.zero_le _⟩) hS hl kk
  rw [← hcl.1]
  exact hrecv
theorem wm_callS {ix n nLy d' : Nat} {y : MethodName} {ccy : ByteArray} {ret : Option FieldType} {As rest : List Value} {o : Option Value} {M' : Mem} (hg : Gd Γ K cc own nL d) (hd : decode cc pc = .ok (.invokestatic ix, 3)) (hp : pc + 3 = q) (hk : LnkS own ix y ccy nLy ret n) (hdd : d' < d) (hC : Ct Γ y ccy nLy ret d' As M o M') (hn : As.length = n) (hst : st = As.reverse ++ rest) (hcat : (rest.map fun v => v.category).sum ≤ 8) (kk : WM Γ K M' L q (o.toList ++ rest)) : WM Γ K M L pc st := by
  subst hp
  intro H locs ls hP hS hl
  exact wm_fin (va_runS (As := As) (rest := rest) ⟨hg.1, hg.2.1, hg.2.2.1, hg.2.2.2.1, hg.2.2.2.2.1⟩ hC (va_cwS n hg.2.2.2.2.1 hk.1 rfl rfl rfl hk.2.1 (roomR hg hdd hk.2.2)) ⟨hw_blind Γ M _, fun U hU hW => ⟨rfl, hw_at hg hP hS hU hW⟩⟩ rfl hn (by rw [← hg.2.2.1]; exact hl.1) hst (lv_room hcat) hd ⟨Nat.zero_le _, Nat.zero_le _⟩) hS hl kk
theorem wm_callN {ix n nLy d' : Nat} {y : MethodName} {ccy : ByteArray} {ret : Option FieldType} {As rest : List Value} {o : Option Value} {M' : Mem} (hg : Gd Γ K cc own nL d) (hd : decode cc pc = .ok (.invokestatic ix, 3)) (hp : pc + 3 = q) (hk : LnkN y ccy nLy ret n) (hnw : NWF (kS K) → va_Nw (.methodLinkNest own ix y RX4) (kS K)) (hdd : d' < d) (hC : Ct Γ y ccy nLy ret d' As M o M') (hn : As.length = n) (hst : st = As.reverse ++ rest) (hcat : (rest.map fun v => v.category).sum ≤ 8) (kk : WM Γ K M' L q (o.toList ++ rest)) : WM Γ K M L pc st := by
  subst hp
  intro H locs ls hP hS hl
  have ht := hg.2.2.2.2.1
  exact wm_fin (va_runSN (As := As) (rest := rest) ⟨hg.1, hg.2.1, hg.2.2.1, hg.2.2.2.1, hg.2.2.2.2.1⟩ hC ⟨va_cnB n ht hk.1 rfl rfl rfl (hnw hg.2.2.2.2.2.2.2.1) (ht _ hk.2.1.1) hk.2.2.1 (roomR hg hdd hk.2.2.2), ht _ hk.2.1.2, trivial⟩ ⟨hw_blind Γ M _, fun U hU hW => ⟨rfl, hw_at hg hP hS hU hW⟩⟩ rfl hn (by rw [← hg.2.2.1]; exact hl.1) hst (lv_room hcat) hd ⟨Nat.zero_le _, Nat.zero_le _⟩) hS hl kk
/-- the same, by what comes back: a value .. -/
theorem wm_callV1 {ci i ix n nLy d' : Nat} {y : MethodName} {ccy : ByteArray} {ret : Option FieldType} {As rest : List Value} {v : Value} {M' : Mem} (hg : Gd Γ K cc own nL d) (hd : decode cc pc = .ok (.invokevirtual ix, 3)) (hp : pc + 3 = q) (hk : LnkV own ix y ccy nLy ret n) (hdd : d' < d) (hC : Ct Γ y ccy nLy ret d' (.ref (ad Γ ci i 0) :: As) M (some v) M') (hi : i < nO ci) (hcl : RR ci = y.cls ∧ ci < 6) (hn : As.length = n) (hst : st = As.reverse ++ .ref (ad Γ ci i 0) :: rest) (hcat : (rest.map fun v => v.category).sum ≤ 8) (kk : WM Γ K M' L q (v :: rest)) : WM Γ K M L pc st := wm_callV hg hd hp hk hdd hC hi hcl hn hst hcat kk
theorem wm_callS1 {ix n nLy d' : Nat} {y : MethodName} {ccy : ByteArray} {ret : Option FieldType} {As rest : List Value} {v : Value} {M' : Mem} (hg : Gd Γ K cc own nL d) (hd : decode cc pc = .ok (.invokestatic ix, 3)) (hp : pc + 3 = q) (hk : LnkS own ix y ccy nLy ret n) (hdd : d' < d) (hC : Ct Γ y ccy nLy ret d' As M (some v) M') (hn : As.length = n) (hst : st = As.reverse ++ rest) (hcat : (rest.map fun v => v.category).sum ≤ 8) (kk : WM Γ K M' L q (v :: rest)) : WM Γ K M L pc st := wm_callS hg hd hp hk hdd hC hn hst hcat kk
theorem wm_callN1 {ix n nLy d' : Nat} {y : MethodName} {ccy : ByteArray} {ret : Option FieldType} {As rest : List Value} {v : Value} {M' : Mem} (hg : Gd Γ K cc own nL d) (hd : decode cc pc = .ok (.invokestatic ix, 3)) (hp : pc + 3 = q) (hk : LnkN y ccy nLy ret n) (hnw : NWF (kS K) → va_Nw (.methodLinkNest own ix y RX4) (kS K)) (hdd : d' < d) (hC : Ct Γ y ccy nLy ret d' As M (some v) M') (hn : As.length = n) (hst : st = As.reverse ++ rest) (hcat : (rest.map fun v => v.category).sum ≤ 8) (kk : WM Γ K M' L q (v :: rest)) : WM Γ K M L pc st := wm_callN hg hd hp hk hnw hdd hC hn hst hcat kk
/-- .. or none -/
theorem wm_callV0 {ci i ix n nLy d' : Nat} {y : MethodName} {ccy : ByteArray} {ret : Option FieldType} {As rest : List Value} {M' : Mem} (hg : Gd Γ K cc own nL d) (hd : decode cc pc = .ok (.invokevirtual ix, 3)) (hp : pc + 3 = q) (hk : LnkV own ix y ccy nLy ret n) (hdd : d' < d) (hC : Ct Γ y ccy nLy ret d' (.ref (ad Γ ci i 0) :: As) M none M') (hi : i < nO ci) (hcl : RR ci = y.cls ∧ ci < 6) (hn : As.length = n) (hst : st = As.reverse ++ .ref (ad Γ ci i 0) :: rest) (hcat : (rest.map fun v => v.category).sum ≤ 8) (kk : WM Γ K M' L q rest) : WM Γ K M L pc st := wm_callV hg hd hp hk hdd hC hi hcl hn hst hcat kk
theorem wm_callS0 {ix n nLy d' : Nat} {y : MethodName} {ccy : ByteArray} {ret : Option FieldType} {As rest : List Value} {M' : Mem} (hg : Gd Γ K cc own nL d) (hd : decode cc pc = .ok (.invokestatic ix, 3)) (hp : pc + 3 = q) (hk : LnkS own ix y ccy nLy ret n) (hdd : d' < d) (hC : Ct Γ y ccy nLy ret d' As M none M') (hn : As.length = n) (hst : st = As.reverse ++ rest) (hcat : (rest.map fun v => v.category).sum ≤ 8) (kk : WM Γ K M' L q rest) : WM Γ K M L pc st := wm_callS hg hd hp hk hdd hC hn hst hcat kk
theorem wsMxS : Cond.static Lib.Math.max.name ∈ wsL_law := by decide +kernel
theorem wsMxI : Cond.initialized "java/lang/Math" ∈ wsL_law := by decide +kernel
theorem wsMxC : Cond.code Lib.Math.max.name Lib.Math.max.code 2 (some .int) ∈ wsL_law := by decide +kernel
theorem wm_max {x y : Int32} {ix : Nat} (hg : Gd Γ K cc own nL d) (hd : decode cc pc = .ok (.invokestatic ix, 3)) (hp : pc + 3 = q) (hw : Cond.methodLink own ix Lib.Math.max.name ∈ wsL_law) (hdd : 1 ≤ d) (hcat : (st.map fun v => v.category).sum ≤ 8) (kk : WM Γ K M L q (.int (if x < y then y else x) :: st)) : WM Γ K M L pc (.int y :: .int x :: st) := by
  subst hp
  intro H locs ls hP hS hl
  have ht := hg.2.2.2.2.1
  have hr := hg.2.2.2.2.2.2.2.2.2
  exact va_mmax hg.1 hg.2.1 (by rw [hl.1]) hg.2.2.2.1 (ht _ hw) (ht _ wsMxS) (ht _ wsMxI) (ht _ wsMxC) (by omega) (by omega) (Nat.zero_le _) (Nat.zero_le _) hd (kk H locs ls hP hS hl)
end Calls2
end
section
theorem dX0_init_0 : decode cX0_init 0 = .ok (.aload_n 0, 1) := by decide +kernel
theorem dX0_init_1 : decode cX0_init 1 = .ok (.invokespecial 3, 3) := by decide +kernel
theorem dX0_init_4 : decode cX0_init 4 = .ok (.aload_n 0, 1) := by decide +kernel
theorem dX0_init_5 : decode cX0_init 5 = .ok (.iconst 0, 1) := by decide +kernel
theorem dX0_init_6 : decode cX0_init 6 = .ok (.putfield 9, 3) := by decide +kernel
theorem dX0_init_9 : decode cX0_init 9 = .ok (.aload_n 0, 1) := by decide +kernel
theorem dX0_init_10 : decode cX0_init 10 = .ok (.iconst 0, 1) := by decide +kernel
theorem dX0_init_11 : decode cX0_init 11 = .ok (.putfield 15, 3) := by decide +kernel
theorem dX0_init_14 : decode cX0_init 14 = .ok (.aload_n 0, 1) := by decide +kernel
theorem dX0_init_15 : decode cX0_init 15 = .ok (.iconst 0, 1) := by decide +kernel
theorem dX0_init_16 : decode cX0_init 16 = .ok (.putfield 18, 3) := by decide +kernel
theorem dX0_init_19 : decode cX0_init 19 = .ok (.aload_n 0, 1) := by decide +kernel
theorem dX0_init_20 : decode cX0_init 20 = .ok (.iconst 0, 1) := by decide +kernel
theorem dX0_init_21 : decode cX0_init 21 = .ok (.putfield 21, 3) := by decide +kernel
theorem dX0_init_24 : decode cX0_init 24 = .ok (.aload_n 0, 1) := by decide +kernel
theorem dX0_init_25 : decode cX0_init 25 = .ok (.iconst 0, 1) := by decide +kernel
theorem dX0_init_26 : decode cX0_init 26 = .ok (.putfield 24, 3) := by decide +kernel
theorem dX0_init_29 : decode cX0_init 29 = .ok (.aload_n 0, 1) := by decide +kernel
theorem dX0_init_30 : decode cX0_init 30 = .ok (.bipush 30, 2) := by decide +kernel
theorem dX0_init_32 : decode cX0_init 32 = .ok (.newarray .int, 2) := by decide +kernel
theorem dX0_init_34 : decode cX0_init 34 = .ok (.putfield 27, 3) := by decide +kernel
theorem dX0_init_37 : decode cX0_init 37 = .ok (.aload_n 0, 1) := by decide +kernel
theorem dX0_init_38 : decode cX0_init 38 = .ok (.bipush 30, 2) := by decide +kernel
theorem dX0_init_40 : decode cX0_init 40 = .ok (.newarray .int, 2) := by decide +kernel
theorem dX0_init_42 : decode cX0_init 42 = .ok (.putfield 31, 3) := by decide +kernel
theorem dX0_init_45 : decode cX0_init 45 = .ok (.aload_n 0, 1) := by decide +kernel
theorem dX0_init_46 : decode cX0_init 46 = .ok (.bipush 30, 2) := by decide +kernel
theorem dX0_init_48 : decode cX0_init 48 = .ok (.newarray .int, 2) := by decide +kernel
theorem dX0_init_50 : decode cX0_init 50 = .ok (.putfield 34, 3) := by decide +kernel
theorem dX0_init_53 : decode cX0_init 53 = .ok (.return_, 1) := by decide +kernel
theorem dX0_takeFrom_0 : decode cX0_takeFrom 0 = .ok (.aload_n 0, 1) := by decide +kernel
theorem dX0_takeFrom_1 : decode cX0_takeFrom 1 = .ok (.aload_n 1, 1) := by decide +kernel
theorem dX0_takeFrom_2 : decode cX0_takeFrom 2 = .ok (.getfield 9, 3) := by decide +kernel
theorem dX0_takeFrom_5 : decode cX0_takeFrom 5 = .ok (.putfield 9, 3) := by decide +kernel
theorem dX0_takeFrom_8 : decode cX0_takeFrom 8 = .ok (.aload_n 0, 1) := by decide +kernel
theorem dX0_takeFrom_9 : decode cX0_takeFrom 9 = .ok (.aload_n 1, 1) := by decide +kernel
theorem dX0_takeFrom_10 : decode cX0_takeFrom 10 = .ok (.getfield 15, 3) := by decide +kernel
theorem dX0_takeFrom_13 : decode cX0_takeFrom 13 = .ok (.putfield 15, 3) := by decide +kernel
theorem dX0_takeFrom_16 : decode cX0_takeFrom 16 = .ok (.aload_n 0, 1) := by decide +kernel
theorem dX0_takeFrom_17 : decode cX0_takeFrom 17 = .ok (.aload_n 1, 1) := by decide +kernel
theorem dX0_takeFrom_18 : decode cX0_takeFrom 18 = .ok (.getfield 18, 3) := by decide +kernel
theorem dX0_takeFrom_21 : decode cX0_takeFrom 21 = .ok (.putfield 18, 3) := by decide +kernel
theorem dX0_takeFrom_24 : decode cX0_takeFrom 24 = .ok (.aload_n 0, 1) := by decide +kernel
theorem dX0_takeFrom_25 : decode cX0_takeFrom 25 = .ok (.aload_n 1, 1) := by decide +kernel
theorem dX0_takeFrom_26 : decode cX0_takeFrom 26 = .ok (.getfield 21, 3) := by decide +kernel
theorem dX0_takeFrom_29 : decode cX0_takeFrom 29 = .ok (.putfield 21, 3) := by decide +kernel
theorem dX0_takeFrom_32 : decode cX0_takeFrom 32 = .ok (.aload_n 0, 1) := by decide +kernel
theorem dX0_takeFrom_33 : decode cX0_takeFrom 33 = .ok (.aload_n 1, 1) := by decide +kernel
theorem dX0_takeFrom_34 : decode cX0_takeFrom 34 = .ok (.getfield 24, 3) := by decide +kernel
theorem dX0_takeFrom_37 : decode cX0_takeFrom 37 = .ok (.putfield 24, 3) := by decide +kernel
theorem dX0_takeFrom_40 : decode cX0_takeFrom 40 = .ok (.aload_n 1, 1) := by decide +kernel
theorem dX0_takeFrom_41 : decode cX0_takeFrom 41 = .ok (.getfield 27, 3) := by decide +kernel
theorem dX0_takeFrom_44 : decode cX0_takeFrom 44 = .ok (.iconst 0, 1) := by decide +kernel
theorem dX0_takeFrom_45 : decode cX0_takeFrom 45 = .ok (.aload_n 0, 1) := by decide +kernel
theorem dX0_takeFrom_46 : decode cX0_takeFrom 46 = .ok (.getfield 27, 3) := by decide +kernel
theorem dX0_takeFrom_49 : decode cX0_takeFrom 49 = .ok (.iconst 0, 1) := by decide +kernel
theorem dX0_takeFrom_50 : decode cX0_takeFrom 50 = .ok (.bipush 30, 2) := by decide +kernel
theorem dX0_takeFrom_52 : decode cX0_takeFrom 52 = .ok (.invokestatic 37, 3) := by decide +kernel
theorem dX0_takeFrom_55 : decode cX0_takeFrom 55 = .ok (.aload_n 1, 1) := by decide +kernel
theorem dX0_takeFrom_56 : decode cX0_takeFrom 56 = .ok (.getfield 31, 3) := by decide +kernel
theorem dX0_takeFrom_59 : decode cX0_takeFrom 59 = .ok (.iconst 0, 1) := by decide +kernel
theorem dX0_takeFrom_60 : decode cX0_takeFrom 60 = .ok (.aload_n 0, 1) := by decide +kernel
theorem dX0_takeFrom_61 : decode cX0_takeFrom 61 = .ok (.getfield 31, 3) := by decide +kernel
theorem dX0_takeFrom_64 : decode cX0_takeFrom 64 = .ok (.iconst 0, 1) := by decide +kernel
theorem dX0_takeFrom_65 : decode cX0_takeFrom 65 = .ok (.bipush 30, 2) := by decide +kernel
theorem dX0_takeFrom_67 : decode cX0_takeFrom 67 = .ok (.invokestatic 37, 3) := by decide +kernel
theorem dX0_takeFrom_70 : decode cX0_takeFrom 70 = .ok (.aload_n 1, 1) := by decide +kernel
theorem dX0_takeFrom_71 : decode cX0_takeFrom 71 = .ok (.getfield 34, 3) := by decide +kernel
theorem dX0_takeFrom_74 : decode cX0_takeFrom 74 = .ok (.iconst 0, 1) := by decide +kernel
theorem dX0_takeFrom_75 : decode cX0_takeFrom 75 = .ok (.aload_n 0, 1) := by decide +kernel
theorem dX0_takeFrom_76 : decode cX0_takeFrom 76 = .ok (.getfield 34, 3) := by decide +kernel
theorem dX0_takeFrom_79 : decode cX0_takeFrom 79 = .ok (.iconst 0, 1) := by decide +kernel
theorem dX0_takeFrom_80 : decode cX0_takeFrom 80 = .ok (.bipush 30, 2) := by decide +kernel
theorem dX0_takeFrom_82 : decode cX0_takeFrom 82 = .ok (.invokestatic 37, 3) := by decide +kernel
theorem dX0_takeFrom_85 : decode cX0_takeFrom 85 = .ok (.return_, 1) := by decide +kernel
theorem dX0_clear_0 : decode cX0_clear 0 = .ok (.aload_n 0, 1) := by decide +kernel
theorem dX0_clear_1 : decode cX0_clear 1 = .ok (.iconst 0, 1) := by decide +kernel
theorem dX0_clear_2 : decode cX0_clear 2 = .ok (.putfield 9, 3) := by decide +kernel
theorem dX0_clear_5 : decode cX0_clear 5 = .ok (.aload_n 0, 1) := by decide +kernel
theorem dX0_clear_6 : decode cX0_clear 6 = .ok (.iconst 0, 1) := by decide +kernel
theorem dX0_clear_7 : decode cX0_clear 7 = .ok (.putfield 15, 3) := by decide +kernel
theorem dX0_clear_10 : decode cX0_clear 10 = .ok (.aload_n 0, 1) := by decide +kernel
theorem dX0_clear_11 : decode cX0_clear 11 = .ok (.iconst 0, 1) := by decide +kernel
theorem dX0_clear_12 : decode cX0_clear 12 = .ok (.putfield 18, 3) := by decide +kernel
theorem dX0_clear_15 : decode cX0_clear 15 = .ok (.aload_n 0, 1) := by decide +kernel
theorem dX0_clear_16 : decode cX0_clear 16 = .ok (.iconst 0, 1) := by decide +kernel
theorem dX0_clear_17 : decode cX0_clear 17 = .ok (.putfield 21, 3) := by decide +kernel
theorem dX0_clear_20 : decode cX0_clear 20 = .ok (.aload_n 0, 1) := by decide +kernel
theorem dX0_clear_21 : decode cX0_clear 21 = .ok (.iconst 0, 1) := by decide +kernel
theorem dX0_clear_22 : decode cX0_clear 22 = .ok (.putfield 24, 3) := by decide +kernel
theorem dX0_clear_25 : decode cX0_clear 25 = .ok (.return_, 1) := by decide +kernel
theorem dX0_enter_0 : decode cX0_enter 0 = .ok (.aload_n 0, 1) := by decide +kernel
theorem dX0_enter_1 : decode cX0_enter 1 = .ok (.getfield 24, 3) := by decide +kernel
theorem dX0_enter_4 : decode cX0_enter 4 = .ok (.bipush 30, 2) := by decide +kernel
theorem dX0_enter_6 : decode cX0_enter 6 = .ok (.if_icmp .lt 7, 3) := by decide +kernel
theorem dX0_enter_9 : decode cX0_enter 9 = .ok (.aload_n 0, 1) := by decide +kernel
theorem dX0_enter_10 : decode cX0_enter 10 = .ok (.invokevirtual 43, 3) := by decide +kernel
theorem dX0_enter_13 : decode cX0_enter 13 = .ok (.aload_n 0, 1) := by decide +kernel
theorem dX0_enter_14 : decode cX0_enter 14 = .ok (.getfield 27, 3) := by decide +kernel
theorem dX0_enter_17 : decode cX0_enter 17 = .ok (.aload_n 0, 1) := by decide +kernel
theorem dX0_enter_18 : decode cX0_enter 18 = .ok (.getfield 24, 3) := by decide +kernel
theorem dX0_enter_21 : decode cX0_enter 21 = .ok (.iload_n 1, 1) := by decide +kernel
theorem dX0_enter_22 : decode cX0_enter 22 = .ok (.iastore, 1) := by decide +kernel
theorem dX0_enter_23 : decode cX0_enter 23 = .ok (.aload_n 0, 1) := by decide +kernel
theorem dX0_enter_24 : decode cX0_enter 24 = .ok (.getfield 31, 3) := by decide +kernel
theorem dX0_enter_27 : decode cX0_enter 27 = .ok (.aload_n 0, 1) := by decide +kernel
theorem dX0_enter_28 : decode cX0_enter 28 = .ok (.getfield 24, 3) := by decide +kernel
theorem dX0_enter_31 : decode cX0_enter 31 = .ok (.iload_n 2, 1) := by decide +kernel
theorem dX0_enter_32 : decode cX0_enter 32 = .ok (.iastore, 1) := by decide +kernel
theorem dX0_enter_33 : decode cX0_enter 33 = .ok (.aload_n 0, 1) := by decide +kernel
theorem dX0_enter_34 : decode cX0_enter 34 = .ok (.getfield 34, 3) := by decide +kernel
theorem dX0_enter_37 : decode cX0_enter 37 = .ok (.aload_n 0, 1) := by decide +kernel
theorem dX0_enter_38 : decode cX0_enter 38 = .ok (.getfield 24, 3) := by decide +kernel
theorem dX0_enter_41 : decode cX0_enter 41 = .ok (.iload_n 3, 1) := by decide +kernel
theorem dX0_enter_42 : decode cX0_enter 42 = .ok (.iastore, 1) := by decide +kernel
theorem dX0_enter_43 : decode cX0_enter 43 = .ok (.aload_n 0, 1) := by decide +kernel
theorem dX0_enter_44 : decode cX0_enter 44 = .ok (.dup, 1) := by decide +kernel
theorem dX0_enter_45 : decode cX0_enter 45 = .ok (.getfield 24, 3) := by decide +kernel
theorem dX0_enter_48 : decode cX0_enter 48 = .ok (.iconst 1, 1) := by decide +kernel
theorem dX0_enter_49 : decode cX0_enter 49 = .ok (.iadd, 1) := by decide +kernel
theorem dX0_enter_50 : decode cX0_enter 50 = .ok (.putfield 24, 3) := by decide +kernel
theorem dX0_enter_53 : decode cX0_enter 53 = .ok (.aload_n 0, 1) := by decide +kernel
theorem dX0_enter_54 : decode cX0_enter 54 = .ok (.dup, 1) := by decide +kernel
theorem dX0_enter_55 : decode cX0_enter 55 = .ok (.getfield 18, 3) := by decide +kernel
theorem dX0_enter_58 : decode cX0_enter 58 = .ok (.iconst 1, 1) := by decide +kernel
theorem dX0_enter_59 : decode cX0_enter 59 = .ok (.iadd, 1) := by decide +kernel
theorem dX0_enter_60 : decode cX0_enter 60 = .ok (.putfield 18, 3) := by decide +kernel
theorem dX0_enter_63 : decode cX0_enter 63 = .ok (.aload_n 0, 1) := by decide +kernel
theorem dX0_enter_64 : decode cX0_enter 64 = .ok (.dup, 1) := by decide +kernel
theorem dX0_enter_65 : decode cX0_enter 65 = .ok (.getfield 15, 3) := by decide +kernel
theorem dX0_enter_68 : decode cX0_enter 68 = .ok (.iload_n 3, 1) := by decide +kernel
theorem dX0_enter_69 : decode cX0_enter 69 = .ok (.iadd, 1) := by decide +kernel
theorem dX0_enter_70 : decode cX0_enter 70 = .ok (.putfield 15, 3) := by decide +kernel
theorem dX0_enter_73 : decode cX0_enter 73 = .ok (.return_, 1) := by decide +kernel
theorem dX0_dropOldestTurn_0 : decode cX0_dropOldestTurn 0 = .ok (.aload_n 0, 1) := by decide +kernel
theorem dX0_dropOldestTurn_1 : decode cX0_dropOldestTurn 1 = .ok (.bipush 29, 2) := by decide +kernel
theorem dX0_dropOldestTurn_3 : decode cX0_dropOldestTurn 3 = .ok (.putfield 24, 3) := by decide +kernel
theorem dX0_dropOldestTurn_6 : decode cX0_dropOldestTurn 6 = .ok (.aload_n 0, 1) := by decide +kernel
theorem dX0_dropOldestTurn_7 : decode cX0_dropOldestTurn 7 = .ok (.getfield 27, 3) := by decide +kernel
theorem dX0_dropOldestTurn_10 : decode cX0_dropOldestTurn 10 = .ok (.iconst 1, 1) := by decide +kernel
theorem dX0_dropOldestTurn_11 : decode cX0_dropOldestTurn 11 = .ok (.aload_n 0, 1) := by decide +kernel
theorem dX0_dropOldestTurn_12 : decode cX0_dropOldestTurn 12 = .ok (.getfield 27, 3) := by decide +kernel
theorem dX0_dropOldestTurn_15 : decode cX0_dropOldestTurn 15 = .ok (.iconst 0, 1) := by decide +kernel
theorem dX0_dropOldestTurn_16 : decode cX0_dropOldestTurn 16 = .ok (.aload_n 0, 1) := by decide +kernel
theorem dX0_dropOldestTurn_17 : decode cX0_dropOldestTurn 17 = .ok (.getfield 24, 3) := by decide +kernel
theorem dX0_dropOldestTurn_20 : decode cX0_dropOldestTurn 20 = .ok (.invokestatic 37, 3) := by decide +kernel
theorem dX0_dropOldestTurn_23 : decode cX0_dropOldestTurn 23 = .ok (.aload_n 0, 1) := by decide +kernel
theorem dX0_dropOldestTurn_24 : decode cX0_dropOldestTurn 24 = .ok (.getfield 31, 3) := by decide +kernel
theorem dX0_dropOldestTurn_27 : decode cX0_dropOldestTurn 27 = .ok (.iconst 1, 1) := by decide +kernel
theorem dX0_dropOldestTurn_28 : decode cX0_dropOldestTurn 28 = .ok (.aload_n 0, 1) := by decide +kernel
theorem dX0_dropOldestTurn_29 : decode cX0_dropOldestTurn 29 = .ok (.getfield 31, 3) := by decide +kernel
theorem dX0_dropOldestTurn_32 : decode cX0_dropOldestTurn 32 = .ok (.iconst 0, 1) := by decide +kernel
theorem dX0_dropOldestTurn_33 : decode cX0_dropOldestTurn 33 = .ok (.aload_n 0, 1) := by decide +kernel
theorem dX0_dropOldestTurn_34 : decode cX0_dropOldestTurn 34 = .ok (.getfield 24, 3) := by decide +kernel
theorem dX0_dropOldestTurn_37 : decode cX0_dropOldestTurn 37 = .ok (.invokestatic 37, 3) := by decide +kernel
theorem dX0_dropOldestTurn_40 : decode cX0_dropOldestTurn 40 = .ok (.aload_n 0, 1) := by decide +kernel
theorem dX0_dropOldestTurn_41 : decode cX0_dropOldestTurn 41 = .ok (.getfield 34, 3) := by decide +kernel
theorem dX0_dropOldestTurn_44 : decode cX0_dropOldestTurn 44 = .ok (.iconst 1, 1) := by decide +kernel
theorem dX0_dropOldestTurn_45 : decode cX0_dropOldestTurn 45 = .ok (.aload_n 0, 1) := by decide +kernel
theorem dX0_dropOldestTurn_46 : decode cX0_dropOldestTurn 46 = .ok (.getfield 34, 3) := by decide +kernel
theorem dX0_dropOldestTurn_49 : decode cX0_dropOldestTurn 49 = .ok (.iconst 0, 1) := by decide +kernel
theorem dX0_dropOldestTurn_50 : decode cX0_dropOldestTurn 50 = .ok (.aload_n 0, 1) := by decide +kernel
theorem dX0_dropOldestTurn_51 : decode cX0_dropOldestTurn 51 = .ok (.getfield 24, 3) := by decide +kernel
theorem dX0_dropOldestTurn_54 : decode cX0_dropOldestTurn 54 = .ok (.invokestatic 37, 3) := by decide +kernel
theorem dX0_dropOldestTurn_57 : decode cX0_dropOldestTurn 57 = .ok (.return_, 1) := by decide +kernel
theorem dX1_init_0 : decode cX1_init 0 = .ok (.aload_n 0, 1) := by decide +kernel
theorem dX1_init_1 : decode cX1_init 1 = .ok (.invokespecial 3, 3) := by decide +kernel
theorem dX1_init_4 : decode cX1_init 4 = .ok (.aload_n 0, 1) := by decide +kernel
theorem dX1_init_5 : decode cX1_init 5 = .ok (.iconst 4, 1) := by decide +kernel
theorem dX1_init_6 : decode cX1_init 6 = .ok (.putfield 9, 3) := by decide +kernel
theorem dX1_init_9 : decode cX1_init 9 = .ok (.aload_n 0, 1) := by decide +kernel
theorem dX1_init_10 : decode cX1_init 10 = .ok (.bipush 10, 2) := by decide +kernel
theorem dX1_init_12 : decode cX1_init 12 = .ok (.newarray .int, 2) := by decide +kernel
theorem dX1_init_14 : decode cX1_init 14 = .ok (.putfield 15, 3) := by decide +kernel
theorem dX1_init_17 : decode cX1_init 17 = .ok (.aload_n 0, 1) := by decide +kernel
theorem dX1_init_18 : decode cX1_init 18 = .ok (.bipush 10, 2) := by decide +kernel
theorem dX1_init_20 : decode cX1_init 20 = .ok (.newarray .int, 2) := by decide +kernel
theorem dX1_init_22 : decode cX1_init 22 = .ok (.putfield 19, 3) := by decide +kernel
theorem dX1_init_25 : decode cX1_init 25 = .ok (.aload_n 0, 1) := by decide +kernel
theorem dX1_init_26 : decode cX1_init 26 = .ok (.bipush 10, 2) := by decide +kernel
theorem dX1_init_28 : decode cX1_init 28 = .ok (.newarray .int, 2) := by decide +kernel
theorem dX1_init_30 : decode cX1_init 30 = .ok (.putfield 22, 3) := by decide +kernel
theorem dX1_init_33 : decode cX1_init 33 = .ok (.aload_n 0, 1) := by decide +kernel
theorem dX1_init_34 : decode cX1_init 34 = .ok (.bipush 10, 2) := by decide +kernel
theorem dX1_init_36 : decode cX1_init 36 = .ok (.putfield 25, 3) := by decide +kernel
theorem dX1_init_39 : decode cX1_init 39 = .ok (.aload_n 0, 1) := by decide +kernel
theorem dX1_init_40 : decode cX1_init 40 = .ok (.sipush 300, 3) := by decide +kernel
theorem dX1_init_43 : decode cX1_init 43 = .ok (.putfield 28, 3) := by decide +kernel
theorem dX1_init_46 : decode cX1_init 46 = .ok (.aload_n 0, 1) := by decide +kernel
theorem dX1_init_47 : decode cX1_init 47 = .ok (.iconst 0, 1) := by decide +kernel
theorem dX1_init_48 : decode cX1_init 48 = .ok (.putfield 31, 3) := by decide +kernel
theorem dX1_init_51 : decode cX1_init 51 = .ok (.aload_n 0, 1) := by decide +kernel
theorem dX1_init_52 : decode cX1_init 52 = .ok (.iconst 0, 1) := by decide +kernel
theorem dX1_init_53 : decode cX1_init 53 = .ok (.putfield 34, 3) := by decide +kernel
theorem dX1_init_56 : decode cX1_init 56 = .ok (.aload_n 0, 1) := by decide +kernel
theorem dX1_init_57 : decode cX1_init 57 = .ok (.getfield 22, 3) := by decide +kernel
theorem dX1_init_60 : decode cX1_init 60 = .ok (.ldc 37, 2) := by decide +kernel
theorem dX1_init_62 : decode cX1_init 62 = .ok (.invokestatic 38, 3) := by decide +kernel
theorem dX1_init_65 : decode cX1_init 65 = .ok (.return_, 1) := by decide +kernel
theorem dX1_takeFrom_0 : decode cX1_takeFrom 0 = .ok (.aload_n 0, 1) := by decide +kernel
theorem dX1_takeFrom_1 : decode cX1_takeFrom 1 = .ok (.aload_n 1, 1) := by decide +kernel
theorem dX1_takeFrom_2 : decode cX1_takeFrom 2 = .ok (.invokevirtual 44, 3) := by decide +kernel
theorem dX1_takeFrom_5 : decode cX1_takeFrom 5 = .ok (.aload_n 0, 1) := by decide +kernel
theorem dX1_takeFrom_6 : decode cX1_takeFrom 6 = .ok (.aload_n 1, 1) := by decide +kernel
theorem dX1_takeFrom_7 : decode cX1_takeFrom 7 = .ok (.getfield 25, 3) := by decide +kernel
theorem dX1_takeFrom_10 : decode cX1_takeFrom 10 = .ok (.putfield 25, 3) := by decide +kernel
theorem dX1_takeFrom_13 : decode cX1_takeFrom 13 = .ok (.aload_n 0, 1) := by decide +kernel
theorem dX1_takeFrom_14 : decode cX1_takeFrom 14 = .ok (.aload_n 1, 1) := by decide +kernel
theorem dX1_takeFrom_15 : decode cX1_takeFrom 15 = .ok (.getfield 28, 3) := by decide +kernel
theorem dX1_takeFrom_18 : decode cX1_takeFrom 18 = .ok (.putfield 28, 3) := by decide +kernel
theorem dX1_takeFrom_21 : decode cX1_takeFrom 21 = .ok (.aload_n 0, 1) := by decide +kernel
theorem dX1_takeFrom_22 : decode cX1_takeFrom 22 = .ok (.aload_n 1, 1) := by decide +kernel
theorem dX1_takeFrom_23 : decode cX1_takeFrom 23 = .ok (.getfield 31, 3) := by decide +kernel
theorem dX1_takeFrom_26 : decode cX1_takeFrom 26 = .ok (.putfield 31, 3) := by decide +kernel
theorem dX1_takeFrom_29 : decode cX1_takeFrom 29 = .ok (.aload_n 0, 1) := by decide +kernel
theorem dX1_takeFrom_30 : decode cX1_takeFrom 30 = .ok (.aload_n 1, 1) := by decide +kernel
theorem dX1_takeFrom_31 : decode cX1_takeFrom 31 = .ok (.getfield 34, 3) := by decide +kernel
theorem dX1_takeFrom_34 : decode cX1_takeFrom 34 = .ok (.putfield 34, 3) := by decide +kernel
theorem dX1_takeFrom_37 : decode cX1_takeFrom 37 = .ok (.return_, 1) := by decide +kernel
theorem dX1_takeMagnets_0 : decode cX1_takeMagnets 0 = .ok (.aload_n 0, 1) := by decide +kernel
theorem dX1_takeMagnets_1 : decode cX1_takeMagnets 1 = .ok (.aload_n 1, 1) := by decide +kernel
theorem dX1_takeMagnets_2 : decode cX1_takeMagnets 2 = .ok (.getfield 9, 3) := by decide +kernel
theorem dX1_takeMagnets_5 : decode cX1_takeMagnets 5 = .ok (.putfield 9, 3) := by decide +kernel
theorem dX1_takeMagnets_8 : decode cX1_takeMagnets 8 = .ok (.aload_n 0, 1) := by decide +kernel
theorem dX1_takeMagnets_9 : decode cX1_takeMagnets 9 = .ok (.aload_n 1, 1) := by decide +kernel
theorem dX1_takeMagnets_10 : decode cX1_takeMagnets 10 = .ok (.invokevirtual 48, 3) := by decide +kernel
theorem dX1_takeMagnets_13 : decode cX1_takeMagnets 13 = .ok (.aload_n 1, 1) := by decide +kernel
theorem dX1_takeMagnets_14 : decode cX1_takeMagnets 14 = .ok (.getfield 19, 3) := by decide +kernel
theorem dX1_takeMagnets_17 : decode cX1_takeMagnets 17 = .ok (.iconst 0, 1) := by decide +kernel
theorem dX1_takeMagnets_18 : decode cX1_takeMagnets 18 = .ok (.aload_n 0, 1) := by decide +kernel
theorem dX1_takeMagnets_19 : decode cX1_takeMagnets 19 = .ok (.getfield 19, 3) := by decide +kernel
theorem dX1_takeMagnets_22 : decode cX1_takeMagnets 22 = .ok (.iconst 0, 1) := by decide +kernel
theorem dX1_takeMagnets_23 : decode cX1_takeMagnets 23 = .ok (.bipush 10, 2) := by decide +kernel
theorem dX1_takeMagnets_25 : decode cX1_takeMagnets 25 = .ok (.invokestatic 51, 3) := by decide +kernel
theorem dX1_takeMagnets_28 : decode cX1_takeMagnets 28 = .ok (.aload_n 1, 1) := by decide +kernel
theorem dX1_takeMagnets_29 : decode cX1_takeMagnets 29 = .ok (.getfield 22, 3) := by decide +kernel
theorem dX1_takeMagnets_32 : decode cX1_takeMagnets 32 = .ok (.iconst 0, 1) := by decide +kernel
theorem dX1_takeMagnets_33 : decode cX1_takeMagnets 33 = .ok (.aload_n 0, 1) := by decide +kernel
theorem dX1_takeMagnets_34 : decode cX1_takeMagnets 34 = .ok (.getfield 22, 3) := by decide +kernel
theorem dX1_takeMagnets_37 : decode cX1_takeMagnets 37 = .ok (.iconst 0, 1) := by decide +kernel
theorem dX1_takeMagnets_38 : decode cX1_takeMagnets 38 = .ok (.bipush 10, 2) := by decide +kernel
theorem dX1_takeMagnets_40 : decode cX1_takeMagnets 40 = .ok (.invokestatic 51, 3) := by decide +kernel
theorem dX1_takeMagnets_43 : decode cX1_takeMagnets 43 = .ok (.return_, 1) := by decide +kernel
theorem dX1_takeAngles_0 : decode cX1_takeAngles 0 = .ok (.aload_n 1, 1) := by decide +kernel
theorem dX1_takeAngles_1 : decode cX1_takeAngles 1 = .ok (.getfield 15, 3) := by decide +kernel
theorem dX1_takeAngles_4 : decode cX1_takeAngles 4 = .ok (.iconst 0, 1) := by decide +kernel
theorem dX1_takeAngles_5 : decode cX1_takeAngles 5 = .ok (.aload_n 0, 1) := by decide +kernel
theorem dX1_takeAngles_6 : decode cX1_takeAngles 6 = .ok (.getfield 15, 3) := by decide +kernel
theorem dX1_takeAngles_9 : decode cX1_takeAngles 9 = .ok (.iconst 0, 1) := by decide +kernel
theorem dX1_takeAngles_10 : decode cX1_takeAngles 10 = .ok (.bipush 10, 2) := by decide +kernel
theorem dX1_takeAngles_12 : decode cX1_takeAngles 12 = .ok (.invokestatic 51, 3) := by decide +kernel
theorem dX1_takeAngles_15 : decode cX1_takeAngles 15 = .ok (.return_, 1) := by decide +kernel
theorem dX1_startWith_0 : decode cX1_startWith 0 = .ok (.aload_n 0, 1) := by decide +kernel
theorem dX1_startWith_1 : decode cX1_startWith 1 = .ok (.iload_n 1, 1) := by decide +kernel
theorem dX1_startWith_2 : decode cX1_startWith 2 = .ok (.putfield 9, 3) := by decide +kernel
theorem dX1_startWith_5 : decode cX1_startWith 5 = .ok (.aload_n 0, 1) := by decide +kernel
theorem dX1_startWith_6 : decode cX1_startWith 6 = .ok (.getfield 15, 3) := by decide +kernel
theorem dX1_startWith_9 : decode cX1_startWith 9 = .ok (.iconst 0, 1) := by decide +kernel
theorem dX1_startWith_10 : decode cX1_startWith 10 = .ok (.invokestatic 38, 3) := by decide +kernel
theorem dX1_startWith_13 : decode cX1_startWith 13 = .ok (.aload_n 0, 1) := by decide +kernel
theorem dX1_startWith_14 : decode cX1_startWith 14 = .ok (.getfield 19, 3) := by decide +kernel
theorem dX1_startWith_17 : decode cX1_startWith 17 = .ok (.iconst 0, 1) := by decide +kernel
theorem dX1_startWith_18 : decode cX1_startWith 18 = .ok (.invokestatic 38, 3) := by decide +kernel
theorem dX1_startWith_21 : decode cX1_startWith 21 = .ok (.aload_n 0, 1) := by decide +kernel
theorem dX1_startWith_22 : decode cX1_startWith 22 = .ok (.getfield 22, 3) := by decide +kernel
theorem dX1_startWith_25 : decode cX1_startWith 25 = .ok (.ldc 37, 2) := by decide +kernel
theorem dX1_startWith_27 : decode cX1_startWith 27 = .ok (.invokestatic 38, 3) := by decide +kernel
theorem dX1_startWith_30 : decode cX1_startWith 30 = .ok (.return_, 1) := by decide +kernel
theorem dX1_putIn_0 : decode cX1_putIn 0 = .ok (.aload_n 0, 1) := by decide +kernel
theorem dX1_putIn_1 : decode cX1_putIn 1 = .ok (.getfield 9, 3) := by decide +kernel
theorem dX1_putIn_4 : decode cX1_putIn 4 = .ok (.istore_n 3, 1) := by decide +kernel
theorem dX1_putIn_5 : decode cX1_putIn 5 = .ok (.iload_n 3, 1) := by decide +kernel
theorem dX1_putIn_6 : decode cX1_putIn 6 = .ok (.iload_n 1, 1) := by decide +kernel
theorem dX1_putIn_7 : decode cX1_putIn 7 = .ok (.if_icmp .le 18, 3) := by decide +kernel
theorem dX1_putIn_10 : decode cX1_putIn 10 = .ok (.aload_n 0, 1) := by decide +kernel
theorem dX1_putIn_11 : decode cX1_putIn 11 = .ok (.iload_n 3, 1) := by decide +kernel
theorem dX1_putIn_12 : decode cX1_putIn 12 = .ok (.aload_n 0, 1) := by decide +kernel
theorem dX1_putIn_13 : decode cX1_putIn 13 = .ok (.iload_n 3, 1) := by decide +kernel
theorem dX1_putIn_14 : decode cX1_putIn 14 = .ok (.iconst 1, 1) := by decide +kernel
theorem dX1_putIn_15 : decode cX1_putIn 15 = .ok (.isub, 1) := by decide +kernel
theorem dX1_putIn_16 : decode cX1_putIn 16 = .ok (.invokevirtual 57, 3) := by decide +kernel
theorem dX1_putIn_19 : decode cX1_putIn 19 = .ok (.iinc 3 (-1), 3) := by decide +kernel
theorem dX1_putIn_22 : decode cX1_putIn 22 = .ok (.goto (-17), 3) := by decide +kernel
theorem dX1_putIn_25 : decode cX1_putIn 25 = .ok (.aload_n 0, 1) := by decide +kernel
theorem dX1_putIn_26 : decode cX1_putIn 26 = .ok (.getfield 15, 3) := by decide +kernel
theorem dX1_putIn_29 : decode cX1_putIn 29 = .ok (.iload_n 1, 1) := by decide +kernel
theorem dX1_putIn_30 : decode cX1_putIn 30 = .ok (.iload_n 2, 1) := by decide +kernel
theorem dX1_putIn_31 : decode cX1_putIn 31 = .ok (.iastore, 1) := by decide +kernel
theorem dX1_putIn_32 : decode cX1_putIn 32 = .ok (.aload_n 0, 1) := by decide +kernel
theorem dX1_putIn_33 : decode cX1_putIn 33 = .ok (.getfield 19, 3) := by decide +kernel
theorem dX1_putIn_36 : decode cX1_putIn 36 = .ok (.iload_n 1, 1) := by decide +kernel
theorem dX1_putIn_37 : decode cX1_putIn 37 = .ok (.iconst 0, 1) := by decide +kernel
theorem dX1_putIn_38 : decode cX1_putIn 38 = .ok (.iastore, 1) := by decide +kernel
theorem dX1_putIn_39 : decode cX1_putIn 39 = .ok (.aload_n 0, 1) := by decide +kernel
theorem dX1_putIn_40 : decode cX1_putIn 40 = .ok (.getfield 22, 3) := by decide +kernel
theorem dX1_putIn_43 : decode cX1_putIn 43 = .ok (.iload_n 1, 1) := by decide +kernel
theorem dX1_putIn_44 : decode cX1_putIn 44 = .ok (.ldc 37, 2) := by decide +kernel
theorem dX1_putIn_46 : decode cX1_putIn 46 = .ok (.iastore, 1) := by decide +kernel
theorem dX1_putIn_47 : decode cX1_putIn 47 = .ok (.aload_n 0, 1) := by decide +kernel
theorem dX1_putIn_48 : decode cX1_putIn 48 = .ok (.dup, 1) := by decide +kernel
theorem dX1_putIn_49 : decode cX1_putIn 49 = .ok (.getfield 9, 3) := by decide +kernel
theorem dX1_putIn_52 : decode cX1_putIn 52 = .ok (.iconst 1, 1) := by decide +kernel
theorem dX1_putIn_53 : decode cX1_putIn 53 = .ok (.iadd, 1) := by decide +kernel
theorem dX1_putIn_54 : decode cX1_putIn 54 = .ok (.putfield 9, 3) := by decide +kernel
theorem dX1_putIn_57 : decode cX1_putIn 57 = .ok (.return_, 1) := by decide +kernel
theorem dX1_takeOut_0 : decode cX1_takeOut 0 = .ok (.aload_n 0, 1) := by decide +kernel
theorem dX1_takeOut_1 : decode cX1_takeOut 1 = .ok (.dup, 1) := by decide +kernel
theorem dX1_takeOut_2 : decode cX1_takeOut 2 = .ok (.getfield 9, 3) := by decide +kernel
theorem dX1_takeOut_5 : decode cX1_takeOut 5 = .ok (.iconst 1, 1) := by decide +kernel
theorem dX1_takeOut_6 : decode cX1_takeOut 6 = .ok (.isub, 1) := by decide +kernel
theorem dX1_takeOut_7 : decode cX1_takeOut 7 = .ok (.putfield 9, 3) := by decide +kernel
theorem dX1_takeOut_10 : decode cX1_takeOut 10 = .ok (.iload_n 1, 1) := by decide +kernel
theorem dX1_takeOut_11 : decode cX1_takeOut 11 = .ok (.istore_n 2, 1) := by decide +kernel
theorem dX1_takeOut_12 : decode cX1_takeOut 12 = .ok (.iload_n 2, 1) := by decide +kernel
theorem dX1_takeOut_13 : decode cX1_takeOut 13 = .ok (.aload_n 0, 1) := by decide +kernel
theorem dX1_takeOut_14 : decode cX1_takeOut 14 = .ok (.getfield 9, 3) := by decide +kernel
theorem dX1_takeOut_17 : decode cX1_takeOut 17 = .ok (.if_icmp .ge 18, 3) := by decide +kernel
theorem dX1_takeOut_20 : decode cX1_takeOut 20 = .ok (.aload_n 0, 1) := by decide +kernel
theorem dX1_takeOut_21 : decode cX1_takeOut 21 = .ok (.iload_n 2, 1) := by decide +kernel
theorem dX1_takeOut_22 : decode cX1_takeOut 22 = .ok (.aload_n 0, 1) := by decide +kernel
theorem dX1_takeOut_23 : decode cX1_takeOut 23 = .ok (.iload_n 2, 1) := by decide +kernel
theorem dX1_takeOut_24 : decode cX1_takeOut 24 = .ok (.iconst 1, 1) := by decide +kernel
theorem dX1_takeOut_25 : decode cX1_takeOut 25 = .ok (.iadd, 1) := by decide +kernel
theorem dX1_takeOut_26 : decode cX1_takeOut 26 = .ok (.invokevirtual 57, 3) := by decide +kernel
theorem dX1_takeOut_29 : decode cX1_takeOut 29 = .ok (.iinc 2 1, 3) := by decide +kernel
theorem dX1_takeOut_32 : decode cX1_takeOut 32 = .ok (.goto (-20), 3) := by decide +kernel
theorem dX1_takeOut_35 : decode cX1_takeOut 35 = .ok (.return_, 1) := by decide +kernel
theorem dX1_append_0 : decode cX1_append 0 = .ok (.aload_n 0, 1) := by decide +kernel
theorem dX1_append_1 : decode cX1_append 1 = .ok (.aload_n 0, 1) := by decide +kernel
theorem dX1_append_2 : decode cX1_append 2 = .ok (.getfield 9, 3) := by decide +kernel
theorem dX1_append_5 : decode cX1_append 5 = .ok (.aload_n 1, 1) := by decide +kernel
theorem dX1_append_6 : decode cX1_append 6 = .ok (.iload_n 2, 1) := by decide +kernel
theorem dX1_append_7 : decode cX1_append 7 = .ok (.invokevirtual 57, 3) := by decide +kernel
theorem dX1_append_10 : decode cX1_append 10 = .ok (.aload_n 0, 1) := by decide +kernel
theorem dX1_append_11 : decode cX1_append 11 = .ok (.dup, 1) := by decide +kernel
theorem dX1_append_12 : decode cX1_append 12 = .ok (.getfield 9, 3) := by decide +kernel
theorem dX1_append_15 : decode cX1_append 15 = .ok (.iconst 1, 1) := by decide +kernel
theorem dX1_append_16 : decode cX1_append 16 = .ok (.iadd, 1) := by decide +kernel
theorem dX1_append_17 : decode cX1_append 17 = .ok (.putfield 9, 3) := by decide +kernel
theorem dX1_append_20 : decode cX1_append 20 = .ok (.return_, 1) := by decide +kernel
theorem dX1_copyMagnet_0 : decode cX1_copyMagnet 0 = .ok (.aload_n 0, 1) := by decide +kernel
theorem dX1_copyMagnet_1 : decode cX1_copyMagnet 1 = .ok (.getfield 15, 3) := by decide +kernel
theorem dX1_copyMagnet_4 : decode cX1_copyMagnet 4 = .ok (.iload_n 1, 1) := by decide +kernel
theorem dX1_copyMagnet_5 : decode cX1_copyMagnet 5 = .ok (.aload_n 2, 1) := by decide +kernel
theorem dX1_copyMagnet_6 : decode cX1_copyMagnet 6 = .ok (.getfield 15, 3) := by decide +kernel
theorem dX1_copyMagnet_9 : decode cX1_copyMagnet 9 = .ok (.iload_n 3, 1) := by decide +kernel
theorem dX1_copyMagnet_10 : decode cX1_copyMagnet 10 = .ok (.iaload, 1) := by decide +kernel
theorem dX1_copyMagnet_11 : decode cX1_copyMagnet 11 = .ok (.iastore, 1) := by decide +kernel
theorem dX1_copyMagnet_12 : decode cX1_copyMagnet 12 = .ok (.aload_n 0, 1) := by decide +kernel
theorem dX1_copyMagnet_13 : decode cX1_copyMagnet 13 = .ok (.getfield 19, 3) := by decide +kernel
theorem dX1_copyMagnet_16 : decode cX1_copyMagnet 16 = .ok (.iload_n 1, 1) := by decide +kernel
theorem dX1_copyMagnet_17 : decode cX1_copyMagnet 17 = .ok (.aload_n 2, 1) := by decide +kernel
theorem dX1_copyMagnet_18 : decode cX1_copyMagnet 18 = .ok (.getfield 19, 3) := by decide +kernel
theorem dX1_copyMagnet_21 : decode cX1_copyMagnet 21 = .ok (.iload_n 3, 1) := by decide +kernel
theorem dX1_copyMagnet_22 : decode cX1_copyMagnet 22 = .ok (.iaload, 1) := by decide +kernel
theorem dX1_copyMagnet_23 : decode cX1_copyMagnet 23 = .ok (.iastore, 1) := by decide +kernel
theorem dX1_copyMagnet_24 : decode cX1_copyMagnet 24 = .ok (.aload_n 0, 1) := by decide +kernel
theorem dX1_copyMagnet_25 : decode cX1_copyMagnet 25 = .ok (.getfield 22, 3) := by decide +kernel
theorem dX1_copyMagnet_28 : decode cX1_copyMagnet 28 = .ok (.iload_n 1, 1) := by decide +kernel
theorem dX1_copyMagnet_29 : decode cX1_copyMagnet 29 = .ok (.aload_n 2, 1) := by decide +kernel
theorem dX1_copyMagnet_30 : decode cX1_copyMagnet 30 = .ok (.getfield 22, 3) := by decide +kernel
theorem dX1_copyMagnet_33 : decode cX1_copyMagnet 33 = .ok (.iload_n 3, 1) := by decide +kernel
theorem dX1_copyMagnet_34 : decode cX1_copyMagnet 34 = .ok (.iaload, 1) := by decide +kernel
theorem dX1_copyMagnet_35 : decode cX1_copyMagnet 35 = .ok (.iastore, 1) := by decide +kernel
theorem dX1_copyMagnet_36 : decode cX1_copyMagnet 36 = .ok (.return_, 1) := by decide +kernel
theorem dX1_mirror_0 : decode cX1_mirror 0 = .ok (.iconst 0, 1) := by decide +kernel
theorem dX1_mirror_1 : decode cX1_mirror 1 = .ok (.istore_n 1, 1) := by decide +kernel
theorem dX1_mirror_2 : decode cX1_mirror 2 = .ok (.iload_n 1, 1) := by decide +kernel
theorem dX1_mirror_3 : decode cX1_mirror 3 = .ok (.aload_n 0, 1) := by decide +kernel
theorem dX1_mirror_4 : decode cX1_mirror 4 = .ok (.getfield 9, 3) := by decide +kernel
theorem dX1_mirror_7 : decode cX1_mirror 7 = .ok (.if_icmp .ge 54, 3) := by decide +kernel
theorem dX1_mirror_10 : decode cX1_mirror 10 = .ok (.aload_n 0, 1) := by decide +kernel
theorem dX1_mirror_11 : decode cX1_mirror 11 = .ok (.getfield 15, 3) := by decide +kernel
theorem dX1_mirror_14 : decode cX1_mirror 14 = .ok (.iload_n 1, 1) := by decide +kernel
theorem dX1_mirror_15 : decode cX1_mirror 15 = .ok (.iconst 4, 1) := by decide +kernel
theorem dX1_mirror_16 : decode cX1_mirror 16 = .ok (.aload_n 0, 1) := by decide +kernel
theorem dX1_mirror_17 : decode cX1_mirror 17 = .ok (.getfield 15, 3) := by decide +kernel
theorem dX1_mirror_20 : decode cX1_mirror 20 = .ok (.iload_n 1, 1) := by decide +kernel
theorem dX1_mirror_21 : decode cX1_mirror 21 = .ok (.iaload, 1) := by decide +kernel
theorem dX1_mirror_22 : decode cX1_mirror 22 = .ok (.isub, 1) := by decide +kernel
theorem dX1_mirror_23 : decode cX1_mirror 23 = .ok (.bipush 7, 2) := by decide +kernel
theorem dX1_mirror_25 : decode cX1_mirror 25 = .ok (.iand, 1) := by decide +kernel
theorem dX1_mirror_26 : decode cX1_mirror 26 = .ok (.iastore, 1) := by decide +kernel
theorem dX1_mirror_27 : decode cX1_mirror 27 = .ok (.aload_n 0, 1) := by decide +kernel
theorem dX1_mirror_28 : decode cX1_mirror 28 = .ok (.getfield 22, 3) := by decide +kernel
theorem dX1_mirror_31 : decode cX1_mirror 31 = .ok (.iload_n 1, 1) := by decide +kernel
theorem dX1_mirror_32 : decode cX1_mirror 32 = .ok (.iaload, 1) := by decide +kernel
theorem dX1_mirror_33 : decode cX1_mirror 33 = .ok (.ldc 37, 2) := by decide +kernel
theorem dX1_mirror_35 : decode cX1_mirror 35 = .ok (.if_icmp .eq 20, 3) := by decide +kernel
theorem dX1_mirror_38 : decode cX1_mirror 38 = .ok (.aload_n 0, 1) := by decide +kernel
theorem dX1_mirror_39 : decode cX1_mirror 39 = .ok (.getfield 22, 3) := by decide +kernel
theorem dX1_mirror_42 : decode cX1_mirror 42 = .ok (.iload_n 1, 1) := by decide +kernel
theorem dX1_mirror_43 : decode cX1_mirror 43 = .ok (.iconst 4, 1) := by decide +kernel
theorem dX1_mirror_44 : decode cX1_mirror 44 = .ok (.aload_n 0, 1) := by decide +kernel
theorem dX1_mirror_45 : decode cX1_mirror 45 = .ok (.getfield 22, 3) := by decide +kernel
theorem dX1_mirror_48 : decode cX1_mirror 48 = .ok (.iload_n 1, 1) := by decide +kernel
theorem dX1_mirror_49 : decode cX1_mirror 49 = .ok (.iaload, 1) := by decide +kernel
theorem dX1_mirror_50 : decode cX1_mirror 50 = .ok (.isub, 1) := by decide +kernel
theorem dX1_mirror_51 : decode cX1_mirror 51 = .ok (.bipush 7, 2) := by decide +kernel
theorem dX1_mirror_53 : decode cX1_mirror 53 = .ok (.iand, 1) := by decide +kernel
theorem dX1_mirror_54 : decode cX1_mirror 54 = .ok (.iastore, 1) := by decide +kernel
theorem dX1_mirror_55 : decode cX1_mirror 55 = .ok (.iinc 1 1, 3) := by decide +kernel
theorem dX1_mirror_58 : decode cX1_mirror 58 = .ok (.goto (-56), 3) := by decide +kernel
theorem dX1_mirror_61 : decode cX1_mirror 61 = .ok (.return_, 1) := by decide +kernel
theorem dX1_turn_0 : decode cX1_turn 0 = .ok (.aload_n 0, 1) := by decide +kernel
theorem dX1_turn_1 : decode cX1_turn 1 = .ok (.getfield 15, 3) := by decide +kernel
theorem dX1_turn_4 : decode cX1_turn 4 = .ok (.iload_n 1, 1) := by decide +kernel
theorem dX1_turn_5 : decode cX1_turn 5 = .ok (.aload_n 0, 1) := by decide +kernel
theorem dX1_turn_6 : decode cX1_turn 6 = .ok (.getfield 15, 3) := by decide +kernel
theorem dX1_turn_9 : decode cX1_turn 9 = .ok (.iload_n 1, 1) := by decide +kernel
theorem dX1_turn_10 : decode cX1_turn 10 = .ok (.iaload, 1) := by decide +kernel
theorem dX1_turn_11 : decode cX1_turn 11 = .ok (.iload_n 2, 1) := by decide +kernel
theorem dX1_turn_12 : decode cX1_turn 12 = .ok (.iadd, 1) := by decide +kernel
theorem dX1_turn_13 : decode cX1_turn 13 = .ok (.bipush 7, 2) := by decide +kernel
theorem dX1_turn_15 : decode cX1_turn 15 = .ok (.iand, 1) := by decide +kernel
theorem dX1_turn_16 : decode cX1_turn 16 = .ok (.iastore, 1) := by decide +kernel
theorem dX1_turn_17 : decode cX1_turn 17 = .ok (.return_, 1) := by decide +kernel
theorem dX1_energy_0 : decode cX1_energy 0 = .ok (.iconst 0, 1) := by decide +kernel
theorem dX1_energy_1 : decode cX1_energy 1 = .ok (.istore_n 1, 1) := by decide +kernel
theorem dX1_energy_2 : decode cX1_energy 2 = .ok (.iconst 0, 1) := by decide +kernel
theorem dX1_energy_3 : decode cX1_energy 3 = .ok (.istore_n 2, 1) := by decide +kernel
theorem dX1_energy_4 : decode cX1_energy 4 = .ok (.iload_n 2, 1) := by decide +kernel
theorem dX1_energy_5 : decode cX1_energy 5 = .ok (.aload_n 0, 1) := by decide +kernel
theorem dX1_energy_6 : decode cX1_energy 6 = .ok (.getfield 9, 3) := by decide +kernel
theorem dX1_energy_9 : decode cX1_energy 9 = .ok (.if_icmp .ge 55, 3) := by decide +kernel
theorem dX1_energy_12 : decode cX1_energy 12 = .ok (.aload_n 0, 1) := by decide +kernel
theorem dX1_energy_13 : decode cX1_energy 13 = .ok (.getfield 15, 3) := by decide +kernel
theorem dX1_energy_16 : decode cX1_energy 16 = .ok (.iload_n 2, 1) := by decide +kernel
theorem dX1_energy_17 : decode cX1_energy 17 = .ok (.iaload, 1) := by decide +kernel
theorem dX1_energy_18 : decode cX1_energy 18 = .ok (.istore_n 3, 1) := by decide +kernel
theorem dX1_energy_19 : decode cX1_energy 19 = .ok (.iload_n 1, 1) := by decide +kernel
theorem dX1_energy_20 : decode cX1_energy 20 = .ok (.aload_n 0, 1) := by decide +kernel
theorem dX1_energy_21 : decode cX1_energy 21 = .ok (.getfield 25, 3) := by decide +kernel
theorem dX1_energy_24 : decode cX1_energy 24 = .ok (.aload_n 0, 1) := by decide +kernel
theorem dX1_energy_25 : decode cX1_energy 25 = .ok (.iload_n 3, 1) := by decide +kernel
theorem dX1_energy_26 : decode cX1_energy 26 = .ok (.iload_n 2, 1) := by decide +kernel
theorem dX1_energy_27 : decode cX1_energy 27 = .ok (.iconst 1, 1) := by decide +kernel
theorem dX1_energy_28 : decode cX1_energy 28 = .ok (.iadd, 1) := by decide +kernel
theorem dX1_energy_29 : decode cX1_energy 29 = .ok (.invokevirtual 61, 3) := by decide +kernel
theorem dX1_energy_32 : decode cX1_energy 32 = .ok (.imul, 1) := by decide +kernel
theorem dX1_energy_33 : decode cX1_energy 33 = .ok (.aload_n 0, 1) := by decide +kernel
theorem dX1_energy_34 : decode cX1_energy 34 = .ok (.getfield 25, 3) := by decide +kernel
theorem dX1_energy_37 : decode cX1_energy 37 = .ok (.bipush 8, 2) := by decide +kernel
theorem dX1_energy_39 : decode cX1_energy 39 = .ok (.idiv, 1) := by decide +kernel
theorem dX1_energy_40 : decode cX1_energy 40 = .ok (.aload_n 0, 1) := by decide +kernel
theorem dX1_energy_41 : decode cX1_energy 41 = .ok (.iload_n 3, 1) := by decide +kernel
theorem dX1_energy_42 : decode cX1_energy 42 = .ok (.iload_n 2, 1) := by decide +kernel
theorem dX1_energy_43 : decode cX1_energy 43 = .ok (.iconst 2, 1) := by decide +kernel
theorem dX1_energy_44 : decode cX1_energy 44 = .ok (.iadd, 1) := by decide +kernel
theorem dX1_energy_45 : decode cX1_energy 45 = .ok (.invokevirtual 61, 3) := by decide +kernel
theorem dX1_energy_48 : decode cX1_energy 48 = .ok (.imul, 1) := by decide +kernel
theorem dX1_energy_49 : decode cX1_energy 49 = .ok (.iadd, 1) := by decide +kernel
theorem dX1_energy_50 : decode cX1_energy 50 = .ok (.aload_n 0, 1) := by decide +kernel
theorem dX1_energy_51 : decode cX1_energy 51 = .ok (.iload_n 3, 1) := by decide +kernel
theorem dX1_energy_52 : decode cX1_energy 52 = .ok (.invokevirtual 65, 3) := by decide +kernel
theorem dX1_energy_55 : decode cX1_energy 55 = .ok (.iadd, 1) := by decide +kernel
theorem dX1_energy_56 : decode cX1_energy 56 = .ok (.iadd, 1) := by decide +kernel
theorem dX1_energy_57 : decode cX1_energy 57 = .ok (.istore_n 1, 1) := by decide +kernel
theorem dX1_energy_58 : decode cX1_energy 58 = .ok (.iinc 2 1, 3) := by decide +kernel
theorem dX1_energy_61 : decode cX1_energy 61 = .ok (.goto (-57), 3) := by decide +kernel
theorem dX1_energy_64 : decode cX1_energy 64 = .ok (.iload_n 1, 1) := by decide +kernel
theorem dX1_energy_65 : decode cX1_energy 65 = .ok (.ireturn, 1) := by decide +kernel
theorem dX1_partOf_0 : decode cX1_partOf 0 = .ok (.aload_n 0, 1) := by decide +kernel
theorem dX1_partOf_1 : decode cX1_partOf 1 = .ok (.getfield 25, 3) := by decide +kernel
theorem dX1_partOf_4 : decode cX1_partOf 4 = .ok (.aload_n 0, 1) := by decide +kernel
theorem dX1_partOf_5 : decode cX1_partOf 5 = .ok (.iload_n 2, 1) := by decide +kernel
theorem dX1_partOf_6 : decode cX1_partOf 6 = .ok (.iload_n 1, 1) := by decide +kernel
theorem dX1_partOf_7 : decode cX1_partOf 7 = .ok (.iconst 1, 1) := by decide +kernel
theorem dX1_partOf_8 : decode cX1_partOf 8 = .ok (.isub, 1) := by decide +kernel
theorem dX1_partOf_9 : decode cX1_partOf 9 = .ok (.invokevirtual 61, 3) := by decide +kernel
theorem dX1_partOf_12 : decode cX1_partOf 12 = .ok (.aload_n 0, 1) := by decide +kernel
theorem dX1_partOf_13 : decode cX1_partOf 13 = .ok (.iload_n 2, 1) := by decide +kernel
theorem dX1_partOf_14 : decode cX1_partOf 14 = .ok (.iload_n 1, 1) := by decide +kernel
theorem dX1_partOf_15 : decode cX1_partOf 15 = .ok (.iconst 1, 1) := by decide +kernel
theorem dX1_partOf_16 : decode cX1_partOf 16 = .ok (.iadd, 1) := by decide +kernel
theorem dX1_partOf_17 : decode cX1_partOf 17 = .ok (.invokevirtual 61, 3) := by decide +kernel
theorem dX1_partOf_20 : decode cX1_partOf 20 = .ok (.iadd, 1) := by decide +kernel
theorem dX1_partOf_21 : decode cX1_partOf 21 = .ok (.imul, 1) := by decide +kernel
theorem dX1_partOf_22 : decode cX1_partOf 22 = .ok (.aload_n 0, 1) := by decide +kernel
theorem dX1_partOf_23 : decode cX1_partOf 23 = .ok (.getfield 25, 3) := by decide +kernel
theorem dX1_partOf_26 : decode cX1_partOf 26 = .ok (.bipush 8, 2) := by decide +kernel
theorem dX1_partOf_28 : decode cX1_partOf 28 = .ok (.idiv, 1) := by decide +kernel
theorem dX1_partOf_29 : decode cX1_partOf 29 = .ok (.aload_n 0, 1) := by decide +kernel
theorem dX1_partOf_30 : decode cX1_partOf 30 = .ok (.iload_n 2, 1) := by decide +kernel
theorem dX1_partOf_31 : decode cX1_partOf 31 = .ok (.iload_n 1, 1) := by decide +kernel
theorem dX1_partOf_32 : decode cX1_partOf 32 = .ok (.iconst 2, 1) := by decide +kernel
theorem dX1_partOf_33 : decode cX1_partOf 33 = .ok (.isub, 1) := by decide +kernel
theorem dX1_partOf_34 : decode cX1_partOf 34 = .ok (.invokevirtual 61, 3) := by decide +kernel
theorem dX1_partOf_37 : decode cX1_partOf 37 = .ok (.aload_n 0, 1) := by decide +kernel
theorem dX1_partOf_38 : decode cX1_partOf 38 = .ok (.iload_n 2, 1) := by decide +kernel
theorem dX1_partOf_39 : decode cX1_partOf 39 = .ok (.iload_n 1, 1) := by decide +kernel
theorem dX1_partOf_40 : decode cX1_partOf 40 = .ok (.iconst 2, 1) := by decide +kernel
theorem dX1_partOf_41 : decode cX1_partOf 41 = .ok (.iadd, 1) := by decide +kernel
theorem dX1_partOf_42 : decode cX1_partOf 42 = .ok (.invokevirtual 61, 3) := by decide +kernel
theorem dX1_partOf_45 : decode cX1_partOf 45 = .ok (.iadd, 1) := by decide +kernel
theorem dX1_partOf_46 : decode cX1_partOf 46 = .ok (.imul, 1) := by decide +kernel
theorem dX1_partOf_47 : decode cX1_partOf 47 = .ok (.iadd, 1) := by decide +kernel
theorem dX1_partOf_48 : decode cX1_partOf 48 = .ok (.aload_n 0, 1) := by decide +kernel
theorem dX1_partOf_49 : decode cX1_partOf 49 = .ok (.iload_n 2, 1) := by decide +kernel
theorem dX1_partOf_50 : decode cX1_partOf 50 = .ok (.invokevirtual 65, 3) := by decide +kernel
theorem dX1_partOf_53 : decode cX1_partOf 53 = .ok (.iadd, 1) := by decide +kernel
theorem dX1_partOf_54 : decode cX1_partOf 54 = .ok (.ireturn, 1) := by decide +kernel
theorem dX1_freedBy_0 : decode cX1_freedBy 0 = .ok (.aload_n 0, 1) := by decide +kernel
theorem dX1_freedBy_1 : decode cX1_freedBy 1 = .ok (.iload_n 1, 1) := by decide +kernel
theorem dX1_freedBy_2 : decode cX1_freedBy 2 = .ok (.aload_n 0, 1) := by decide +kernel
theorem dX1_freedBy_3 : decode cX1_freedBy 3 = .ok (.getfield 15, 3) := by decide +kernel
theorem dX1_freedBy_6 : decode cX1_freedBy 6 = .ok (.iload_n 1, 1) := by decide +kernel
theorem dX1_freedBy_7 : decode cX1_freedBy 7 = .ok (.iaload, 1) := by decide +kernel
theorem dX1_freedBy_8 : decode cX1_freedBy 8 = .ok (.invokevirtual 69, 3) := by decide +kernel
theorem dX1_freedBy_11 : decode cX1_freedBy 11 = .ok (.aload_n 0, 1) := by decide +kernel
theorem dX1_freedBy_12 : decode cX1_freedBy 12 = .ok (.iload_n 1, 1) := by decide +kernel
theorem dX1_freedBy_13 : decode cX1_freedBy 13 = .ok (.aload_n 0, 1) := by decide +kernel
theorem dX1_freedBy_14 : decode cX1_freedBy 14 = .ok (.getfield 15, 3) := by decide +kernel
theorem dX1_freedBy_17 : decode cX1_freedBy 17 = .ok (.iload_n 1, 1) := by decide +kernel
theorem dX1_freedBy_18 : decode cX1_freedBy 18 = .ok (.iaload, 1) := by decide +kernel
theorem dX1_freedBy_19 : decode cX1_freedBy 19 = .ok (.iload_n 2, 1) := by decide +kernel
theorem dX1_freedBy_20 : decode cX1_freedBy 20 = .ok (.iadd, 1) := by decide +kernel
theorem dX1_freedBy_21 : decode cX1_freedBy 21 = .ok (.invokevirtual 69, 3) := by decide +kernel
theorem dX1_freedBy_24 : decode cX1_freedBy 24 = .ok (.isub, 1) := by decide +kernel
theorem dX1_freedBy_25 : decode cX1_freedBy 25 = .ok (.ireturn, 1) := by decide +kernel
theorem dX1_pullOfNeighbors_0 : decode cX1_pullOfNeighbors 0 = .ok (.aload_n 0, 1) := by decide +kernel
theorem dX1_pullOfNeighbors_1 : decode cX1_pullOfNeighbors 1 = .ok (.getfield 25, 3) := by decide +kernel
theorem dX1_pullOfNeighbors_4 : decode cX1_pullOfNeighbors 4 = .ok (.aload_n 0, 1) := by decide +kernel
theorem dX1_pullOfNeighbors_5 : decode cX1_pullOfNeighbors 5 = .ok (.aload_n 0, 1) := by decide +kernel
theorem dX1_pullOfNeighbors_6 : decode cX1_pullOfNeighbors 6 = .ok (.getfield 15, 3) := by decide +kernel
theorem dX1_pullOfNeighbors_9 : decode cX1_pullOfNeighbors 9 = .ok (.iload_n 1, 1) := by decide +kernel
theorem dX1_pullOfNeighbors_10 : decode cX1_pullOfNeighbors 10 = .ok (.iaload, 1) := by decide +kernel
theorem dX1_pullOfNeighbors_11 : decode cX1_pullOfNeighbors 11 = .ok (.iload_n 1, 1) := by decide +kernel
theorem dX1_pullOfNeighbors_12 : decode cX1_pullOfNeighbors 12 = .ok (.iconst 1, 1) := by decide +kernel
theorem dX1_pullOfNeighbors_13 : decode cX1_pullOfNeighbors 13 = .ok (.isub, 1) := by decide +kernel
theorem dX1_pullOfNeighbors_14 : decode cX1_pullOfNeighbors 14 = .ok (.invokevirtual 61, 3) := by decide +kernel
theorem dX1_pullOfNeighbors_17 : decode cX1_pullOfNeighbors 17 = .ok (.aload_n 0, 1) := by decide +kernel
theorem dX1_pullOfNeighbors_18 : decode cX1_pullOfNeighbors 18 = .ok (.aload_n 0, 1) := by decide +kernel
theorem dX1_pullOfNeighbors_19 : decode cX1_pullOfNeighbors 19 = .ok (.getfield 15, 3) := by decide +kernel
theorem dX1_pullOfNeighbors_22 : decode cX1_pullOfNeighbors 22 = .ok (.iload_n 1, 1) := by decide +kernel
theorem dX1_pullOfNeighbors_23 : decode cX1_pullOfNeighbors 23 = .ok (.iaload, 1) := by decide +kernel
theorem dX1_pullOfNeighbors_24 : decode cX1_pullOfNeighbors 24 = .ok (.iload_n 1, 1) := by decide +kernel
theorem dX1_pullOfNeighbors_25 : decode cX1_pullOfNeighbors 25 = .ok (.iconst 1, 1) := by decide +kernel
theorem dX1_pullOfNeighbors_26 : decode cX1_pullOfNeighbors 26 = .ok (.iadd, 1) := by decide +kernel
theorem dX1_pullOfNeighbors_27 : decode cX1_pullOfNeighbors 27 = .ok (.invokevirtual 61, 3) := by decide +kernel
theorem dX1_pullOfNeighbors_30 : decode cX1_pullOfNeighbors 30 = .ok (.iadd, 1) := by decide +kernel
theorem dX1_pullOfNeighbors_31 : decode cX1_pullOfNeighbors 31 = .ok (.imul, 1) := by decide +kernel
theorem dX1_pullOfNeighbors_32 : decode cX1_pullOfNeighbors 32 = .ok (.ireturn, 1) := by decide +kernel
theorem dX1_pullOn_0 : decode cX1_pullOn 0 = .ok (.iload_n 2, 1) := by decide +kernel
theorem dX1_pullOn_1 : decode cX1_pullOn 1 = .ok (.ifCond .lt 24, 3) := by decide +kernel
theorem dX1_pullOn_4 : decode cX1_pullOn 4 = .ok (.iload_n 2, 1) := by decide +kernel
theorem dX1_pullOn_5 : decode cX1_pullOn 5 = .ok (.aload_n 0, 1) := by decide +kernel
theorem dX1_pullOn_6 : decode cX1_pullOn 6 = .ok (.getfield 9, 3) := by decide +kernel
theorem dX1_pullOn_9 : decode cX1_pullOn 9 = .ok (.if_icmp .ge 16, 3) := by decide +kernel
theorem dX1_pullOn_12 : decode cX1_pullOn 12 = .ok (.iload_n 1, 1) := by decide +kernel
theorem dX1_pullOn_13 : decode cX1_pullOn 13 = .ok (.aload_n 0, 1) := by decide +kernel
theorem dX1_pullOn_14 : decode cX1_pullOn 14 = .ok (.getfield 15, 3) := by decide +kernel
theorem dX1_pullOn_17 : decode cX1_pullOn 17 = .ok (.iload_n 2, 1) := by decide +kernel
theorem dX1_pullOn_18 : decode cX1_pullOn 18 = .ok (.iaload, 1) := by decide +kernel
theorem dX1_pullOn_19 : decode cX1_pullOn 19 = .ok (.invokestatic 72, 3) := by decide +kernel
theorem dX1_pullOn_22 : decode cX1_pullOn 22 = .ok (.goto 4, 3) := by decide +kernel
theorem dX1_pullOn_25 : decode cX1_pullOn 25 = .ok (.iconst 0, 1) := by decide +kernel
theorem dX1_pullOn_26 : decode cX1_pullOn 26 = .ok (.ireturn, 1) := by decide +kernel
theorem dX1_partOfField_0 : decode cX1_partOfField 0 = .ok (.aload_n 0, 1) := by decide +kernel
theorem dX1_partOfField_1 : decode cX1_partOfField 1 = .ok (.getfield 31, 3) := by decide +kernel
theorem dX1_partOfField_4 : decode cX1_partOfField 4 = .ok (.ineg, 1) := by decide +kernel
theorem dX1_partOfField_5 : decode cX1_partOfField 5 = .ok (.iload_n 1, 1) := by decide +kernel
theorem dX1_partOfField_6 : decode cX1_partOfField 6 = .ok (.aload_n 0, 1) := by decide +kernel
theorem dX1_partOfField_7 : decode cX1_partOfField 7 = .ok (.getfield 34, 3) := by decide +kernel
theorem dX1_partOfField_10 : decode cX1_partOfField 10 = .ok (.isub, 1) := by decide +kernel
theorem dX1_partOfField_11 : decode cX1_partOfField 11 = .ok (.invokestatic 75, 3) := by decide +kernel
theorem dX1_partOfField_14 : decode cX1_partOfField 14 = .ok (.imul, 1) := by decide +kernel
theorem dX1_partOfField_15 : decode cX1_partOfField 15 = .ok (.bipush 10, 2) := by decide +kernel
theorem dX1_partOfField_17 : decode cX1_partOfField 17 = .ok (.imul, 1) := by decide +kernel
theorem dX1_partOfField_18 : decode cX1_partOfField 18 = .ok (.ireturn, 1) := by decide +kernel
theorem dX1_settle_0 : decode cX1_settle 0 = .ok (.iconst 0, 1) := by decide +kernel
theorem dX1_settle_1 : decode cX1_settle 1 = .ok (.istore_n 2, 1) := by decide +kernel
theorem dX1_settle_2 : decode cX1_settle 2 = .ok (.iload_n 2, 1) := by decide +kernel
theorem dX1_settle_3 : decode cX1_settle 3 = .ok (.sipush 200, 3) := by decide +kernel
theorem dX1_settle_6 : decode cX1_settle 6 = .ok (.if_icmp .ge 19, 3) := by decide +kernel
theorem dX1_settle_9 : decode cX1_settle 9 = .ok (.aload_n 0, 1) := by decide +kernel
theorem dX1_settle_10 : decode cX1_settle 10 = .ok (.aload_n 1, 1) := by decide +kernel
theorem dX1_settle_11 : decode cX1_settle 11 = .ok (.invokevirtual 78, 3) := by decide +kernel
theorem dX1_settle_14 : decode cX1_settle 14 = .ok (.ifCond .ne 5, 3) := by decide +kernel
theorem dX1_settle_17 : decode cX1_settle 17 = .ok (.iload_n 2, 1) := by decide +kernel
theorem dX1_settle_18 : decode cX1_settle 18 = .ok (.ireturn, 1) := by decide +kernel
theorem dX1_settle_19 : decode cX1_settle 19 = .ok (.iinc 2 1, 3) := by decide +kernel
theorem dX1_settle_22 : decode cX1_settle 22 = .ok (.goto (-20), 3) := by decide +kernel
theorem dX1_settle_25 : decode cX1_settle 25 = .ok (.sipush 200, 3) := by decide +kernel
theorem dX1_settle_28 : decode cX1_settle 28 = .ok (.ireturn, 1) := by decide +kernel
theorem dX1_settleOnce_0 : decode cX1_settleOnce 0 = .ok (.iconst (-1), 1) := by decide +kernel
theorem dX1_settleOnce_1 : decode cX1_settleOnce 1 = .ok (.istore_n 2, 1) := by decide +kernel
theorem dX1_settleOnce_2 : decode cX1_settleOnce 2 = .ok (.iconst 0, 1) := by decide +kernel
theorem dX1_settleOnce_3 : decode cX1_settleOnce 3 = .ok (.istore_n 3, 1) := by decide +kernel
theorem dX1_settleOnce_4 : decode cX1_settleOnce 4 = .ok (.aload_n 0, 1) := by decide +kernel
theorem dX1_settleOnce_5 : decode cX1_settleOnce 5 = .ok (.getfield 28, 3) := by decide +kernel
theorem dX1_settleOnce_8 : decode cX1_settleOnce 8 = .ok (.istore 4, 2) := by decide +kernel
theorem dX1_settleOnce_10 : decode cX1_settleOnce 10 = .ok (.iconst 0, 1) := by decide +kernel
theorem dX1_settleOnce_11 : decode cX1_settleOnce 11 = .ok (.istore 5, 2) := by decide +kernel
theorem dX1_settleOnce_13 : decode cX1_settleOnce 13 = .ok (.iload 5, 2) := by decide +kernel
theorem dX1_settleOnce_15 : decode cX1_settleOnce 15 = .ok (.aload_n 0, 1) := by decide +kernel
theorem dX1_settleOnce_16 : decode cX1_settleOnce 16 = .ok (.getfield 9, 3) := by decide +kernel
theorem dX1_settleOnce_19 : decode cX1_settleOnce 19 = .ok (.if_icmp .ge 115, 3) := by decide +kernel
theorem dX1_settleOnce_22 : decode cX1_settleOnce 22 = .ok (.aload_n 0, 1) := by decide +kernel
theorem dX1_settleOnce_23 : decode cX1_settleOnce 23 = .ok (.getfield 19, 3) := by decide +kernel
theorem dX1_settleOnce_26 : decode cX1_settleOnce 26 = .ok (.iload 5, 2) := by decide +kernel
theorem dX1_settleOnce_28 : decode cX1_settleOnce 28 = .ok (.iaload, 1) := by decide +kernel
theorem dX1_settleOnce_29 : decode cX1_settleOnce 29 = .ok (.iconst 1, 1) := by decide +kernel
theorem dX1_settleOnce_30 : decode cX1_settleOnce 30 = .ok (.if_icmp .ne 6, 3) := by decide +kernel
theorem dX1_settleOnce_33 : decode cX1_settleOnce 33 = .ok (.goto 95, 3) := by decide +kernel
theorem dX1_settleOnce_36 : decode cX1_settleOnce 36 = .ok (.aload_n 0, 1) := by decide +kernel
theorem dX1_settleOnce_37 : decode cX1_settleOnce 37 = .ok (.iload 5, 2) := by decide +kernel
theorem dX1_settleOnce_39 : decode cX1_settleOnce 39 = .ok (.aload_n 0, 1) := by decide +kernel
theorem dX1_settleOnce_40 : decode cX1_settleOnce 40 = .ok (.getfield 15, 3) := by decide +kernel
theorem dX1_settleOnce_43 : decode cX1_settleOnce 43 = .ok (.iload 5, 2) := by decide +kernel
theorem dX1_settleOnce_45 : decode cX1_settleOnce 45 = .ok (.iaload, 1) := by decide +kernel
theorem dX1_settleOnce_46 : decode cX1_settleOnce 46 = .ok (.invokevirtual 69, 3) := by decide +kernel
theorem dX1_settleOnce_49 : decode cX1_settleOnce 49 = .ok (.istore 6, 2) := by decide +kernel
theorem dX1_settleOnce_51 : decode cX1_settleOnce 51 = .ok (.iload 6, 2) := by decide +kernel
theorem dX1_settleOnce_53 : decode cX1_settleOnce 53 = .ok (.aload_n 0, 1) := by decide +kernel
theorem dX1_settleOnce_54 : decode cX1_settleOnce 54 = .ok (.iload 5, 2) := by decide +kernel
theorem dX1_settleOnce_56 : decode cX1_settleOnce 56 = .ok (.aload_n 0, 1) := by decide +kernel
theorem dX1_settleOnce_57 : decode cX1_settleOnce 57 = .ok (.getfield 15, 3) := by decide +kernel
theorem dX1_settleOnce_60 : decode cX1_settleOnce 60 = .ok (.iload 5, 2) := by decide +kernel
theorem dX1_settleOnce_62 : decode cX1_settleOnce 62 = .ok (.iaload, 1) := by decide +kernel
theorem dX1_settleOnce_63 : decode cX1_settleOnce 63 = .ok (.iconst 1, 1) := by decide +kernel
theorem dX1_settleOnce_64 : decode cX1_settleOnce 64 = .ok (.iadd, 1) := by decide +kernel
theorem dX1_settleOnce_65 : decode cX1_settleOnce 65 = .ok (.invokevirtual 69, 3) := by decide +kernel
theorem dX1_settleOnce_68 : decode cX1_settleOnce 68 = .ok (.isub, 1) := by decide +kernel
theorem dX1_settleOnce_69 : decode cX1_settleOnce 69 = .ok (.istore 7, 2) := by decide +kernel
theorem dX1_settleOnce_71 : decode cX1_settleOnce 71 = .ok (.iload 6, 2) := by decide +kernel
theorem dX1_settleOnce_73 : decode cX1_settleOnce 73 = .ok (.aload_n 0, 1) := by decide +kernel
theorem dX1_settleOnce_74 : decode cX1_settleOnce 74 = .ok (.iload 5, 2) := by decide +kernel
theorem dX1_settleOnce_76 : decode cX1_settleOnce 76 = .ok (.aload_n 0, 1) := by decide +kernel
theorem dX1_settleOnce_77 : decode cX1_settleOnce 77 = .ok (.getfield 15, 3) := by decide +kernel
theorem dX1_settleOnce_80 : decode cX1_settleOnce 80 = .ok (.iload 5, 2) := by decide +kernel
theorem dX1_settleOnce_82 : decode cX1_settleOnce 82 = .ok (.iaload, 1) := by decide +kernel
theorem dX1_settleOnce_83 : decode cX1_settleOnce 83 = .ok (.iconst 1, 1) := by decide +kernel
theorem dX1_settleOnce_84 : decode cX1_settleOnce 84 = .ok (.isub, 1) := by decide +kernel
theorem dX1_settleOnce_85 : decode cX1_settleOnce 85 = .ok (.invokevirtual 69, 3) := by decide +kernel
theorem dX1_settleOnce_88 : decode cX1_settleOnce 88 = .ok (.isub, 1) := by decide +kernel
theorem dX1_settleOnce_89 : decode cX1_settleOnce 89 = .ok (.istore 8, 2) := by decide +kernel
theorem dX1_settleOnce_91 : decode cX1_settleOnce 91 = .ok (.iload 7, 2) := by decide +kernel
theorem dX1_settleOnce_93 : decode cX1_settleOnce 93 = .ok (.iload 8, 2) := by decide +kernel
theorem dX1_settleOnce_95 : decode cX1_settleOnce 95 = .ok (.invokestatic 82, 3) := by decide +kernel
theorem dX1_settleOnce_98 : decode cX1_settleOnce 98 = .ok (.iload 4, 2) := by decide +kernel
theorem dX1_settleOnce_100 : decode cX1_settleOnce 100 = .ok (.if_icmp .le 28, 3) := by decide +kernel
theorem dX1_settleOnce_103 : decode cX1_settleOnce 103 = .ok (.iload 5, 2) := by decide +kernel
theorem dX1_settleOnce_105 : decode cX1_settleOnce 105 = .ok (.istore_n 2, 1) := by decide +kernel
theorem dX1_settleOnce_106 : decode cX1_settleOnce 106 = .ok (.iload 7, 2) := by decide +kernel
theorem dX1_settleOnce_108 : decode cX1_settleOnce 108 = .ok (.iload 8, 2) := by decide +kernel
theorem dX1_settleOnce_110 : decode cX1_settleOnce 110 = .ok (.if_icmp .lt 7, 3) := by decide +kernel
theorem dX1_settleOnce_113 : decode cX1_settleOnce 113 = .ok (.iconst 1, 1) := by decide +kernel
theorem dX1_settleOnce_114 : decode cX1_settleOnce 114 = .ok (.goto 4, 3) := by decide +kernel
theorem dX1_settleOnce_117 : decode cX1_settleOnce 117 = .ok (.iconst (-1), 1) := by decide +kernel
theorem dX1_settleOnce_118 : decode cX1_settleOnce 118 = .ok (.istore_n 3, 1) := by decide +kernel
theorem dX1_settleOnce_119 : decode cX1_settleOnce 119 = .ok (.iload 7, 2) := by decide +kernel
theorem dX1_settleOnce_121 : decode cX1_settleOnce 121 = .ok (.iload 8, 2) := by decide +kernel
theorem dX1_settleOnce_123 : decode cX1_settleOnce 123 = .ok (.invokestatic 82, 3) := by decide +kernel
theorem dX1_settleOnce_126 : decode cX1_settleOnce 126 = .ok (.istore 4, 2) := by decide +kernel
theorem dX1_settleOnce_128 : decode cX1_settleOnce 128 = .ok (.iinc 5 1, 3) := by decide +kernel
theorem dX1_settleOnce_131 : decode cX1_settleOnce 131 = .ok (.goto (-118), 3) := by decide +kernel
theorem dX1_settleOnce_134 : decode cX1_settleOnce 134 = .ok (.iload_n 2, 1) := by decide +kernel
theorem dX1_settleOnce_135 : decode cX1_settleOnce 135 = .ok (.ifCond .ge 5, 3) := by decide +kernel
theorem dX1_settleOnce_138 : decode cX1_settleOnce 138 = .ok (.iconst 0, 1) := by decide +kernel
theorem dX1_settleOnce_139 : decode cX1_settleOnce 139 = .ok (.ireturn, 1) := by decide +kernel
theorem dX1_settleOnce_140 : decode cX1_settleOnce 140 = .ok (.aload_n 0, 1) := by decide +kernel
theorem dX1_settleOnce_141 : decode cX1_settleOnce 141 = .ok (.iload_n 2, 1) := by decide +kernel
theorem dX1_settleOnce_142 : decode cX1_settleOnce 142 = .ok (.iload_n 3, 1) := by decide +kernel
theorem dX1_settleOnce_143 : decode cX1_settleOnce 143 = .ok (.invokevirtual 87, 3) := by decide +kernel
theorem dX1_settleOnce_146 : decode cX1_settleOnce 146 = .ok (.aload_n 1, 1) := by decide +kernel
theorem dX1_settleOnce_147 : decode cX1_settleOnce 147 = .ok (.ifnull 11, 3) := by decide +kernel
theorem dX1_settleOnce_150 : decode cX1_settleOnce 150 = .ok (.aload_n 1, 1) := by decide +kernel
theorem dX1_settleOnce_151 : decode cX1_settleOnce 151 = .ok (.iload_n 2, 1) := by decide +kernel
theorem dX1_settleOnce_152 : decode cX1_settleOnce 152 = .ok (.iload_n 3, 1) := by decide +kernel
theorem dX1_settleOnce_153 : decode cX1_settleOnce 153 = .ok (.iload 4, 2) := by decide +kernel
theorem dX1_settleOnce_155 : decode cX1_settleOnce 155 = .ok (.invokevirtual 91, 3) := by decide +kernel
theorem dX1_settleOnce_158 : decode cX1_settleOnce 158 = .ok (.iconst 1, 1) := by decide +kernel
theorem dX1_settleOnce_159 : decode cX1_settleOnce 159 = .ok (.ireturn, 1) := by decide +kernel
theorem dX1_pointsTo_0 : decode cX1_pointsTo 0 = .ok (.iconst 0, 1) := by decide +kernel
theorem dX1_pointsTo_1 : decode cX1_pointsTo 1 = .ok (.istore_n 2, 1) := by decide +kernel
theorem dX1_pointsTo_2 : decode cX1_pointsTo 2 = .ok (.iconst 0, 1) := by decide +kernel
theorem dX1_pointsTo_3 : decode cX1_pointsTo 3 = .ok (.istore_n 3, 1) := by decide +kernel
theorem dX1_pointsTo_4 : decode cX1_pointsTo 4 = .ok (.iload_n 3, 1) := by decide +kernel
theorem dX1_pointsTo_5 : decode cX1_pointsTo 5 = .ok (.aload_n 0, 1) := by decide +kernel
theorem dX1_pointsTo_6 : decode cX1_pointsTo 6 = .ok (.getfield 9, 3) := by decide +kernel
theorem dX1_pointsTo_9 : decode cX1_pointsTo 9 = .ok (.if_icmp .ge 23, 3) := by decide +kernel
theorem dX1_pointsTo_12 : decode cX1_pointsTo 12 = .ok (.iload_n 2, 1) := by decide +kernel
theorem dX1_pointsTo_13 : decode cX1_pointsTo 13 = .ok (.aload_n 0, 1) := by decide +kernel
theorem dX1_pointsTo_14 : decode cX1_pointsTo 14 = .ok (.getfield 15, 3) := by decide +kernel
theorem dX1_pointsTo_17 : decode cX1_pointsTo 17 = .ok (.iload_n 3, 1) := by decide +kernel
theorem dX1_pointsTo_18 : decode cX1_pointsTo 18 = .ok (.iaload, 1) := by decide +kernel
theorem dX1_pointsTo_19 : decode cX1_pointsTo 19 = .ok (.iload_n 1, 1) := by decide +kernel
theorem dX1_pointsTo_20 : decode cX1_pointsTo 20 = .ok (.isub, 1) := by decide +kernel
theorem dX1_pointsTo_21 : decode cX1_pointsTo 21 = .ok (.invokestatic 75, 3) := by decide +kernel
theorem dX1_pointsTo_24 : decode cX1_pointsTo 24 = .ok (.iadd, 1) := by decide +kernel
theorem dX1_pointsTo_25 : decode cX1_pointsTo 25 = .ok (.istore_n 2, 1) := by decide +kernel
theorem dX1_pointsTo_26 : decode cX1_pointsTo 26 = .ok (.iinc 3 1, 3) := by decide +kernel
theorem dX1_pointsTo_29 : decode cX1_pointsTo 29 = .ok (.goto (-25), 3) := by decide +kernel
theorem dX1_pointsTo_32 : decode cX1_pointsTo 32 = .ok (.iload_n 2, 1) := by decide +kernel
theorem dX1_pointsTo_33 : decode cX1_pointsTo 33 = .ok (.ireturn, 1) := by decide +kernel
theorem dX1_walls_0 : decode cX1_walls 0 = .ok (.iconst 0, 1) := by decide +kernel
theorem dX1_walls_1 : decode cX1_walls 1 = .ok (.istore_n 1, 1) := by decide +kernel
theorem dX1_walls_2 : decode cX1_walls 2 = .ok (.iconst 1, 1) := by decide +kernel
theorem dX1_walls_3 : decode cX1_walls 3 = .ok (.istore_n 2, 1) := by decide +kernel
end
section
theorem dX1_walls_4 : decode cX1_walls 4 = .ok (.iload_n 2, 1) := by decide +kernel
theorem dX1_walls_5 : decode cX1_walls 5 = .ok (.aload_n 0, 1) := by decide +kernel
theorem dX1_walls_6 : decode cX1_walls 6 = .ok (.getfield 9, 3) := by decide +kernel
theorem dX1_walls_9 : decode cX1_walls 9 = .ok (.if_icmp .ge 34, 3) := by decide +kernel
theorem dX1_walls_12 : decode cX1_walls 12 = .ok (.iload_n 1, 1) := by decide +kernel
theorem dX1_walls_13 : decode cX1_walls 13 = .ok (.aload_n 0, 1) := by decide +kernel
theorem dX1_walls_14 : decode cX1_walls 14 = .ok (.getfield 15, 3) := by decide +kernel
theorem dX1_walls_17 : decode cX1_walls 17 = .ok (.iload_n 2, 1) := by decide +kernel
theorem dX1_walls_18 : decode cX1_walls 18 = .ok (.iconst 1, 1) := by decide +kernel
theorem dX1_walls_19 : decode cX1_walls 19 = .ok (.isub, 1) := by decide +kernel
theorem dX1_walls_20 : decode cX1_walls 20 = .ok (.iaload, 1) := by decide +kernel
theorem dX1_walls_21 : decode cX1_walls 21 = .ok (.aload_n 0, 1) := by decide +kernel
theorem dX1_walls_22 : decode cX1_walls 22 = .ok (.getfield 15, 3) := by decide +kernel
theorem dX1_walls_25 : decode cX1_walls 25 = .ok (.iload_n 2, 1) := by decide +kernel
theorem dX1_walls_26 : decode cX1_walls 26 = .ok (.iaload, 1) := by decide +kernel
theorem dX1_walls_27 : decode cX1_walls 27 = .ok (.if_icmp .eq 7, 3) := by decide +kernel
theorem dX1_walls_30 : decode cX1_walls 30 = .ok (.iconst 1, 1) := by decide +kernel
theorem dX1_walls_31 : decode cX1_walls 31 = .ok (.goto 4, 3) := by decide +kernel
theorem dX1_walls_34 : decode cX1_walls 34 = .ok (.iconst 0, 1) := by decide +kernel
theorem dX1_walls_35 : decode cX1_walls 35 = .ok (.iadd, 1) := by decide +kernel
theorem dX1_walls_36 : decode cX1_walls 36 = .ok (.istore_n 1, 1) := by decide +kernel
theorem dX1_walls_37 : decode cX1_walls 37 = .ok (.iinc 2 1, 3) := by decide +kernel
theorem dX1_walls_40 : decode cX1_walls 40 = .ok (.goto (-36), 3) := by decide +kernel
theorem dX1_walls_43 : decode cX1_walls 43 = .ok (.iload_n 1, 1) := by decide +kernel
theorem dX1_walls_44 : decode cX1_walls 44 = .ok (.ireturn, 1) := by decide +kernel
theorem dX1_goalsMissed_0 : decode cX1_goalsMissed 0 = .ok (.iconst 0, 1) := by decide +kernel
theorem dX1_goalsMissed_1 : decode cX1_goalsMissed 1 = .ok (.istore_n 1, 1) := by decide +kernel
theorem dX1_goalsMissed_2 : decode cX1_goalsMissed 2 = .ok (.iconst 0, 1) := by decide +kernel
theorem dX1_goalsMissed_3 : decode cX1_goalsMissed 3 = .ok (.istore_n 2, 1) := by decide +kernel
theorem dX1_goalsMissed_4 : decode cX1_goalsMissed 4 = .ok (.iload_n 2, 1) := by decide +kernel
theorem dX1_goalsMissed_5 : decode cX1_goalsMissed 5 = .ok (.aload_n 0, 1) := by decide +kernel
theorem dX1_goalsMissed_6 : decode cX1_goalsMissed 6 = .ok (.getfield 9, 3) := by decide +kernel
theorem dX1_goalsMissed_9 : decode cX1_goalsMissed 9 = .ok (.if_icmp .ge 43, 3) := by decide +kernel
theorem dX1_goalsMissed_12 : decode cX1_goalsMissed 12 = .ok (.iload_n 1, 1) := by decide +kernel
theorem dX1_goalsMissed_13 : decode cX1_goalsMissed 13 = .ok (.aload_n 0, 1) := by decide +kernel
theorem dX1_goalsMissed_14 : decode cX1_goalsMissed 14 = .ok (.getfield 22, 3) := by decide +kernel
theorem dX1_goalsMissed_17 : decode cX1_goalsMissed 17 = .ok (.iload_n 2, 1) := by decide +kernel
theorem dX1_goalsMissed_18 : decode cX1_goalsMissed 18 = .ok (.iaload, 1) := by decide +kernel
theorem dX1_goalsMissed_19 : decode cX1_goalsMissed 19 = .ok (.ldc 37, 2) := by decide +kernel
theorem dX1_goalsMissed_21 : decode cX1_goalsMissed 21 = .ok (.if_icmp .eq 22, 3) := by decide +kernel
theorem dX1_goalsMissed_24 : decode cX1_goalsMissed 24 = .ok (.aload_n 0, 1) := by decide +kernel
theorem dX1_goalsMissed_25 : decode cX1_goalsMissed 25 = .ok (.getfield 22, 3) := by decide +kernel
theorem dX1_goalsMissed_28 : decode cX1_goalsMissed 28 = .ok (.iload_n 2, 1) := by decide +kernel
theorem dX1_goalsMissed_29 : decode cX1_goalsMissed 29 = .ok (.iaload, 1) := by decide +kernel
theorem dX1_goalsMissed_30 : decode cX1_goalsMissed 30 = .ok (.aload_n 0, 1) := by decide +kernel
theorem dX1_goalsMissed_31 : decode cX1_goalsMissed 31 = .ok (.getfield 15, 3) := by decide +kernel
theorem dX1_goalsMissed_34 : decode cX1_goalsMissed 34 = .ok (.iload_n 2, 1) := by decide +kernel
theorem dX1_goalsMissed_35 : decode cX1_goalsMissed 35 = .ok (.iaload, 1) := by decide +kernel
theorem dX1_goalsMissed_36 : decode cX1_goalsMissed 36 = .ok (.if_icmp .eq 7, 3) := by decide +kernel
theorem dX1_goalsMissed_39 : decode cX1_goalsMissed 39 = .ok (.iconst 1, 1) := by decide +kernel
theorem dX1_goalsMissed_40 : decode cX1_goalsMissed 40 = .ok (.goto 4, 3) := by decide +kernel
theorem dX1_goalsMissed_43 : decode cX1_goalsMissed 43 = .ok (.iconst 0, 1) := by decide +kernel
theorem dX1_goalsMissed_44 : decode cX1_goalsMissed 44 = .ok (.iadd, 1) := by decide +kernel
theorem dX1_goalsMissed_45 : decode cX1_goalsMissed 45 = .ok (.istore_n 1, 1) := by decide +kernel
theorem dX1_goalsMissed_46 : decode cX1_goalsMissed 46 = .ok (.iinc 2 1, 3) := by decide +kernel
theorem dX1_goalsMissed_49 : decode cX1_goalsMissed 49 = .ok (.goto (-45), 3) := by decide +kernel
theorem dX1_goalsMissed_52 : decode cX1_goalsMissed 52 = .ok (.iload_n 1, 1) := by decide +kernel
theorem dX1_goalsMissed_53 : decode cX1_goalsMissed 53 = .ok (.ireturn, 1) := by decide +kernel
theorem dX1_heldOnes_0 : decode cX1_heldOnes 0 = .ok (.iconst 0, 1) := by decide +kernel
theorem dX1_heldOnes_1 : decode cX1_heldOnes 1 = .ok (.istore_n 1, 1) := by decide +kernel
theorem dX1_heldOnes_2 : decode cX1_heldOnes 2 = .ok (.iconst 0, 1) := by decide +kernel
theorem dX1_heldOnes_3 : decode cX1_heldOnes 3 = .ok (.istore_n 2, 1) := by decide +kernel
theorem dX1_heldOnes_4 : decode cX1_heldOnes 4 = .ok (.iload_n 2, 1) := by decide +kernel
theorem dX1_heldOnes_5 : decode cX1_heldOnes 5 = .ok (.aload_n 0, 1) := by decide +kernel
theorem dX1_heldOnes_6 : decode cX1_heldOnes 6 = .ok (.getfield 9, 3) := by decide +kernel
theorem dX1_heldOnes_9 : decode cX1_heldOnes 9 = .ok (.if_icmp .ge 18, 3) := by decide +kernel
theorem dX1_heldOnes_12 : decode cX1_heldOnes 12 = .ok (.iload_n 1, 1) := by decide +kernel
theorem dX1_heldOnes_13 : decode cX1_heldOnes 13 = .ok (.aload_n 0, 1) := by decide +kernel
theorem dX1_heldOnes_14 : decode cX1_heldOnes 14 = .ok (.getfield 19, 3) := by decide +kernel
theorem dX1_heldOnes_17 : decode cX1_heldOnes 17 = .ok (.iload_n 2, 1) := by decide +kernel
theorem dX1_heldOnes_18 : decode cX1_heldOnes 18 = .ok (.iaload, 1) := by decide +kernel
theorem dX1_heldOnes_19 : decode cX1_heldOnes 19 = .ok (.iadd, 1) := by decide +kernel
theorem dX1_heldOnes_20 : decode cX1_heldOnes 20 = .ok (.istore_n 1, 1) := by decide +kernel
theorem dX1_heldOnes_21 : decode cX1_heldOnes 21 = .ok (.iinc 2 1, 3) := by decide +kernel
theorem dX1_heldOnes_24 : decode cX1_heldOnes 24 = .ok (.goto (-20), 3) := by decide +kernel
theorem dX1_heldOnes_27 : decode cX1_heldOnes 27 = .ok (.iload_n 1, 1) := by decide +kernel
theorem dX1_heldOnes_28 : decode cX1_heldOnes 28 = .ok (.ireturn, 1) := by decide +kernel
theorem dX1_differencesFrom_0 : decode cX1_differencesFrom 0 = .ok (.iconst 0, 1) := by decide +kernel
theorem dX1_differencesFrom_1 : decode cX1_differencesFrom 1 = .ok (.istore_n 2, 1) := by decide +kernel
theorem dX1_differencesFrom_2 : decode cX1_differencesFrom 2 = .ok (.iconst 0, 1) := by decide +kernel
theorem dX1_differencesFrom_3 : decode cX1_differencesFrom 3 = .ok (.istore_n 3, 1) := by decide +kernel
theorem dX1_differencesFrom_4 : decode cX1_differencesFrom 4 = .ok (.iload_n 3, 1) := by decide +kernel
theorem dX1_differencesFrom_5 : decode cX1_differencesFrom 5 = .ok (.aload_n 0, 1) := by decide +kernel
theorem dX1_differencesFrom_6 : decode cX1_differencesFrom 6 = .ok (.getfield 9, 3) := by decide +kernel
theorem dX1_differencesFrom_9 : decode cX1_differencesFrom 9 = .ok (.if_icmp .ge 32, 3) := by decide +kernel
theorem dX1_differencesFrom_12 : decode cX1_differencesFrom 12 = .ok (.iload_n 2, 1) := by decide +kernel
theorem dX1_differencesFrom_13 : decode cX1_differencesFrom 13 = .ok (.aload_n 0, 1) := by decide +kernel
theorem dX1_differencesFrom_14 : decode cX1_differencesFrom 14 = .ok (.getfield 15, 3) := by decide +kernel
theorem dX1_differencesFrom_17 : decode cX1_differencesFrom 17 = .ok (.iload_n 3, 1) := by decide +kernel
theorem dX1_differencesFrom_18 : decode cX1_differencesFrom 18 = .ok (.iaload, 1) := by decide +kernel
theorem dX1_differencesFrom_19 : decode cX1_differencesFrom 19 = .ok (.aload_n 1, 1) := by decide +kernel
theorem dX1_differencesFrom_20 : decode cX1_differencesFrom 20 = .ok (.getfield 15, 3) := by decide +kernel
theorem dX1_differencesFrom_23 : decode cX1_differencesFrom 23 = .ok (.iload_n 3, 1) := by decide +kernel
theorem dX1_differencesFrom_24 : decode cX1_differencesFrom 24 = .ok (.iaload, 1) := by decide +kernel
theorem dX1_differencesFrom_25 : decode cX1_differencesFrom 25 = .ok (.if_icmp .eq 7, 3) := by decide +kernel
theorem dX1_differencesFrom_28 : decode cX1_differencesFrom 28 = .ok (.iconst 1, 1) := by decide +kernel
theorem dX1_differencesFrom_29 : decode cX1_differencesFrom 29 = .ok (.goto 4, 3) := by decide +kernel
theorem dX1_differencesFrom_32 : decode cX1_differencesFrom 32 = .ok (.iconst 0, 1) := by decide +kernel
theorem dX1_differencesFrom_33 : decode cX1_differencesFrom 33 = .ok (.iadd, 1) := by decide +kernel
theorem dX1_differencesFrom_34 : decode cX1_differencesFrom 34 = .ok (.istore_n 2, 1) := by decide +kernel
theorem dX1_differencesFrom_35 : decode cX1_differencesFrom 35 = .ok (.iinc 3 1, 3) := by decide +kernel
theorem dX1_differencesFrom_38 : decode cX1_differencesFrom 38 = .ok (.goto (-34), 3) := by decide +kernel
theorem dX1_differencesFrom_41 : decode cX1_differencesFrom 41 = .ok (.iload_n 2, 1) := by decide +kernel
theorem dX1_differencesFrom_42 : decode cX1_differencesFrom 42 = .ok (.ireturn, 1) := by decide +kernel
theorem dX2_init_0 : decode cX2_init 0 = .ok (.aload_n 0, 1) := by decide +kernel
theorem dX2_init_1 : decode cX2_init 1 = .ok (.invokespecial 1, 3) := by decide +kernel
theorem dX2_init_4 : decode cX2_init 4 = .ok (.aload_n 0, 1) := by decide +kernel
theorem dX2_init_5 : decode cX2_init 5 = .ok (.new 7, 3) := by decide +kernel
theorem dX2_init_8 : decode cX2_init 8 = .ok (.dup, 1) := by decide +kernel
theorem dX2_init_9 : decode cX2_init 9 = .ok (.invokespecial 9, 3) := by decide +kernel
theorem dX2_init_12 : decode cX2_init 12 = .ok (.putfield 10, 3) := by decide +kernel
theorem dX2_init_15 : decode cX2_init 15 = .ok (.aload_n 0, 1) := by decide +kernel
theorem dX2_init_16 : decode cX2_init 16 = .ok (.new 16, 3) := by decide +kernel
theorem dX2_init_19 : decode cX2_init 19 = .ok (.dup, 1) := by decide +kernel
theorem dX2_init_20 : decode cX2_init 20 = .ok (.invokespecial 18, 3) := by decide +kernel
theorem dX2_init_23 : decode cX2_init 23 = .ok (.putfield 19, 3) := by decide +kernel
theorem dX2_init_26 : decode cX2_init 26 = .ok (.return_, 1) := by decide +kernel
theorem dX2_takeFrom_0 : decode cX2_takeFrom 0 = .ok (.aload_n 0, 1) := by decide +kernel
theorem dX2_takeFrom_1 : decode cX2_takeFrom 1 = .ok (.getfield 10, 3) := by decide +kernel
theorem dX2_takeFrom_4 : decode cX2_takeFrom 4 = .ok (.aload_n 1, 1) := by decide +kernel
theorem dX2_takeFrom_5 : decode cX2_takeFrom 5 = .ok (.getfield 10, 3) := by decide +kernel
theorem dX2_takeFrom_8 : decode cX2_takeFrom 8 = .ok (.invokevirtual 23, 3) := by decide +kernel
theorem dX2_takeFrom_11 : decode cX2_takeFrom 11 = .ok (.aload_n 0, 1) := by decide +kernel
theorem dX2_takeFrom_12 : decode cX2_takeFrom 12 = .ok (.getfield 19, 3) := by decide +kernel
theorem dX2_takeFrom_15 : decode cX2_takeFrom 15 = .ok (.aload_n 1, 1) := by decide +kernel
theorem dX2_takeFrom_16 : decode cX2_takeFrom 16 = .ok (.getfield 19, 3) := by decide +kernel
theorem dX2_takeFrom_19 : decode cX2_takeFrom 19 = .ok (.invokevirtual 27, 3) := by decide +kernel
theorem dX2_takeFrom_22 : decode cX2_takeFrom 22 = .ok (.return_, 1) := by decide +kernel
theorem dX3_init_0 : decode cX3_init 0 = .ok (.aload_n 0, 1) := by decide +kernel
theorem dX3_init_1 : decode cX3_init 1 = .ok (.invokespecial 3, 3) := by decide +kernel
theorem dX3_init_4 : decode cX3_init 4 = .ok (.aload_n 0, 1) := by decide +kernel
theorem dX3_init_5 : decode cX3_init 5 = .ok (.bipush 40, 2) := by decide +kernel
theorem dX3_init_7 : decode cX3_init 7 = .ok (.newarray .int, 2) := by decide +kernel
theorem dX3_init_9 : decode cX3_init 9 = .ok (.putfield 9, 3) := by decide +kernel
theorem dX3_init_12 : decode cX3_init 12 = .ok (.aload_n 0, 1) := by decide +kernel
theorem dX3_init_13 : decode cX3_init 13 = .ok (.iconst 0, 1) := by decide +kernel
theorem dX3_init_14 : decode cX3_init 14 = .ok (.putfield 15, 3) := by decide +kernel
theorem dX3_init_17 : decode cX3_init 17 = .ok (.aload_n 0, 1) := by decide +kernel
theorem dX3_init_18 : decode cX3_init 18 = .ok (.ldc 19, 2) := by decide +kernel
theorem dX3_init_20 : decode cX3_init 20 = .ok (.putfield 20, 3) := by decide +kernel
theorem dX3_init_23 : decode cX3_init 23 = .ok (.aload_n 0, 1) := by decide +kernel
theorem dX3_init_24 : decode cX3_init 24 = .ok (.ldc 19, 2) := by decide +kernel
theorem dX3_init_26 : decode cX3_init 26 = .ok (.putfield 23, 3) := by decide +kernel
theorem dX3_init_29 : decode cX3_init 29 = .ok (.return_, 1) := by decide +kernel
theorem dX3_append_0 : decode cX3_append 0 = .ok (.aload_n 0, 1) := by decide +kernel
theorem dX3_append_1 : decode cX3_append 1 = .ok (.getfield 15, 3) := by decide +kernel
theorem dX3_append_4 : decode cX3_append 4 = .ok (.bipush 40, 2) := by decide +kernel
theorem dX3_append_6 : decode cX3_append 6 = .ok (.if_icmp .lt 5, 3) := by decide +kernel
theorem dX3_append_9 : decode cX3_append 9 = .ok (.iconst 0, 1) := by decide +kernel
theorem dX3_append_10 : decode cX3_append 10 = .ok (.ireturn, 1) := by decide +kernel
theorem dX3_append_11 : decode cX3_append 11 = .ok (.aload_n 0, 1) := by decide +kernel
theorem dX3_append_12 : decode cX3_append 12 = .ok (.getfield 9, 3) := by decide +kernel
theorem dX3_append_15 : decode cX3_append 15 = .ok (.aload_n 0, 1) := by decide +kernel
theorem dX3_append_16 : decode cX3_append 16 = .ok (.getfield 15, 3) := by decide +kernel
theorem dX3_append_19 : decode cX3_append 19 = .ok (.iload_n 1, 1) := by decide +kernel
theorem dX3_append_20 : decode cX3_append 20 = .ok (.iastore, 1) := by decide +kernel
theorem dX3_append_21 : decode cX3_append 21 = .ok (.aload_n 0, 1) := by decide +kernel
theorem dX3_append_22 : decode cX3_append 22 = .ok (.dup, 1) := by decide +kernel
theorem dX3_append_23 : decode cX3_append 23 = .ok (.getfield 15, 3) := by decide +kernel
theorem dX3_append_26 : decode cX3_append 26 = .ok (.iconst 1, 1) := by decide +kernel
theorem dX3_append_27 : decode cX3_append 27 = .ok (.iadd, 1) := by decide +kernel
theorem dX3_append_28 : decode cX3_append 28 = .ok (.putfield 15, 3) := by decide +kernel
theorem dX3_append_31 : decode cX3_append 31 = .ok (.iconst 1, 1) := by decide +kernel
theorem dX3_append_32 : decode cX3_append 32 = .ok (.ireturn, 1) := by decide +kernel
theorem dX3_readInto_0 : decode cX3_readInto 0 = .ok (.iconst 0, 1) := by decide +kernel
theorem dX3_readInto_1 : decode cX3_readInto 1 = .ok (.istore_n 2, 1) := by decide +kernel
theorem dX3_readInto_2 : decode cX3_readInto 2 = .ok (.aload_n 1, 1) := by decide +kernel
theorem dX3_readInto_3 : decode cX3_readInto 3 = .ok (.iconst 0, 1) := by decide +kernel
theorem dX3_readInto_4 : decode cX3_readInto 4 = .ok (.putfield 26, 3) := by decide +kernel
theorem dX3_readInto_7 : decode cX3_readInto 7 = .ok (.iconst 0, 1) := by decide +kernel
theorem dX3_readInto_8 : decode cX3_readInto 8 = .ok (.istore_n 3, 1) := by decide +kernel
theorem dX3_readInto_9 : decode cX3_readInto 9 = .ok (.iload_n 3, 1) := by decide +kernel
theorem dX3_readInto_10 : decode cX3_readInto 10 = .ok (.aload_n 0, 1) := by decide +kernel
theorem dX3_readInto_11 : decode cX3_readInto 11 = .ok (.getfield 15, 3) := by decide +kernel
theorem dX3_readInto_14 : decode cX3_readInto 14 = .ok (.if_icmp .ge 115, 3) := by decide +kernel
theorem dX3_readInto_17 : decode cX3_readInto 17 = .ok (.aload_n 0, 1) := by decide +kernel
theorem dX3_readInto_18 : decode cX3_readInto 18 = .ok (.getfield 9, 3) := by decide +kernel
theorem dX3_readInto_21 : decode cX3_readInto 21 = .ok (.iload_n 3, 1) := by decide +kernel
theorem dX3_readInto_22 : decode cX3_readInto 22 = .ok (.iaload, 1) := by decide +kernel
theorem dX3_readInto_23 : decode cX3_readInto 23 = .ok (.istore 4, 2) := by decide +kernel
theorem dX3_readInto_25 : decode cX3_readInto 25 = .ok (.iload 4, 2) := by decide +kernel
theorem dX3_readInto_27 : decode cX3_readInto 27 = .ok (.bipush 48, 2) := by decide +kernel
theorem dX3_readInto_29 : decode cX3_readInto 29 = .ok (.bipush 55, 2) := by decide +kernel
theorem dX3_readInto_31 : decode cX3_readInto 31 = .ok (.invokestatic 31, 3) := by decide +kernel
theorem dX3_readInto_34 : decode cX3_readInto 34 = .ok (.istore 5, 2) := by decide +kernel
theorem dX3_readInto_36 : decode cX3_readInto 36 = .ok (.iload 5, 2) := by decide +kernel
theorem dX3_readInto_38 : decode cX3_readInto 38 = .ok (.ifCond .eq 35, 3) := by decide +kernel
theorem dX3_readInto_41 : decode cX3_readInto 41 = .ok (.aload_n 1, 1) := by decide +kernel
theorem dX3_readInto_42 : decode cX3_readInto 42 = .ok (.getfield 26, 3) := by decide +kernel
theorem dX3_readInto_45 : decode cX3_readInto 45 = .ok (.bipush 10, 2) := by decide +kernel
theorem dX3_readInto_47 : decode cX3_readInto 47 = .ok (.if_icmp .lt 10, 3) := by decide +kernel
theorem dX3_readInto_50 : decode cX3_readInto 50 = .ok (.aload_n 0, 1) := by decide +kernel
theorem dX3_readInto_51 : decode cX3_readInto 51 = .ok (.iconst 2, 1) := by decide +kernel
theorem dX3_readInto_52 : decode cX3_readInto 52 = .ok (.iload_n 3, 1) := by decide +kernel
theorem dX3_readInto_53 : decode cX3_readInto 53 = .ok (.invokevirtual 35, 3) := by decide +kernel
theorem dX3_readInto_56 : decode cX3_readInto 56 = .ok (.ireturn, 1) := by decide +kernel
theorem dX3_readInto_57 : decode cX3_readInto 57 = .ok (.aload_n 1, 1) := by decide +kernel
theorem dX3_readInto_58 : decode cX3_readInto 58 = .ok (.aload_n 1, 1) := by decide +kernel
theorem dX3_readInto_59 : decode cX3_readInto 59 = .ok (.getfield 26, 3) := by decide +kernel
theorem dX3_readInto_62 : decode cX3_readInto 62 = .ok (.iload 4, 2) := by decide +kernel
theorem dX3_readInto_64 : decode cX3_readInto 64 = .ok (.bipush 48, 2) := by decide +kernel
theorem dX3_readInto_66 : decode cX3_readInto 66 = .ok (.isub, 1) := by decide +kernel
theorem dX3_readInto_67 : decode cX3_readInto 67 = .ok (.invokevirtual 39, 3) := by decide +kernel
theorem dX3_readInto_70 : decode cX3_readInto 70 = .ok (.goto 50, 3) := by decide +kernel
theorem dX3_readInto_73 : decode cX3_readInto 73 = .ok (.iload 4, 2) := by decide +kernel
theorem dX3_readInto_75 : decode cX3_readInto 75 = .ok (.bipush 33, 2) := by decide +kernel
theorem dX3_readInto_77 : decode cX3_readInto 77 = .ok (.if_icmp .ne 29, 3) := by decide +kernel
theorem dX3_readInto_80 : decode cX3_readInto 80 = .ok (.iload_n 2, 1) := by decide +kernel
theorem dX3_readInto_81 : decode cX3_readInto 81 = .ok (.ifCond .eq 25, 3) := by decide +kernel
theorem dX3_readInto_84 : decode cX3_readInto 84 = .ok (.aload_n 1, 1) := by decide +kernel
theorem dX3_readInto_85 : decode cX3_readInto 85 = .ok (.getfield 26, 3) := by decide +kernel
theorem dX3_readInto_88 : decode cX3_readInto 88 = .ok (.ifCond .le 18, 3) := by decide +kernel
theorem dX3_readInto_91 : decode cX3_readInto 91 = .ok (.aload_n 1, 1) := by decide +kernel
theorem dX3_readInto_92 : decode cX3_readInto 92 = .ok (.getfield 43, 3) := by decide +kernel
theorem dX3_readInto_95 : decode cX3_readInto 95 = .ok (.aload_n 1, 1) := by decide +kernel
theorem dX3_readInto_96 : decode cX3_readInto 96 = .ok (.getfield 26, 3) := by decide +kernel
theorem dX3_readInto_99 : decode cX3_readInto 99 = .ok (.iconst 1, 1) := by decide +kernel
theorem dX3_readInto_100 : decode cX3_readInto 100 = .ok (.isub, 1) := by decide +kernel
theorem dX3_readInto_101 : decode cX3_readInto 101 = .ok (.iconst 1, 1) := by decide +kernel
theorem dX3_readInto_102 : decode cX3_readInto 102 = .ok (.iastore, 1) := by decide +kernel
theorem dX3_readInto_103 : decode cX3_readInto 103 = .ok (.goto 17, 3) := by decide +kernel
theorem dX3_readInto_106 : decode cX3_readInto 106 = .ok (.iload 4, 2) := by decide +kernel
theorem dX3_readInto_108 : decode cX3_readInto 108 = .ok (.bipush 32, 2) := by decide +kernel
theorem dX3_readInto_110 : decode cX3_readInto 110 = .ok (.if_icmp .eq 10, 3) := by decide +kernel
theorem dX3_readInto_113 : decode cX3_readInto 113 = .ok (.aload_n 0, 1) := by decide +kernel
theorem dX3_readInto_114 : decode cX3_readInto 114 = .ok (.iconst 1, 1) := by decide +kernel
theorem dX3_readInto_115 : decode cX3_readInto 115 = .ok (.iload_n 3, 1) := by decide +kernel
theorem dX3_readInto_116 : decode cX3_readInto 116 = .ok (.invokevirtual 35, 3) := by decide +kernel
theorem dX3_readInto_119 : decode cX3_readInto 119 = .ok (.ireturn, 1) := by decide +kernel
theorem dX3_readInto_120 : decode cX3_readInto 120 = .ok (.iload 5, 2) := by decide +kernel
theorem dX3_readInto_122 : decode cX3_readInto 122 = .ok (.istore_n 2, 1) := by decide +kernel
theorem dX3_readInto_123 : decode cX3_readInto 123 = .ok (.iinc 3 1, 3) := by decide +kernel
theorem dX3_readInto_126 : decode cX3_readInto 126 = .ok (.goto (-117), 3) := by decide +kernel
theorem dX3_readInto_129 : decode cX3_readInto 129 = .ok (.aload_n 1, 1) := by decide +kernel
theorem dX3_readInto_130 : decode cX3_readInto 130 = .ok (.getfield 26, 3) := by decide +kernel
theorem dX3_readInto_133 : decode cX3_readInto 133 = .ok (.ifCond .gt 15, 3) := by decide +kernel
theorem dX3_readInto_136 : decode cX3_readInto 136 = .ok (.aload_n 0, 1) := by decide +kernel
theorem dX3_readInto_137 : decode cX3_readInto 137 = .ok (.iconst 3, 1) := by decide +kernel
theorem dX3_readInto_138 : decode cX3_readInto 138 = .ok (.aload_n 0, 1) := by decide +kernel
theorem dX3_readInto_139 : decode cX3_readInto 139 = .ok (.getfield 15, 3) := by decide +kernel
theorem dX3_readInto_142 : decode cX3_readInto 142 = .ok (.invokevirtual 35, 3) := by decide +kernel
theorem dX3_readInto_145 : decode cX3_readInto 145 = .ok (.ifCond .eq 7, 3) := by decide +kernel
theorem dX3_readInto_148 : decode cX3_readInto 148 = .ok (.iconst 1, 1) := by decide +kernel
theorem dX3_readInto_149 : decode cX3_readInto 149 = .ok (.goto 4, 3) := by decide +kernel
theorem dX3_readInto_152 : decode cX3_readInto 152 = .ok (.iconst 0, 1) := by decide +kernel
theorem dX3_readInto_153 : decode cX3_readInto 153 = .ok (.ireturn, 1) := by decide +kernel
theorem dX3_refuse_0 : decode cX3_refuse 0 = .ok (.aload_n 0, 1) := by decide +kernel
theorem dX3_refuse_1 : decode cX3_refuse 1 = .ok (.iload_n 1, 1) := by decide +kernel
theorem dX3_refuse_2 : decode cX3_refuse 2 = .ok (.putfield 20, 3) := by decide +kernel
theorem dX3_refuse_5 : decode cX3_refuse 5 = .ok (.aload_n 0, 1) := by decide +kernel
theorem dX3_refuse_6 : decode cX3_refuse 6 = .ok (.iload_n 2, 1) := by decide +kernel
theorem dX3_refuse_7 : decode cX3_refuse 7 = .ok (.putfield 23, 3) := by decide +kernel
theorem dX3_refuse_10 : decode cX3_refuse 10 = .ok (.iconst 0, 1) := by decide +kernel
theorem dX3_refuse_11 : decode cX3_refuse 11 = .ok (.ireturn, 1) := by decide +kernel
theorem dX4_init_0 : decode cX4_init 0 = .ok (.aload_n 0, 1) := by decide +kernel
theorem dX4_init_1 : decode cX4_init 1 = .ok (.invokespecial 1, 3) := by decide +kernel
theorem dX4_init_4 : decode cX4_init 4 = .ok (.aload_n 0, 1) := by decide +kernel
theorem dX4_init_5 : decode cX4_init 5 = .ok (.new 7, 3) := by decide +kernel
theorem dX4_init_8 : decode cX4_init 8 = .ok (.dup, 1) := by decide +kernel
theorem dX4_init_9 : decode cX4_init 9 = .ok (.invokespecial 9, 3) := by decide +kernel
theorem dX4_init_12 : decode cX4_init 12 = .ok (.putfield 10, 3) := by decide +kernel
theorem dX4_init_15 : decode cX4_init 15 = .ok (.aload_n 0, 1) := by decide +kernel
theorem dX4_init_16 : decode cX4_init 16 = .ok (.bipush 8, 2) := by decide +kernel
theorem dX4_init_18 : decode cX4_init 18 = .ok (.anewarray 7, 3) := by decide +kernel
theorem dX4_init_21 : decode cX4_init 21 = .ok (.putfield 16, 3) := by decide +kernel
theorem dX4_init_24 : decode cX4_init 24 = .ok (.aload_n 0, 1) := by decide +kernel
theorem dX4_init_25 : decode cX4_init 25 = .ok (.iconst 0, 1) := by decide +kernel
theorem dX4_init_26 : decode cX4_init 26 = .ok (.putfield 20, 3) := by decide +kernel
theorem dX4_init_29 : decode cX4_init 29 = .ok (.aload_n 0, 1) := by decide +kernel
theorem dX4_init_30 : decode cX4_init 30 = .ok (.iconst 2, 1) := by decide +kernel
theorem dX4_init_31 : decode cX4_init 31 = .ok (.anewarray 7, 3) := by decide +kernel
theorem dX4_init_34 : decode cX4_init 34 = .ok (.putfield 24, 3) := by decide +kernel
theorem dX4_init_37 : decode cX4_init 37 = .ok (.aload_n 0, 1) := by decide +kernel
theorem dX4_init_38 : decode cX4_init 38 = .ok (.iconst 2, 1) := by decide +kernel
theorem dX4_init_39 : decode cX4_init 39 = .ok (.newarray .boolean, 2) := by decide +kernel
theorem dX4_init_41 : decode cX4_init 41 = .ok (.putfield 27, 3) := by decide +kernel
theorem dX4_init_44 : decode cX4_init 44 = .ok (.aload_n 0, 1) := by decide +kernel
theorem dX4_init_45 : decode cX4_init 45 = .ok (.new 31, 3) := by decide +kernel
theorem dX4_init_48 : decode cX4_init 48 = .ok (.dup, 1) := by decide +kernel
theorem dX4_init_49 : decode cX4_init 49 = .ok (.invokespecial 33, 3) := by decide +kernel
theorem dX4_init_52 : decode cX4_init 52 = .ok (.putfield 34, 3) := by decide +kernel
theorem dX4_init_55 : decode cX4_init 55 = .ok (.aload_n 0, 1) := by decide +kernel
theorem dX4_init_56 : decode cX4_init 56 = .ok (.iconst 4, 1) := by decide +kernel
theorem dX4_init_57 : decode cX4_init 57 = .ok (.anewarray 38, 3) := by decide +kernel
theorem dX4_init_60 : decode cX4_init 60 = .ok (.putfield 40, 3) := by decide +kernel
theorem dX4_init_63 : decode cX4_init 63 = .ok (.iconst 0, 1) := by decide +kernel
theorem dX4_init_64 : decode cX4_init 64 = .ok (.istore_n 1, 1) := by decide +kernel
theorem dX4_init_65 : decode cX4_init 65 = .ok (.iload_n 1, 1) := by decide +kernel
theorem dX4_init_66 : decode cX4_init 66 = .ok (.aload_n 0, 1) := by decide +kernel
theorem dX4_init_67 : decode cX4_init 67 = .ok (.getfield 16, 3) := by decide +kernel
theorem dX4_init_70 : decode cX4_init 70 = .ok (.arraylength, 1) := by decide +kernel
theorem dX4_init_71 : decode cX4_init 71 = .ok (.if_icmp .ge 22, 3) := by decide +kernel
theorem dX4_init_74 : decode cX4_init 74 = .ok (.aload_n 0, 1) := by decide +kernel
theorem dX4_init_75 : decode cX4_init 75 = .ok (.getfield 16, 3) := by decide +kernel
theorem dX4_init_78 : decode cX4_init 78 = .ok (.iload_n 1, 1) := by decide +kernel
theorem dX4_init_79 : decode cX4_init 79 = .ok (.new 7, 3) := by decide +kernel
theorem dX4_init_82 : decode cX4_init 82 = .ok (.dup, 1) := by decide +kernel
theorem dX4_init_83 : decode cX4_init 83 = .ok (.invokespecial 9, 3) := by decide +kernel
theorem dX4_init_86 : decode cX4_init 86 = .ok (.aastore, 1) := by decide +kernel
theorem dX4_init_87 : decode cX4_init 87 = .ok (.iinc 1 1, 3) := by decide +kernel
theorem dX4_init_90 : decode cX4_init 90 = .ok (.goto (-25), 3) := by decide +kernel
theorem dX4_init_93 : decode cX4_init 93 = .ok (.iconst 0, 1) := by decide +kernel
theorem dX4_init_94 : decode cX4_init 94 = .ok (.istore_n 1, 1) := by decide +kernel
theorem dX4_init_95 : decode cX4_init 95 = .ok (.iload_n 1, 1) := by decide +kernel
theorem dX4_init_96 : decode cX4_init 96 = .ok (.aload_n 0, 1) := by decide +kernel
theorem dX4_init_97 : decode cX4_init 97 = .ok (.getfield 24, 3) := by decide +kernel
theorem dX4_init_100 : decode cX4_init 100 = .ok (.arraylength, 1) := by decide +kernel
theorem dX4_init_101 : decode cX4_init 101 = .ok (.if_icmp .ge 22, 3) := by decide +kernel
theorem dX4_init_104 : decode cX4_init 104 = .ok (.aload_n 0, 1) := by decide +kernel
theorem dX4_init_105 : decode cX4_init 105 = .ok (.getfield 24, 3) := by decide +kernel
theorem dX4_init_108 : decode cX4_init 108 = .ok (.iload_n 1, 1) := by decide +kernel
theorem dX4_init_109 : decode cX4_init 109 = .ok (.new 7, 3) := by decide +kernel
theorem dX4_init_112 : decode cX4_init 112 = .ok (.dup, 1) := by decide +kernel
theorem dX4_init_113 : decode cX4_init 113 = .ok (.invokespecial 9, 3) := by decide +kernel
theorem dX4_init_116 : decode cX4_init 116 = .ok (.aastore, 1) := by decide +kernel
theorem dX4_init_117 : decode cX4_init 117 = .ok (.iinc 1 1, 3) := by decide +kernel
theorem dX4_init_120 : decode cX4_init 120 = .ok (.goto (-25), 3) := by decide +kernel
theorem dX4_init_123 : decode cX4_init 123 = .ok (.iconst 0, 1) := by decide +kernel
theorem dX4_init_124 : decode cX4_init 124 = .ok (.istore_n 1, 1) := by decide +kernel
theorem dX4_init_125 : decode cX4_init 125 = .ok (.iload_n 1, 1) := by decide +kernel
theorem dX4_init_126 : decode cX4_init 126 = .ok (.aload_n 0, 1) := by decide +kernel
theorem dX4_init_127 : decode cX4_init 127 = .ok (.getfield 40, 3) := by decide +kernel
theorem dX4_init_130 : decode cX4_init 130 = .ok (.arraylength, 1) := by decide +kernel
theorem dX4_init_131 : decode cX4_init 131 = .ok (.if_icmp .ge 22, 3) := by decide +kernel
theorem dX4_init_134 : decode cX4_init 134 = .ok (.aload_n 0, 1) := by decide +kernel
theorem dX4_init_135 : decode cX4_init 135 = .ok (.getfield 40, 3) := by decide +kernel
theorem dX4_init_138 : decode cX4_init 138 = .ok (.iload_n 1, 1) := by decide +kernel
theorem dX4_init_139 : decode cX4_init 139 = .ok (.new 38, 3) := by decide +kernel
theorem dX4_init_142 : decode cX4_init 142 = .ok (.dup, 1) := by decide +kernel
theorem dX4_init_143 : decode cX4_init 143 = .ok (.invokespecial 44, 3) := by decide +kernel
theorem dX4_init_146 : decode cX4_init 146 = .ok (.aastore, 1) := by decide +kernel
theorem dX4_init_147 : decode cX4_init 147 = .ok (.iinc 1 1, 3) := by decide +kernel
theorem dX4_init_150 : decode cX4_init 150 = .ok (.goto (-25), 3) := by decide +kernel
theorem dX4_init_153 : decode cX4_init 153 = .ok (.return_, 1) := by decide +kernel
theorem dX4_begin_0 : decode cX4_begin 0 = .ok (.iload_n 1, 1) := by decide +kernel
theorem dX4_begin_1 : decode cX4_begin 1 = .ok (.iconst 1, 1) := by decide +kernel
theorem dX4_begin_2 : decode cX4_begin 2 = .ok (.bipush 10, 2) := by decide +kernel
theorem dX4_begin_4 : decode cX4_begin 4 = .ok (.invokestatic 45, 3) := by decide +kernel
theorem dX4_begin_7 : decode cX4_begin 7 = .ok (.ifCond .ne 6, 3) := by decide +kernel
theorem dX4_begin_10 : decode cX4_begin 10 = .ok (.ldc 49, 2) := by decide +kernel
theorem dX4_begin_12 : decode cX4_begin 12 = .ok (.ireturn, 1) := by decide +kernel
theorem dX4_begin_13 : decode cX4_begin 13 = .ok (.aload_n 0, 1) := by decide +kernel
theorem dX4_begin_14 : decode cX4_begin 14 = .ok (.getfield 10, 3) := by decide +kernel
theorem dX4_begin_17 : decode cX4_begin 17 = .ok (.getfield 50, 3) := by decide +kernel
theorem dX4_begin_20 : decode cX4_begin 20 = .ok (.getfield 54, 3) := by decide +kernel
theorem dX4_begin_23 : decode cX4_begin 23 = .ok (.istore_n 2, 1) := by decide +kernel
theorem dX4_begin_24 : decode cX4_begin 24 = .ok (.aload_n 0, 1) := by decide +kernel
theorem dX4_begin_25 : decode cX4_begin 25 = .ok (.invokevirtual 57, 3) := by decide +kernel
theorem dX4_begin_28 : decode cX4_begin 28 = .ok (.aload_n 0, 1) := by decide +kernel
theorem dX4_begin_29 : decode cX4_begin 29 = .ok (.getfield 10, 3) := by decide +kernel
theorem dX4_begin_32 : decode cX4_begin 32 = .ok (.getfield 50, 3) := by decide +kernel
theorem dX4_begin_35 : decode cX4_begin 35 = .ok (.iload_n 1, 1) := by decide +kernel
theorem dX4_begin_36 : decode cX4_begin 36 = .ok (.invokevirtual 60, 3) := by decide +kernel
theorem dX4_begin_39 : decode cX4_begin 39 = .ok (.aload_n 0, 1) := by decide +kernel
theorem dX4_begin_40 : decode cX4_begin 40 = .ok (.getfield 10, 3) := by decide +kernel
theorem dX4_begin_43 : decode cX4_begin 43 = .ok (.getfield 64, 3) := by decide +kernel
theorem dX4_begin_46 : decode cX4_begin 46 = .ok (.invokevirtual 68, 3) := by decide +kernel
theorem dX4_begin_49 : decode cX4_begin 49 = .ok (.aload_n 0, 1) := by decide +kernel
theorem dX4_begin_50 : decode cX4_begin 50 = .ok (.getfield 10, 3) := by decide +kernel
theorem dX4_begin_53 : decode cX4_begin 53 = .ok (.getfield 50, 3) := by decide +kernel
theorem dX4_begin_56 : decode cX4_begin 56 = .ok (.aload_n 0, 1) := by decide +kernel
theorem dX4_begin_57 : decode cX4_begin 57 = .ok (.getfield 10, 3) := by decide +kernel
theorem dX4_begin_60 : decode cX4_begin 60 = .ok (.getfield 64, 3) := by decide +kernel
theorem dX4_begin_63 : decode cX4_begin 63 = .ok (.invokevirtual 73, 3) := by decide +kernel
theorem dX4_begin_66 : decode cX4_begin 66 = .ok (.pop, 1) := by decide +kernel
theorem dX4_begin_67 : decode cX4_begin 67 = .ok (.iload_n 2, 1) := by decide +kernel
theorem dX4_begin_68 : decode cX4_begin 68 = .ok (.ireturn, 1) := by decide +kernel
theorem dX4_insert_0 : decode cX4_insert 0 = .ok (.aload_n 0, 1) := by decide +kernel
theorem dX4_insert_1 : decode cX4_insert 1 = .ok (.getfield 10, 3) := by decide +kernel
theorem dX4_insert_4 : decode cX4_insert 4 = .ok (.getfield 50, 3) := by decide +kernel
theorem dX4_insert_7 : decode cX4_insert 7 = .ok (.astore_n 3, 1) := by decide +kernel
theorem dX4_insert_8 : decode cX4_insert 8 = .ok (.iload_n 1, 1) := by decide +kernel
theorem dX4_insert_9 : decode cX4_insert 9 = .ok (.iconst 0, 1) := by decide +kernel
theorem dX4_insert_10 : decode cX4_insert 10 = .ok (.aload_n 3, 1) := by decide +kernel
theorem dX4_insert_11 : decode cX4_insert 11 = .ok (.getfield 54, 3) := by decide +kernel
theorem dX4_insert_14 : decode cX4_insert 14 = .ok (.invokestatic 45, 3) := by decide +kernel
theorem dX4_insert_17 : decode cX4_insert 17 = .ok (.ifCond .eq 10, 3) := by decide +kernel
theorem dX4_insert_20 : decode cX4_insert 20 = .ok (.iload_n 2, 1) := by decide +kernel
theorem dX4_insert_21 : decode cX4_insert 21 = .ok (.invokestatic 77, 3) := by decide +kernel
theorem dX4_insert_24 : decode cX4_insert 24 = .ok (.ifCond .ne 6, 3) := by decide +kernel
theorem dX4_insert_27 : decode cX4_insert 27 = .ok (.ldc 49, 2) := by decide +kernel
theorem dX4_insert_29 : decode cX4_insert 29 = .ok (.ireturn, 1) := by decide +kernel
theorem dX4_insert_30 : decode cX4_insert 30 = .ok (.aload_n 3, 1) := by decide +kernel
theorem dX4_insert_31 : decode cX4_insert 31 = .ok (.getfield 54, 3) := by decide +kernel
theorem dX4_insert_34 : decode cX4_insert 34 = .ok (.bipush 10, 2) := by decide +kernel
theorem dX4_insert_36 : decode cX4_insert 36 = .ok (.if_icmp .lt 6, 3) := by decide +kernel
theorem dX4_insert_39 : decode cX4_insert 39 = .ok (.ldc 81, 2) := by decide +kernel
theorem dX4_insert_41 : decode cX4_insert 41 = .ok (.ireturn, 1) := by decide +kernel
theorem dX4_insert_42 : decode cX4_insert 42 = .ok (.aload_n 0, 1) := by decide +kernel
theorem dX4_insert_43 : decode cX4_insert 43 = .ok (.invokevirtual 82, 3) := by decide +kernel
theorem dX4_insert_46 : decode cX4_insert 46 = .ok (.istore 4, 2) := by decide +kernel
theorem dX4_insert_48 : decode cX4_insert 48 = .ok (.aload_n 3, 1) := by decide +kernel
theorem dX4_insert_49 : decode cX4_insert 49 = .ok (.iload_n 1, 1) := by decide +kernel
theorem dX4_insert_50 : decode cX4_insert 50 = .ok (.iload_n 2, 1) := by decide +kernel
theorem dX4_insert_51 : decode cX4_insert 51 = .ok (.invokevirtual 86, 3) := by decide +kernel
theorem dX4_insert_54 : decode cX4_insert 54 = .ok (.aload_n 0, 1) := by decide +kernel
theorem dX4_insert_55 : decode cX4_insert 55 = .ok (.iload 4, 2) := by decide +kernel
theorem dX4_insert_57 : decode cX4_insert 57 = .ok (.invokevirtual 90, 3) := by decide +kernel
theorem dX4_insert_60 : decode cX4_insert 60 = .ok (.pop, 1) := by decide +kernel
theorem dX4_insert_61 : decode cX4_insert 61 = .ok (.aload_n 3, 1) := by decide +kernel
theorem dX4_insert_62 : decode cX4_insert 62 = .ok (.getfield 54, 3) := by decide +kernel
theorem dX4_insert_65 : decode cX4_insert 65 = .ok (.ireturn, 1) := by decide +kernel
theorem dX4_remove_0 : decode cX4_remove 0 = .ok (.aload_n 0, 1) := by decide +kernel
theorem dX4_remove_1 : decode cX4_remove 1 = .ok (.getfield 10, 3) := by decide +kernel
theorem dX4_remove_4 : decode cX4_remove 4 = .ok (.getfield 50, 3) := by decide +kernel
theorem dX4_remove_7 : decode cX4_remove 7 = .ok (.astore_n 2, 1) := by decide +kernel
theorem dX4_remove_8 : decode cX4_remove 8 = .ok (.aload_n 0, 1) := by decide +kernel
theorem dX4_remove_9 : decode cX4_remove 9 = .ok (.iload_n 1, 1) := by decide +kernel
theorem dX4_remove_10 : decode cX4_remove 10 = .ok (.invokevirtual 94, 3) := by decide +kernel
theorem dX4_remove_13 : decode cX4_remove 13 = .ok (.ifCond .ne 6, 3) := by decide +kernel
theorem dX4_remove_16 : decode cX4_remove 16 = .ok (.ldc 49, 2) := by decide +kernel
theorem dX4_remove_18 : decode cX4_remove 18 = .ok (.ireturn, 1) := by decide +kernel
theorem dX4_remove_19 : decode cX4_remove 19 = .ok (.aload_n 2, 1) := by decide +kernel
theorem dX4_remove_20 : decode cX4_remove 20 = .ok (.getfield 54, 3) := by decide +kernel
theorem dX4_remove_23 : decode cX4_remove 23 = .ok (.iconst 1, 1) := by decide +kernel
theorem dX4_remove_24 : decode cX4_remove 24 = .ok (.if_icmp .ne 6, 3) := by decide +kernel
theorem dX4_remove_27 : decode cX4_remove 27 = .ok (.ldc 97, 2) := by decide +kernel
theorem dX4_remove_29 : decode cX4_remove 29 = .ok (.ireturn, 1) := by decide +kernel
theorem dX4_remove_30 : decode cX4_remove 30 = .ok (.aload_n 2, 1) := by decide +kernel
theorem dX4_remove_31 : decode cX4_remove 31 = .ok (.getfield 98, 3) := by decide +kernel
theorem dX4_remove_34 : decode cX4_remove 34 = .ok (.iload_n 1, 1) := by decide +kernel
theorem dX4_remove_35 : decode cX4_remove 35 = .ok (.iaload, 1) := by decide +kernel
theorem dX4_remove_36 : decode cX4_remove 36 = .ok (.istore_n 3, 1) := by decide +kernel
theorem dX4_remove_37 : decode cX4_remove 37 = .ok (.aload_n 0, 1) := by decide +kernel
theorem dX4_remove_38 : decode cX4_remove 38 = .ok (.invokevirtual 82, 3) := by decide +kernel
theorem dX4_remove_41 : decode cX4_remove 41 = .ok (.istore 4, 2) := by decide +kernel
theorem dX4_remove_43 : decode cX4_remove 43 = .ok (.aload_n 2, 1) := by decide +kernel
theorem dX4_remove_44 : decode cX4_remove 44 = .ok (.iload_n 1, 1) := by decide +kernel
theorem dX4_remove_45 : decode cX4_remove 45 = .ok (.invokevirtual 102, 3) := by decide +kernel
theorem dX4_remove_48 : decode cX4_remove 48 = .ok (.aload_n 0, 1) := by decide +kernel
theorem dX4_remove_49 : decode cX4_remove 49 = .ok (.iload 4, 2) := by decide +kernel
theorem dX4_remove_51 : decode cX4_remove 51 = .ok (.invokevirtual 90, 3) := by decide +kernel
theorem dX4_remove_54 : decode cX4_remove 54 = .ok (.pop, 1) := by decide +kernel
theorem dX4_remove_55 : decode cX4_remove 55 = .ok (.iload_n 3, 1) := by decide +kernel
theorem dX4_remove_56 : decode cX4_remove 56 = .ok (.ireturn, 1) := by decide +kernel
theorem dX4_shed_0 : decode cX4_shed 0 = .ok (.aload_n 0, 1) := by decide +kernel
theorem dX4_shed_1 : decode cX4_shed 1 = .ok (.getfield 10, 3) := by decide +kernel
theorem dX4_shed_4 : decode cX4_shed 4 = .ok (.getfield 50, 3) := by decide +kernel
theorem dX4_shed_7 : decode cX4_shed 7 = .ok (.astore_n 1, 1) := by decide +kernel
theorem dX4_shed_8 : decode cX4_shed 8 = .ok (.aload_n 0, 1) := by decide +kernel
theorem dX4_shed_9 : decode cX4_shed 9 = .ok (.getfield 40, 3) := by decide +kernel
theorem dX4_shed_12 : decode cX4_shed 12 = .ok (.iconst 0, 1) := by decide +kernel
theorem dX4_shed_13 : decode cX4_shed 13 = .ok (.aaload, 1) := by decide +kernel
theorem dX4_shed_14 : decode cX4_shed 14 = .ok (.astore_n 2, 1) := by decide +kernel
theorem dX4_shed_15 : decode cX4_shed 15 = .ok (.aload_n 2, 1) := by decide +kernel
theorem dX4_shed_16 : decode cX4_shed 16 = .ok (.iconst 0, 1) := by decide +kernel
theorem dX4_shed_17 : decode cX4_shed 17 = .ok (.putfield 54, 3) := by decide +kernel
theorem dX4_shed_20 : decode cX4_shed 20 = .ok (.iconst 0, 1) := by decide +kernel
theorem dX4_shed_21 : decode cX4_shed 21 = .ok (.istore_n 3, 1) := by decide +kernel
theorem dX4_shed_22 : decode cX4_shed 22 = .ok (.iload_n 3, 1) := by decide +kernel
theorem dX4_shed_23 : decode cX4_shed 23 = .ok (.aload_n 1, 1) := by decide +kernel
theorem dX4_shed_24 : decode cX4_shed 24 = .ok (.getfield 54, 3) := by decide +kernel
theorem dX4_shed_27 : decode cX4_shed 27 = .ok (.if_icmp .ge 33, 3) := by decide +kernel
theorem dX4_shed_30 : decode cX4_shed 30 = .ok (.aload_n 1, 1) := by decide +kernel
theorem dX4_shed_31 : decode cX4_shed 31 = .ok (.getfield 105, 3) := by decide +kernel
theorem dX4_shed_34 : decode cX4_shed 34 = .ok (.iload_n 3, 1) := by decide +kernel
theorem dX4_shed_35 : decode cX4_shed 35 = .ok (.iaload, 1) := by decide +kernel
theorem dX4_shed_36 : decode cX4_shed 36 = .ok (.iconst 1, 1) := by decide +kernel
theorem dX4_shed_37 : decode cX4_shed 37 = .ok (.if_icmp .eq 11, 3) := by decide +kernel
theorem dX4_shed_40 : decode cX4_shed 40 = .ok (.aload_n 1, 1) := by decide +kernel
theorem dX4_shed_41 : decode cX4_shed 41 = .ok (.iload_n 3, 1) := by decide +kernel
theorem dX4_shed_42 : decode cX4_shed 42 = .ok (.invokevirtual 108, 3) := by decide +kernel
theorem dX4_shed_45 : decode cX4_shed 45 = .ok (.ifCond .gt 9, 3) := by decide +kernel
theorem dX4_shed_48 : decode cX4_shed 48 = .ok (.aload_n 2, 1) := by decide +kernel
theorem dX4_shed_49 : decode cX4_shed 49 = .ok (.aload_n 1, 1) := by decide +kernel
theorem dX4_shed_50 : decode cX4_shed 50 = .ok (.iload_n 3, 1) := by decide +kernel
theorem dX4_shed_51 : decode cX4_shed 51 = .ok (.invokevirtual 111, 3) := by decide +kernel
theorem dX4_shed_54 : decode cX4_shed 54 = .ok (.iinc 3 1, 3) := by decide +kernel
theorem dX4_shed_57 : decode cX4_shed 57 = .ok (.goto (-35), 3) := by decide +kernel
theorem dX4_shed_60 : decode cX4_shed 60 = .ok (.aload_n 2, 1) := by decide +kernel
theorem dX4_shed_61 : decode cX4_shed 61 = .ok (.getfield 54, 3) := by decide +kernel
theorem dX4_shed_64 : decode cX4_shed 64 = .ok (.ifCond .ne 6, 3) := by decide +kernel
theorem dX4_shed_67 : decode cX4_shed 67 = .ok (.ldc 97, 2) := by decide +kernel
theorem dX4_shed_69 : decode cX4_shed 69 = .ok (.ireturn, 1) := by decide +kernel
theorem dX4_shed_70 : decode cX4_shed 70 = .ok (.aload_n 1, 1) := by decide +kernel
theorem dX4_shed_71 : decode cX4_shed 71 = .ok (.getfield 54, 3) := by decide +kernel
theorem dX4_shed_74 : decode cX4_shed 74 = .ok (.aload_n 2, 1) := by decide +kernel
theorem dX4_shed_75 : decode cX4_shed 75 = .ok (.getfield 54, 3) := by decide +kernel
theorem dX4_shed_78 : decode cX4_shed 78 = .ok (.isub, 1) := by decide +kernel
theorem dX4_shed_79 : decode cX4_shed 79 = .ok (.istore_n 3, 1) := by decide +kernel
theorem dX4_shed_80 : decode cX4_shed 80 = .ok (.aload_n 0, 1) := by decide +kernel
theorem dX4_shed_81 : decode cX4_shed 81 = .ok (.invokevirtual 82, 3) := by decide +kernel
theorem dX4_shed_84 : decode cX4_shed 84 = .ok (.istore 4, 2) := by decide +kernel
theorem dX4_shed_86 : decode cX4_shed 86 = .ok (.aload_n 1, 1) := by decide +kernel
theorem dX4_shed_87 : decode cX4_shed 87 = .ok (.aload_n 2, 1) := by decide +kernel
theorem dX4_shed_88 : decode cX4_shed 88 = .ok (.invokevirtual 115, 3) := by decide +kernel
theorem dX4_shed_91 : decode cX4_shed 91 = .ok (.aload_n 0, 1) := by decide +kernel
theorem dX4_shed_92 : decode cX4_shed 92 = .ok (.iload 4, 2) := by decide +kernel
theorem dX4_shed_94 : decode cX4_shed 94 = .ok (.invokevirtual 90, 3) := by decide +kernel
theorem dX4_shed_97 : decode cX4_shed 97 = .ok (.pop, 1) := by decide +kernel
theorem dX4_shed_98 : decode cX4_shed 98 = .ok (.iload_n 3, 1) := by decide +kernel
theorem dX4_shed_99 : decode cX4_shed 99 = .ok (.ireturn, 1) := by decide +kernel
theorem dX4_reverse_0 : decode cX4_reverse 0 = .ok (.aload_n 0, 1) := by decide +kernel
theorem dX4_reverse_1 : decode cX4_reverse 1 = .ok (.getfield 10, 3) := by decide +kernel
theorem dX4_reverse_4 : decode cX4_reverse 4 = .ok (.getfield 50, 3) := by decide +kernel
theorem dX4_reverse_7 : decode cX4_reverse 7 = .ok (.astore_n 1, 1) := by decide +kernel
theorem dX4_reverse_8 : decode cX4_reverse 8 = .ok (.aload_n 0, 1) := by decide +kernel
theorem dX4_reverse_9 : decode cX4_reverse 9 = .ok (.getfield 40, 3) := by decide +kernel
theorem dX4_reverse_12 : decode cX4_reverse 12 = .ok (.iconst 0, 1) := by decide +kernel
theorem dX4_reverse_13 : decode cX4_reverse 13 = .ok (.aaload, 1) := by decide +kernel
theorem dX4_reverse_14 : decode cX4_reverse 14 = .ok (.astore_n 2, 1) := by decide +kernel
theorem dX4_reverse_15 : decode cX4_reverse 15 = .ok (.aload_n 2, 1) := by decide +kernel
theorem dX4_reverse_16 : decode cX4_reverse 16 = .ok (.iconst 0, 1) := by decide +kernel
theorem dX4_reverse_17 : decode cX4_reverse 17 = .ok (.putfield 54, 3) := by decide +kernel
theorem dX4_reverse_20 : decode cX4_reverse 20 = .ok (.aload_n 1, 1) := by decide +kernel
theorem dX4_reverse_21 : decode cX4_reverse 21 = .ok (.getfield 54, 3) := by decide +kernel
theorem dX4_reverse_24 : decode cX4_reverse 24 = .ok (.iconst 1, 1) := by decide +kernel
theorem dX4_reverse_25 : decode cX4_reverse 25 = .ok (.isub, 1) := by decide +kernel
theorem dX4_reverse_26 : decode cX4_reverse 26 = .ok (.istore_n 3, 1) := by decide +kernel
theorem dX4_reverse_27 : decode cX4_reverse 27 = .ok (.iload_n 3, 1) := by decide +kernel
theorem dX4_reverse_28 : decode cX4_reverse 28 = .ok (.ifCond .lt 15, 3) := by decide +kernel
theorem dX4_reverse_31 : decode cX4_reverse 31 = .ok (.aload_n 2, 1) := by decide +kernel
theorem dX4_reverse_32 : decode cX4_reverse 32 = .ok (.aload_n 1, 1) := by decide +kernel
theorem dX4_reverse_33 : decode cX4_reverse 33 = .ok (.iload_n 3, 1) := by decide +kernel
theorem dX4_reverse_34 : decode cX4_reverse 34 = .ok (.invokevirtual 111, 3) := by decide +kernel
theorem dX4_reverse_37 : decode cX4_reverse 37 = .ok (.iinc 3 (-1), 3) := by decide +kernel
theorem dX4_reverse_40 : decode cX4_reverse 40 = .ok (.goto (-13), 3) := by decide +kernel
theorem dX4_reverse_43 : decode cX4_reverse 43 = .ok (.aload_n 2, 1) := by decide +kernel
theorem dX4_reverse_44 : decode cX4_reverse 44 = .ok (.invokevirtual 119, 3) := by decide +kernel
theorem dX4_reverse_47 : decode cX4_reverse 47 = .ok (.aload_n 1, 1) := by decide +kernel
theorem dX4_reverse_48 : decode cX4_reverse 48 = .ok (.aload_n 2, 1) := by decide +kernel
theorem dX4_reverse_49 : decode cX4_reverse 49 = .ok (.invokevirtual 122, 3) := by decide +kernel
theorem dX4_reverse_52 : decode cX4_reverse 52 = .ok (.istore_n 3, 1) := by decide +kernel
theorem dX4_reverse_53 : decode cX4_reverse 53 = .ok (.aload_n 0, 1) := by decide +kernel
theorem dX4_reverse_54 : decode cX4_reverse 54 = .ok (.invokevirtual 82, 3) := by decide +kernel
theorem dX4_reverse_57 : decode cX4_reverse 57 = .ok (.istore 4, 2) := by decide +kernel
theorem dX4_reverse_59 : decode cX4_reverse 59 = .ok (.aload_n 1, 1) := by decide +kernel
theorem dX4_reverse_60 : decode cX4_reverse 60 = .ok (.aload_n 2, 1) := by decide +kernel
theorem dX4_reverse_61 : decode cX4_reverse 61 = .ok (.invokevirtual 115, 3) := by decide +kernel
theorem dX4_reverse_64 : decode cX4_reverse 64 = .ok (.aload_n 0, 1) := by decide +kernel
theorem dX4_reverse_65 : decode cX4_reverse 65 = .ok (.iload 4, 2) := by decide +kernel
theorem dX4_reverse_67 : decode cX4_reverse 67 = .ok (.invokevirtual 90, 3) := by decide +kernel
theorem dX4_reverse_70 : decode cX4_reverse 70 = .ok (.pop, 1) := by decide +kernel
theorem dX4_reverse_71 : decode cX4_reverse 71 = .ok (.iload_n 3, 1) := by decide +kernel
theorem dX4_reverse_72 : decode cX4_reverse 72 = .ok (.ireturn, 1) := by decide +kernel
theorem dX4_hold_0 : decode cX4_hold 0 = .ok (.aload_n 0, 1) := by decide +kernel
theorem dX4_hold_1 : decode cX4_hold 1 = .ok (.iload_n 1, 1) := by decide +kernel
theorem dX4_hold_2 : decode cX4_hold 2 = .ok (.invokevirtual 94, 3) := by decide +kernel
theorem dX4_hold_5 : decode cX4_hold 5 = .ok (.ifCond .eq 12, 3) := by decide +kernel
theorem dX4_hold_8 : decode cX4_hold 8 = .ok (.iload_n 2, 1) := by decide +kernel
theorem dX4_hold_9 : decode cX4_hold 9 = .ok (.iconst 0, 1) := by decide +kernel
theorem dX4_hold_10 : decode cX4_hold 10 = .ok (.iconst 1, 1) := by decide +kernel
theorem dX4_hold_11 : decode cX4_hold 11 = .ok (.invokestatic 45, 3) := by decide +kernel
theorem dX4_hold_14 : decode cX4_hold 14 = .ok (.ifCond .ne 6, 3) := by decide +kernel
theorem dX4_hold_17 : decode cX4_hold 17 = .ok (.ldc 49, 2) := by decide +kernel
theorem dX4_hold_19 : decode cX4_hold 19 = .ok (.ireturn, 1) := by decide +kernel
theorem dX4_hold_20 : decode cX4_hold 20 = .ok (.aload_n 0, 1) := by decide +kernel
theorem dX4_hold_21 : decode cX4_hold 21 = .ok (.getfield 10, 3) := by decide +kernel
theorem dX4_hold_24 : decode cX4_hold 24 = .ok (.getfield 50, 3) := by decide +kernel
theorem dX4_hold_27 : decode cX4_hold 27 = .ok (.getfield 105, 3) := by decide +kernel
theorem dX4_hold_30 : decode cX4_hold 30 = .ok (.iload_n 1, 1) := by decide +kernel
theorem dX4_hold_31 : decode cX4_hold 31 = .ok (.iaload, 1) := by decide +kernel
theorem dX4_hold_32 : decode cX4_hold 32 = .ok (.istore_n 3, 1) := by decide +kernel
theorem dX4_hold_33 : decode cX4_hold 33 = .ok (.aload_n 0, 1) := by decide +kernel
theorem dX4_hold_34 : decode cX4_hold 34 = .ok (.invokevirtual 82, 3) := by decide +kernel
theorem dX4_hold_37 : decode cX4_hold 37 = .ok (.istore 4, 2) := by decide +kernel
theorem dX4_hold_39 : decode cX4_hold 39 = .ok (.aload_n 0, 1) := by decide +kernel
theorem dX4_hold_40 : decode cX4_hold 40 = .ok (.getfield 10, 3) := by decide +kernel
theorem dX4_hold_43 : decode cX4_hold 43 = .ok (.getfield 50, 3) := by decide +kernel
theorem dX4_hold_46 : decode cX4_hold 46 = .ok (.getfield 105, 3) := by decide +kernel
theorem dX4_hold_49 : decode cX4_hold 49 = .ok (.iload_n 1, 1) := by decide +kernel
theorem dX4_hold_50 : decode cX4_hold 50 = .ok (.iload_n 2, 1) := by decide +kernel
theorem dX4_hold_51 : decode cX4_hold 51 = .ok (.iastore, 1) := by decide +kernel
theorem dX4_hold_52 : decode cX4_hold 52 = .ok (.aload_n 0, 1) := by decide +kernel
theorem dX4_hold_53 : decode cX4_hold 53 = .ok (.iload 4, 2) := by decide +kernel
theorem dX4_hold_55 : decode cX4_hold 55 = .ok (.invokevirtual 90, 3) := by decide +kernel
theorem dX4_hold_58 : decode cX4_hold 58 = .ok (.pop, 1) := by decide +kernel
theorem dX4_hold_59 : decode cX4_hold 59 = .ok (.iload_n 3, 1) := by decide +kernel
theorem dX4_hold_60 : decode cX4_hold 60 = .ok (.ireturn, 1) := by decide +kernel
theorem dX4_push_0 : decode cX4_push 0 = .ok (.aload_n 0, 1) := by decide +kernel
theorem dX4_push_1 : decode cX4_push 1 = .ok (.iload_n 1, 1) := by decide +kernel
theorem dX4_push_2 : decode cX4_push 2 = .ok (.invokevirtual 94, 3) := by decide +kernel
theorem dX4_push_5 : decode cX4_push 5 = .ok (.ifCond .eq 10, 3) := by decide +kernel
theorem dX4_push_8 : decode cX4_push 8 = .ok (.iload_n 2, 1) := by decide +kernel
theorem dX4_push_9 : decode cX4_push 9 = .ok (.invokestatic 126, 3) := by decide +kernel
theorem dX4_push_12 : decode cX4_push 12 = .ok (.ifCond .ne 6, 3) := by decide +kernel
theorem dX4_push_15 : decode cX4_push 15 = .ok (.ldc 49, 2) := by decide +kernel
theorem dX4_push_17 : decode cX4_push 17 = .ok (.ireturn, 1) := by decide +kernel
theorem dX4_push_18 : decode cX4_push 18 = .ok (.aload_n 0, 1) := by decide +kernel
theorem dX4_push_19 : decode cX4_push 19 = .ok (.getfield 10, 3) := by decide +kernel
theorem dX4_push_22 : decode cX4_push 22 = .ok (.getfield 50, 3) := by decide +kernel
theorem dX4_push_25 : decode cX4_push 25 = .ok (.getfield 105, 3) := by decide +kernel
theorem dX4_push_28 : decode cX4_push 28 = .ok (.iload_n 1, 1) := by decide +kernel
theorem dX4_push_29 : decode cX4_push 29 = .ok (.iaload, 1) := by decide +kernel
theorem dX4_push_30 : decode cX4_push 30 = .ok (.iconst 1, 1) := by decide +kernel
theorem dX4_push_31 : decode cX4_push 31 = .ok (.if_icmp .ne 6, 3) := by decide +kernel
theorem dX4_push_34 : decode cX4_push 34 = .ok (.ldc 97, 2) := by decide +kernel
theorem dX4_push_36 : decode cX4_push 36 = .ok (.ireturn, 1) := by decide +kernel
theorem dX4_push_37 : decode cX4_push 37 = .ok (.aload_n 0, 1) := by decide +kernel
theorem dX4_push_38 : decode cX4_push 38 = .ok (.invokevirtual 82, 3) := by decide +kernel
theorem dX4_push_41 : decode cX4_push 41 = .ok (.istore_n 3, 1) := by decide +kernel
theorem dX4_push_42 : decode cX4_push 42 = .ok (.aload_n 0, 1) := by decide +kernel
theorem dX4_push_43 : decode cX4_push 43 = .ok (.getfield 10, 3) := by decide +kernel
theorem dX4_push_46 : decode cX4_push 46 = .ok (.getfield 50, 3) := by decide +kernel
theorem dX4_push_49 : decode cX4_push 49 = .ok (.iload_n 1, 1) := by decide +kernel
theorem dX4_push_50 : decode cX4_push 50 = .ok (.iload_n 2, 1) := by decide +kernel
theorem dX4_push_51 : decode cX4_push 51 = .ok (.invokevirtual 129, 3) := by decide +kernel
theorem dX4_push_54 : decode cX4_push 54 = .ok (.aload_n 0, 1) := by decide +kernel
theorem dX4_push_55 : decode cX4_push 55 = .ok (.getfield 10, 3) := by decide +kernel
theorem dX4_push_58 : decode cX4_push 58 = .ok (.getfield 64, 3) := by decide +kernel
theorem dX4_push_61 : decode cX4_push 61 = .ok (.dup, 1) := by decide +kernel
theorem dX4_push_62 : decode cX4_push 62 = .ok (.getfield 132, 3) := by decide +kernel
theorem dX4_push_65 : decode cX4_push 65 = .ok (.iconst 1, 1) := by decide +kernel
theorem dX4_push_66 : decode cX4_push 66 = .ok (.iadd, 1) := by decide +kernel
theorem dX4_push_67 : decode cX4_push 67 = .ok (.putfield 132, 3) := by decide +kernel
theorem dX4_push_70 : decode cX4_push 70 = .ok (.aload_n 0, 1) := by decide +kernel
theorem dX4_push_71 : decode cX4_push 71 = .ok (.iload_n 3, 1) := by decide +kernel
theorem dX4_push_72 : decode cX4_push 72 = .ok (.invokevirtual 90, 3) := by decide +kernel
theorem dX4_push_75 : decode cX4_push 75 = .ok (.ireturn, 1) := by decide +kernel
theorem dX4_set_0 : decode cX4_set 0 = .ok (.iload_n 1, 1) := by decide +kernel
theorem dX4_set_1 : decode cX4_set 1 = .ok (.iload_n 2, 1) := by decide +kernel
theorem dX4_set_2 : decode cX4_set 2 = .ok (.invokestatic 135, 3) := by decide +kernel
theorem dX4_set_5 : decode cX4_set 5 = .ok (.ifCond .ne 6, 3) := by decide +kernel
theorem dX4_set_8 : decode cX4_set 8 = .ok (.ldc 49, 2) := by decide +kernel
theorem dX4_set_10 : decode cX4_set 10 = .ok (.ireturn, 1) := by decide +kernel
theorem dX4_set_11 : decode cX4_set 11 = .ok (.aload_n 0, 1) := by decide +kernel
theorem dX4_set_12 : decode cX4_set 12 = .ok (.getfield 10, 3) := by decide +kernel
theorem dX4_set_15 : decode cX4_set 15 = .ok (.getfield 50, 3) := by decide +kernel
theorem dX4_set_18 : decode cX4_set 18 = .ok (.astore_n 3, 1) := by decide +kernel
theorem dX4_set_19 : decode cX4_set 19 = .ok (.aload_n 0, 1) := by decide +kernel
theorem dX4_set_20 : decode cX4_set 20 = .ok (.invokevirtual 82, 3) := by decide +kernel
theorem dX4_set_23 : decode cX4_set 23 = .ok (.istore 4, 2) := by decide +kernel
theorem dX4_set_25 : decode cX4_set 25 = .ok (.iload_n 1, 1) := by decide +kernel
theorem dX4_set_26 : decode cX4_set 26 = .ok (.tableswitch 50 0 2 #[26, 34, 42], 26) := by decide +kernel
theorem dX4_set_52 : decode cX4_set 52 = .ok (.aload_n 3, 1) := by decide +kernel
theorem dX4_set_53 : decode cX4_set 53 = .ok (.iload_n 2, 1) := by decide +kernel
theorem dX4_set_54 : decode cX4_set 54 = .ok (.putfield 139, 3) := by decide +kernel
theorem dX4_set_57 : decode cX4_set 57 = .ok (.goto 24, 3) := by decide +kernel
theorem dX4_set_60 : decode cX4_set 60 = .ok (.aload_n 3, 1) := by decide +kernel
theorem dX4_set_61 : decode cX4_set 61 = .ok (.iload_n 2, 1) := by decide +kernel
theorem dX4_set_62 : decode cX4_set 62 = .ok (.putfield 142, 3) := by decide +kernel
theorem dX4_set_65 : decode cX4_set 65 = .ok (.goto 16, 3) := by decide +kernel
theorem dX4_set_68 : decode cX4_set 68 = .ok (.aload_n 3, 1) := by decide +kernel
theorem dX4_set_69 : decode cX4_set 69 = .ok (.iload_n 2, 1) := by decide +kernel
theorem dX4_set_70 : decode cX4_set 70 = .ok (.putfield 145, 3) := by decide +kernel
theorem dX4_set_73 : decode cX4_set 73 = .ok (.goto 8, 3) := by decide +kernel
theorem dX4_set_76 : decode cX4_set 76 = .ok (.aload_n 3, 1) := by decide +kernel
theorem dX4_set_77 : decode cX4_set 77 = .ok (.iload_n 2, 1) := by decide +kernel
theorem dX4_set_78 : decode cX4_set 78 = .ok (.putfield 148, 3) := by decide +kernel
theorem dX4_set_81 : decode cX4_set 81 = .ok (.aload_n 0, 1) := by decide +kernel
theorem dX4_set_82 : decode cX4_set 82 = .ok (.iload 4, 2) := by decide +kernel
theorem dX4_set_84 : decode cX4_set 84 = .ok (.invokevirtual 90, 3) := by decide +kernel
theorem dX4_set_87 : decode cX4_set 87 = .ok (.ireturn, 1) := by decide +kernel
theorem dX4_goal_0 : decode cX4_goal 0 = .ok (.aload_n 0, 1) := by decide +kernel
theorem dX4_goal_1 : decode cX4_goal 1 = .ok (.iload_n 1, 1) := by decide +kernel
theorem dX4_goal_2 : decode cX4_goal 2 = .ok (.invokevirtual 94, 3) := by decide +kernel
theorem dX4_goal_5 : decode cX4_goal 5 = .ok (.ifCond .eq 16, 3) := by decide +kernel
theorem dX4_goal_8 : decode cX4_goal 8 = .ok (.iload_n 2, 1) := by decide +kernel
theorem dX4_goal_9 : decode cX4_goal 9 = .ok (.ldc 151, 2) := by decide +kernel
theorem dX4_goal_11 : decode cX4_goal 11 = .ok (.if_icmp .eq 13, 3) := by decide +kernel
theorem dX4_goal_14 : decode cX4_goal 14 = .ok (.iload_n 2, 1) := by decide +kernel
theorem dX4_goal_15 : decode cX4_goal 15 = .ok (.invokestatic 77, 3) := by decide +kernel
theorem dX4_goal_18 : decode cX4_goal 18 = .ok (.ifCond .ne 6, 3) := by decide +kernel
theorem dX4_goal_21 : decode cX4_goal 21 = .ok (.ldc 49, 2) := by decide +kernel
theorem dX4_goal_23 : decode cX4_goal 23 = .ok (.ireturn, 1) := by decide +kernel
theorem dX4_goal_24 : decode cX4_goal 24 = .ok (.aload_n 0, 1) := by decide +kernel
theorem dX4_goal_25 : decode cX4_goal 25 = .ok (.getfield 10, 3) := by decide +kernel
theorem dX4_goal_28 : decode cX4_goal 28 = .ok (.getfield 50, 3) := by decide +kernel
theorem dX4_goal_31 : decode cX4_goal 31 = .ok (.getfield 152, 3) := by decide +kernel
theorem dX4_goal_34 : decode cX4_goal 34 = .ok (.iload_n 1, 1) := by decide +kernel
theorem dX4_goal_35 : decode cX4_goal 35 = .ok (.iaload, 1) := by decide +kernel
theorem dX4_goal_36 : decode cX4_goal 36 = .ok (.istore_n 3, 1) := by decide +kernel
theorem dX4_goal_37 : decode cX4_goal 37 = .ok (.aload_n 0, 1) := by decide +kernel
theorem dX4_goal_38 : decode cX4_goal 38 = .ok (.invokevirtual 82, 3) := by decide +kernel
theorem dX4_goal_41 : decode cX4_goal 41 = .ok (.istore 4, 2) := by decide +kernel
theorem dX4_goal_43 : decode cX4_goal 43 = .ok (.aload_n 0, 1) := by decide +kernel
theorem dX4_goal_44 : decode cX4_goal 44 = .ok (.getfield 10, 3) := by decide +kernel
theorem dX4_goal_47 : decode cX4_goal 47 = .ok (.getfield 50, 3) := by decide +kernel
theorem dX4_goal_50 : decode cX4_goal 50 = .ok (.getfield 152, 3) := by decide +kernel
theorem dX4_goal_53 : decode cX4_goal 53 = .ok (.iload_n 1, 1) := by decide +kernel
theorem dX4_goal_54 : decode cX4_goal 54 = .ok (.iload_n 2, 1) := by decide +kernel
theorem dX4_goal_55 : decode cX4_goal 55 = .ok (.iastore, 1) := by decide +kernel
theorem dX4_goal_56 : decode cX4_goal 56 = .ok (.aload_n 0, 1) := by decide +kernel
theorem dX4_goal_57 : decode cX4_goal 57 = .ok (.iload 4, 2) := by decide +kernel
theorem dX4_goal_59 : decode cX4_goal 59 = .ok (.invokevirtual 90, 3) := by decide +kernel
theorem dX4_goal_62 : decode cX4_goal 62 = .ok (.pop, 1) := by decide +kernel
theorem dX4_goal_63 : decode cX4_goal 63 = .ok (.iload_n 3, 1) := by decide +kernel
theorem dX4_goal_64 : decode cX4_goal 64 = .ok (.ireturn, 1) := by decide +kernel
theorem dX4_undo_0 : decode cX4_undo 0 = .ok (.aload_n 0, 1) := by decide +kernel
theorem dX4_undo_1 : decode cX4_undo 1 = .ok (.getfield 20, 3) := by decide +kernel
theorem dX4_undo_4 : decode cX4_undo 4 = .ok (.ifCond .le 15, 3) := by decide +kernel
theorem dX4_undo_7 : decode cX4_undo 7 = .ok (.aload_n 0, 1) := by decide +kernel
theorem dX4_undo_8 : decode cX4_undo 8 = .ok (.getfield 20, 3) := by decide +kernel
theorem dX4_undo_11 : decode cX4_undo 11 = .ok (.aload_n 0, 1) := by decide +kernel
theorem dX4_undo_12 : decode cX4_undo 12 = .ok (.getfield 16, 3) := by decide +kernel
theorem dX4_undo_15 : decode cX4_undo 15 = .ok (.arraylength, 1) := by decide +kernel
theorem dX4_undo_16 : decode cX4_undo 16 = .ok (.if_icmp .le 6, 3) := by decide +kernel
theorem dX4_undo_19 : decode cX4_undo 19 = .ok (.ldc 97, 2) := by decide +kernel
theorem dX4_undo_21 : decode cX4_undo 21 = .ok (.ireturn, 1) := by decide +kernel
theorem dX4_undo_22 : decode cX4_undo 22 = .ok (.aload_n 0, 1) := by decide +kernel
theorem dX4_undo_23 : decode cX4_undo 23 = .ok (.dup, 1) := by decide +kernel
theorem dX4_undo_24 : decode cX4_undo 24 = .ok (.getfield 20, 3) := by decide +kernel
theorem dX4_undo_27 : decode cX4_undo 27 = .ok (.iconst 1, 1) := by decide +kernel
theorem dX4_undo_28 : decode cX4_undo 28 = .ok (.isub, 1) := by decide +kernel
theorem dX4_undo_29 : decode cX4_undo 29 = .ok (.putfield 20, 3) := by decide +kernel
theorem dX4_undo_32 : decode cX4_undo 32 = .ok (.aload_n 0, 1) := by decide +kernel
theorem dX4_undo_33 : decode cX4_undo 33 = .ok (.getfield 10, 3) := by decide +kernel
theorem dX4_undo_36 : decode cX4_undo 36 = .ok (.aload_n 0, 1) := by decide +kernel
theorem dX4_undo_37 : decode cX4_undo 37 = .ok (.getfield 16, 3) := by decide +kernel
theorem dX4_undo_40 : decode cX4_undo 40 = .ok (.aload_n 0, 1) := by decide +kernel
end
section
theorem dX4_undo_41 : decode cX4_undo 41 = .ok (.getfield 20, 3) := by decide +kernel
theorem dX4_undo_44 : decode cX4_undo 44 = .ok (.aaload, 1) := by decide +kernel
theorem dX4_undo_45 : decode cX4_undo 45 = .ok (.invokevirtual 155, 3) := by decide +kernel
theorem dX4_undo_48 : decode cX4_undo 48 = .ok (.aload_n 0, 1) := by decide +kernel
theorem dX4_undo_49 : decode cX4_undo 49 = .ok (.getfield 20, 3) := by decide +kernel
theorem dX4_undo_52 : decode cX4_undo 52 = .ok (.ireturn, 1) := by decide +kernel
theorem dX4_told_0 : decode cX4_told 0 = .ok (.aload_n 0, 1) := by decide +kernel
theorem dX4_told_1 : decode cX4_told 1 = .ok (.getfield 10, 3) := by decide +kernel
theorem dX4_told_4 : decode cX4_told 4 = .ok (.getfield 50, 3) := by decide +kernel
theorem dX4_told_7 : decode cX4_told 7 = .ok (.astore_n 2, 1) := by decide +kernel
theorem dX4_told_8 : decode cX4_told 8 = .ok (.aload_n 0, 1) := by decide +kernel
theorem dX4_told_9 : decode cX4_told 9 = .ok (.getfield 10, 3) := by decide +kernel
theorem dX4_told_12 : decode cX4_told 12 = .ok (.getfield 64, 3) := by decide +kernel
theorem dX4_told_15 : decode cX4_told 15 = .ok (.astore_n 3, 1) := by decide +kernel
theorem dX4_told_16 : decode cX4_told 16 = .ok (.iload_n 1, 1) := by decide +kernel
theorem dX4_told_17 : decode cX4_told 17 = .ok (.tableswitch 162 0 15 #[79, 84, 89, 94, 99, 104, 109, 114, 119, 124, 129, 134, 139, 144, 149, 157], 79) := by decide +kernel
theorem dX4_told_96 : decode cX4_told 96 = .ok (.aload_n 2, 1) := by decide +kernel
theorem dX4_told_97 : decode cX4_told 97 = .ok (.getfield 54, 3) := by decide +kernel
theorem dX4_told_100 : decode cX4_told 100 = .ok (.ireturn, 1) := by decide +kernel
theorem dX4_told_101 : decode cX4_told 101 = .ok (.aload_n 2, 1) := by decide +kernel
theorem dX4_told_102 : decode cX4_told 102 = .ok (.invokevirtual 159, 3) := by decide +kernel
theorem dX4_told_105 : decode cX4_told 105 = .ok (.ireturn, 1) := by decide +kernel
theorem dX4_told_106 : decode cX4_told 106 = .ok (.aload_n 3, 1) := by decide +kernel
theorem dX4_told_107 : decode cX4_told 107 = .ok (.getfield 162, 3) := by decide +kernel
theorem dX4_told_110 : decode cX4_told 110 = .ok (.ireturn, 1) := by decide +kernel
theorem dX4_told_111 : decode cX4_told 111 = .ok (.aload_n 3, 1) := by decide +kernel
theorem dX4_told_112 : decode cX4_told 112 = .ok (.getfield 165, 3) := by decide +kernel
theorem dX4_told_115 : decode cX4_told 115 = .ok (.ireturn, 1) := by decide +kernel
theorem dX4_told_116 : decode cX4_told 116 = .ok (.aload_n 2, 1) := by decide +kernel
theorem dX4_told_117 : decode cX4_told 117 = .ok (.getfield 139, 3) := by decide +kernel
theorem dX4_told_120 : decode cX4_told 120 = .ok (.ireturn, 1) := by decide +kernel
theorem dX4_told_121 : decode cX4_told 121 = .ok (.aload_n 2, 1) := by decide +kernel
theorem dX4_told_122 : decode cX4_told 122 = .ok (.getfield 142, 3) := by decide +kernel
theorem dX4_told_125 : decode cX4_told 125 = .ok (.ireturn, 1) := by decide +kernel
theorem dX4_told_126 : decode cX4_told 126 = .ok (.aload_n 2, 1) := by decide +kernel
theorem dX4_told_127 : decode cX4_told 127 = .ok (.getfield 145, 3) := by decide +kernel
theorem dX4_told_130 : decode cX4_told 130 = .ok (.ireturn, 1) := by decide +kernel
theorem dX4_told_131 : decode cX4_told 131 = .ok (.aload_n 2, 1) := by decide +kernel
theorem dX4_told_132 : decode cX4_told 132 = .ok (.getfield 148, 3) := by decide +kernel
theorem dX4_told_135 : decode cX4_told 135 = .ok (.ireturn, 1) := by decide +kernel
theorem dX4_told_136 : decode cX4_told 136 = .ok (.aload_n 3, 1) := by decide +kernel
theorem dX4_told_137 : decode cX4_told 137 = .ok (.getfield 168, 3) := by decide +kernel
theorem dX4_told_140 : decode cX4_told 140 = .ok (.ireturn, 1) := by decide +kernel
theorem dX4_told_141 : decode cX4_told 141 = .ok (.aload_n 3, 1) := by decide +kernel
theorem dX4_told_142 : decode cX4_told 142 = .ok (.getfield 132, 3) := by decide +kernel
theorem dX4_told_145 : decode cX4_told 145 = .ok (.ireturn, 1) := by decide +kernel
theorem dX4_told_146 : decode cX4_told 146 = .ok (.aload_n 3, 1) := by decide +kernel
theorem dX4_told_147 : decode cX4_told 147 = .ok (.getfield 171, 3) := by decide +kernel
theorem dX4_told_150 : decode cX4_told 150 = .ok (.ireturn, 1) := by decide +kernel
theorem dX4_told_151 : decode cX4_told 151 = .ok (.aload_n 2, 1) := by decide +kernel
theorem dX4_told_152 : decode cX4_told 152 = .ok (.invokevirtual 174, 3) := by decide +kernel
theorem dX4_told_155 : decode cX4_told 155 = .ok (.ireturn, 1) := by decide +kernel
theorem dX4_told_156 : decode cX4_told 156 = .ok (.aload_n 2, 1) := by decide +kernel
theorem dX4_told_157 : decode cX4_told 157 = .ok (.invokevirtual 177, 3) := by decide +kernel
theorem dX4_told_160 : decode cX4_told 160 = .ok (.ireturn, 1) := by decide +kernel
theorem dX4_told_161 : decode cX4_told 161 = .ok (.aload_n 2, 1) := by decide +kernel
theorem dX4_told_162 : decode cX4_told 162 = .ok (.invokevirtual 180, 3) := by decide +kernel
theorem dX4_told_165 : decode cX4_told 165 = .ok (.ireturn, 1) := by decide +kernel
theorem dX4_told_166 : decode cX4_told 166 = .ok (.aload_n 0, 1) := by decide +kernel
theorem dX4_told_167 : decode cX4_told 167 = .ok (.getfield 34, 3) := by decide +kernel
theorem dX4_told_170 : decode cX4_told 170 = .ok (.getfield 183, 3) := by decide +kernel
theorem dX4_told_173 : decode cX4_told 173 = .ok (.ireturn, 1) := by decide +kernel
theorem dX4_told_174 : decode cX4_told 174 = .ok (.aload_n 0, 1) := by decide +kernel
theorem dX4_told_175 : decode cX4_told 175 = .ok (.getfield 20, 3) := by decide +kernel
theorem dX4_told_178 : decode cX4_told 178 = .ok (.ireturn, 1) := by decide +kernel
theorem dX4_told_179 : decode cX4_told 179 = .ok (.ldc 49, 2) := by decide +kernel
theorem dX4_told_181 : decode cX4_told 181 = .ok (.ireturn, 1) := by decide +kernel
theorem dX4_magnet_0 : decode cX4_magnet 0 = .ok (.aload_n 0, 1) := by decide +kernel
theorem dX4_magnet_1 : decode cX4_magnet 1 = .ok (.iload_n 1, 1) := by decide +kernel
theorem dX4_magnet_2 : decode cX4_magnet 2 = .ok (.invokevirtual 94, 3) := by decide +kernel
theorem dX4_magnet_5 : decode cX4_magnet 5 = .ok (.ifCond .ne 6, 3) := by decide +kernel
theorem dX4_magnet_8 : decode cX4_magnet 8 = .ok (.ldc 49, 2) := by decide +kernel
theorem dX4_magnet_10 : decode cX4_magnet 10 = .ok (.ireturn, 1) := by decide +kernel
theorem dX4_magnet_11 : decode cX4_magnet 11 = .ok (.aload_n 0, 1) := by decide +kernel
theorem dX4_magnet_12 : decode cX4_magnet 12 = .ok (.getfield 10, 3) := by decide +kernel
theorem dX4_magnet_15 : decode cX4_magnet 15 = .ok (.getfield 50, 3) := by decide +kernel
theorem dX4_magnet_18 : decode cX4_magnet 18 = .ok (.astore_n 3, 1) := by decide +kernel
theorem dX4_magnet_19 : decode cX4_magnet 19 = .ok (.iload_n 2, 1) := by decide +kernel
theorem dX4_magnet_20 : decode cX4_magnet 20 = .ok (.tableswitch 87 0 5 #[40, 47, 54, 61, 68, 75], 40) := by decide +kernel
theorem dX4_magnet_60 : decode cX4_magnet 60 = .ok (.aload_n 3, 1) := by decide +kernel
theorem dX4_magnet_61 : decode cX4_magnet 61 = .ok (.getfield 98, 3) := by decide +kernel
theorem dX4_magnet_64 : decode cX4_magnet 64 = .ok (.iload_n 1, 1) := by decide +kernel
theorem dX4_magnet_65 : decode cX4_magnet 65 = .ok (.iaload, 1) := by decide +kernel
theorem dX4_magnet_66 : decode cX4_magnet 66 = .ok (.ireturn, 1) := by decide +kernel
theorem dX4_magnet_67 : decode cX4_magnet 67 = .ok (.aload_n 3, 1) := by decide +kernel
theorem dX4_magnet_68 : decode cX4_magnet 68 = .ok (.getfield 105, 3) := by decide +kernel
theorem dX4_magnet_71 : decode cX4_magnet 71 = .ok (.iload_n 1, 1) := by decide +kernel
theorem dX4_magnet_72 : decode cX4_magnet 72 = .ok (.iaload, 1) := by decide +kernel
theorem dX4_magnet_73 : decode cX4_magnet 73 = .ok (.ireturn, 1) := by decide +kernel
theorem dX4_magnet_74 : decode cX4_magnet 74 = .ok (.aload_n 3, 1) := by decide +kernel
theorem dX4_magnet_75 : decode cX4_magnet 75 = .ok (.getfield 152, 3) := by decide +kernel
theorem dX4_magnet_78 : decode cX4_magnet 78 = .ok (.iload_n 1, 1) := by decide +kernel
theorem dX4_magnet_79 : decode cX4_magnet 79 = .ok (.iaload, 1) := by decide +kernel
theorem dX4_magnet_80 : decode cX4_magnet 80 = .ok (.ireturn, 1) := by decide +kernel
theorem dX4_magnet_81 : decode cX4_magnet 81 = .ok (.aload_n 3, 1) := by decide +kernel
theorem dX4_magnet_82 : decode cX4_magnet 82 = .ok (.iload_n 1, 1) := by decide +kernel
theorem dX4_magnet_83 : decode cX4_magnet 83 = .ok (.iconst 1, 1) := by decide +kernel
theorem dX4_magnet_84 : decode cX4_magnet 84 = .ok (.invokevirtual 186, 3) := by decide +kernel
theorem dX4_magnet_87 : decode cX4_magnet 87 = .ok (.ireturn, 1) := by decide +kernel
theorem dX4_magnet_88 : decode cX4_magnet 88 = .ok (.aload_n 3, 1) := by decide +kernel
theorem dX4_magnet_89 : decode cX4_magnet 89 = .ok (.iload_n 1, 1) := by decide +kernel
theorem dX4_magnet_90 : decode cX4_magnet 90 = .ok (.iconst (-1), 1) := by decide +kernel
theorem dX4_magnet_91 : decode cX4_magnet 91 = .ok (.invokevirtual 186, 3) := by decide +kernel
theorem dX4_magnet_94 : decode cX4_magnet 94 = .ok (.ireturn, 1) := by decide +kernel
theorem dX4_magnet_95 : decode cX4_magnet 95 = .ok (.aload_n 3, 1) := by decide +kernel
theorem dX4_magnet_96 : decode cX4_magnet 96 = .ok (.iload_n 1, 1) := by decide +kernel
theorem dX4_magnet_97 : decode cX4_magnet 97 = .ok (.aload_n 3, 1) := by decide +kernel
theorem dX4_magnet_98 : decode cX4_magnet 98 = .ok (.getfield 98, 3) := by decide +kernel
theorem dX4_magnet_101 : decode cX4_magnet 101 = .ok (.iload_n 1, 1) := by decide +kernel
theorem dX4_magnet_102 : decode cX4_magnet 102 = .ok (.iaload, 1) := by decide +kernel
theorem dX4_magnet_103 : decode cX4_magnet 103 = .ok (.invokevirtual 190, 3) := by decide +kernel
theorem dX4_magnet_106 : decode cX4_magnet 106 = .ok (.ireturn, 1) := by decide +kernel
theorem dX4_magnet_107 : decode cX4_magnet 107 = .ok (.ldc 49, 2) := by decide +kernel
theorem dX4_magnet_109 : decode cX4_magnet 109 = .ok (.ireturn, 1) := by decide +kernel
theorem dX4_log_0 : decode cX4_log 0 = .ok (.iload_n 1, 1) := by decide +kernel
theorem dX4_log_1 : decode cX4_log 1 = .ok (.ifCond .lt 12, 3) := by decide +kernel
theorem dX4_log_4 : decode cX4_log 4 = .ok (.iload_n 2, 1) := by decide +kernel
theorem dX4_log_5 : decode cX4_log 5 = .ok (.iconst 0, 1) := by decide +kernel
theorem dX4_log_6 : decode cX4_log 6 = .ok (.iconst 2, 1) := by decide +kernel
theorem dX4_log_7 : decode cX4_log 7 = .ok (.invokestatic 45, 3) := by decide +kernel
theorem dX4_log_10 : decode cX4_log 10 = .ok (.ifCond .ne 6, 3) := by decide +kernel
theorem dX4_log_13 : decode cX4_log 13 = .ok (.ldc 49, 2) := by decide +kernel
theorem dX4_log_15 : decode cX4_log 15 = .ok (.ireturn, 1) := by decide +kernel
theorem dX4_log_16 : decode cX4_log 16 = .ok (.aload_n 0, 1) := by decide +kernel
theorem dX4_log_17 : decode cX4_log 17 = .ok (.getfield 10, 3) := by decide +kernel
theorem dX4_log_20 : decode cX4_log 20 = .ok (.getfield 64, 3) := by decide +kernel
theorem dX4_log_23 : decode cX4_log 23 = .ok (.astore_n 3, 1) := by decide +kernel
theorem dX4_log_24 : decode cX4_log 24 = .ok (.iload_n 1, 1) := by decide +kernel
theorem dX4_log_25 : decode cX4_log 25 = .ok (.aload_n 3, 1) := by decide +kernel
theorem dX4_log_26 : decode cX4_log 26 = .ok (.getfield 171, 3) := by decide +kernel
theorem dX4_log_29 : decode cX4_log 29 = .ok (.if_icmp .lt 6, 3) := by decide +kernel
theorem dX4_log_32 : decode cX4_log 32 = .ok (.ldc 151, 2) := by decide +kernel
theorem dX4_log_34 : decode cX4_log 34 = .ok (.ireturn, 1) := by decide +kernel
theorem dX4_log_35 : decode cX4_log 35 = .ok (.aload_n 3, 1) := by decide +kernel
theorem dX4_log_36 : decode cX4_log 36 = .ok (.getfield 171, 3) := by decide +kernel
theorem dX4_log_39 : decode cX4_log 39 = .ok (.iconst 1, 1) := by decide +kernel
theorem dX4_log_40 : decode cX4_log 40 = .ok (.isub, 1) := by decide +kernel
theorem dX4_log_41 : decode cX4_log 41 = .ok (.iload_n 1, 1) := by decide +kernel
theorem dX4_log_42 : decode cX4_log 42 = .ok (.isub, 1) := by decide +kernel
theorem dX4_log_43 : decode cX4_log 43 = .ok (.istore 4, 2) := by decide +kernel
theorem dX4_log_45 : decode cX4_log 45 = .ok (.iload_n 2, 1) := by decide +kernel
theorem dX4_log_46 : decode cX4_log 46 = .ok (.lookupswitch 42 #[(0, 26), (1, 34)], 26) := by decide +kernel
theorem dX4_log_72 : decode cX4_log 72 = .ok (.aload_n 3, 1) := by decide +kernel
theorem dX4_log_73 : decode cX4_log 73 = .ok (.getfield 193, 3) := by decide +kernel
theorem dX4_log_76 : decode cX4_log 76 = .ok (.iload 4, 2) := by decide +kernel
theorem dX4_log_78 : decode cX4_log 78 = .ok (.iaload, 1) := by decide +kernel
theorem dX4_log_79 : decode cX4_log 79 = .ok (.ireturn, 1) := by decide +kernel
theorem dX4_log_80 : decode cX4_log 80 = .ok (.aload_n 3, 1) := by decide +kernel
theorem dX4_log_81 : decode cX4_log 81 = .ok (.getfield 196, 3) := by decide +kernel
theorem dX4_log_84 : decode cX4_log 84 = .ok (.iload 4, 2) := by decide +kernel
theorem dX4_log_86 : decode cX4_log 86 = .ok (.iaload, 1) := by decide +kernel
theorem dX4_log_87 : decode cX4_log 87 = .ok (.ireturn, 1) := by decide +kernel
theorem dX4_log_88 : decode cX4_log 88 = .ok (.aload_n 3, 1) := by decide +kernel
theorem dX4_log_89 : decode cX4_log 89 = .ok (.getfield 199, 3) := by decide +kernel
theorem dX4_log_92 : decode cX4_log 92 = .ok (.iload 4, 2) := by decide +kernel
theorem dX4_log_94 : decode cX4_log 94 = .ok (.iaload, 1) := by decide +kernel
theorem dX4_log_95 : decode cX4_log 95 = .ok (.ireturn, 1) := by decide +kernel
theorem dX4_points_0 : decode cX4_points 0 = .ok (.iload_n 1, 1) := by decide +kernel
theorem dX4_points_1 : decode cX4_points 1 = .ok (.invokestatic 77, 3) := by decide +kernel
theorem dX4_points_4 : decode cX4_points 4 = .ok (.ifCond .eq 17, 3) := by decide +kernel
theorem dX4_points_7 : decode cX4_points 7 = .ok (.aload_n 0, 1) := by decide +kernel
theorem dX4_points_8 : decode cX4_points 8 = .ok (.getfield 10, 3) := by decide +kernel
theorem dX4_points_11 : decode cX4_points 11 = .ok (.getfield 50, 3) := by decide +kernel
theorem dX4_points_14 : decode cX4_points 14 = .ok (.iload_n 1, 1) := by decide +kernel
theorem dX4_points_15 : decode cX4_points 15 = .ok (.invokevirtual 202, 3) := by decide +kernel
theorem dX4_points_18 : decode cX4_points 18 = .ok (.goto 5, 3) := by decide +kernel
theorem dX4_points_21 : decode cX4_points 21 = .ok (.ldc 49, 2) := by decide +kernel
theorem dX4_points_23 : decode cX4_points 23 = .ok (.ireturn, 1) := by decide +kernel
theorem dX4_mean_0 : decode cX4_mean 0 = .ok (.aload_n 0, 1) := by decide +kernel
theorem dX4_mean_1 : decode cX4_mean 1 = .ok (.getfield 10, 3) := by decide +kernel
theorem dX4_mean_4 : decode cX4_mean 4 = .ok (.getfield 50, 3) := by decide +kernel
theorem dX4_mean_7 : decode cX4_mean 7 = .ok (.invokevirtual 159, 3) := by decide +kernel
theorem dX4_mean_10 : decode cX4_mean 10 = .ok (.i2f, 1) := by decide +kernel
theorem dX4_mean_11 : decode cX4_mean 11 = .ok (.aload_n 0, 1) := by decide +kernel
theorem dX4_mean_12 : decode cX4_mean 12 = .ok (.getfield 10, 3) := by decide +kernel
theorem dX4_mean_15 : decode cX4_mean 15 = .ok (.getfield 50, 3) := by decide +kernel
theorem dX4_mean_18 : decode cX4_mean 18 = .ok (.getfield 54, 3) := by decide +kernel
theorem dX4_mean_21 : decode cX4_mean 21 = .ok (.i2f, 1) := by decide +kernel
theorem dX4_mean_22 : decode cX4_mean 22 = .ok (.fdiv, 1) := by decide +kernel
theorem dX4_mean_23 : decode cX4_mean 23 = .ok (.freturn, 1) := by decide +kernel
theorem dX4_moved_0 : decode cX4_moved 0 = .ok (.aload_n 0, 1) := by decide +kernel
theorem dX4_moved_1 : decode cX4_moved 1 = .ok (.iload_n 1, 1) := by decide +kernel
theorem dX4_moved_2 : decode cX4_moved 2 = .ok (.invokevirtual 94, 3) := by decide +kernel
theorem dX4_moved_5 : decode cX4_moved 5 = .ok (.ifCond .eq 10, 3) := by decide +kernel
theorem dX4_moved_8 : decode cX4_moved 8 = .ok (.iload_n 2, 1) := by decide +kernel
theorem dX4_moved_9 : decode cX4_moved 9 = .ok (.invokestatic 126, 3) := by decide +kernel
theorem dX4_moved_12 : decode cX4_moved 12 = .ok (.ifCond .ne 6, 3) := by decide +kernel
theorem dX4_moved_15 : decode cX4_moved 15 = .ok (.ldc 49, 2) := by decide +kernel
theorem dX4_moved_17 : decode cX4_moved 17 = .ok (.ireturn, 1) := by decide +kernel
theorem dX4_moved_18 : decode cX4_moved 18 = .ok (.aload_n 0, 1) := by decide +kernel
theorem dX4_moved_19 : decode cX4_moved 19 = .ok (.getfield 10, 3) := by decide +kernel
theorem dX4_moved_22 : decode cX4_moved 22 = .ok (.getfield 50, 3) := by decide +kernel
theorem dX4_moved_25 : decode cX4_moved 25 = .ok (.getfield 105, 3) := by decide +kernel
theorem dX4_moved_28 : decode cX4_moved 28 = .ok (.iload_n 1, 1) := by decide +kernel
theorem dX4_moved_29 : decode cX4_moved 29 = .ok (.iaload, 1) := by decide +kernel
theorem dX4_moved_30 : decode cX4_moved 30 = .ok (.iconst 1, 1) := by decide +kernel
theorem dX4_moved_31 : decode cX4_moved 31 = .ok (.if_icmp .ne 6, 3) := by decide +kernel
theorem dX4_moved_34 : decode cX4_moved 34 = .ok (.ldc 97, 2) := by decide +kernel
theorem dX4_moved_36 : decode cX4_moved 36 = .ok (.ireturn, 1) := by decide +kernel
theorem dX4_moved_37 : decode cX4_moved 37 = .ok (.aload_n 0, 1) := by decide +kernel
theorem dX4_moved_38 : decode cX4_moved 38 = .ok (.getfield 40, 3) := by decide +kernel
theorem dX4_moved_41 : decode cX4_moved 41 = .ok (.iconst 0, 1) := by decide +kernel
theorem dX4_moved_42 : decode cX4_moved 42 = .ok (.aaload, 1) := by decide +kernel
theorem dX4_moved_43 : decode cX4_moved 43 = .ok (.astore_n 3, 1) := by decide +kernel
theorem dX4_moved_44 : decode cX4_moved 44 = .ok (.aload_n 3, 1) := by decide +kernel
theorem dX4_moved_45 : decode cX4_moved 45 = .ok (.aload_n 0, 1) := by decide +kernel
theorem dX4_moved_46 : decode cX4_moved 46 = .ok (.getfield 10, 3) := by decide +kernel
theorem dX4_moved_49 : decode cX4_moved 49 = .ok (.getfield 50, 3) := by decide +kernel
theorem dX4_moved_52 : decode cX4_moved 52 = .ok (.invokevirtual 205, 3) := by decide +kernel
theorem dX4_moved_55 : decode cX4_moved 55 = .ok (.aload_n 3, 1) := by decide +kernel
theorem dX4_moved_56 : decode cX4_moved 56 = .ok (.iload_n 1, 1) := by decide +kernel
theorem dX4_moved_57 : decode cX4_moved 57 = .ok (.iload_n 2, 1) := by decide +kernel
theorem dX4_moved_58 : decode cX4_moved 58 = .ok (.invokevirtual 129, 3) := by decide +kernel
theorem dX4_moved_61 : decode cX4_moved 61 = .ok (.aload_n 3, 1) := by decide +kernel
theorem dX4_moved_62 : decode cX4_moved 62 = .ok (.aconst_null, 1) := by decide +kernel
theorem dX4_moved_63 : decode cX4_moved 63 = .ok (.invokevirtual 73, 3) := by decide +kernel
theorem dX4_moved_66 : decode cX4_moved 66 = .ok (.ireturn, 1) := by decide +kernel
theorem dX4_loop_0 : decode cX4_loop 0 = .ok (.iload_n 1, 1) := by decide +kernel
theorem dX4_loop_1 : decode cX4_loop 1 = .ok (.iload_n 2, 1) := by decide +kernel
theorem dX4_loop_2 : decode cX4_loop 2 = .ok (.invokestatic 207, 3) := by decide +kernel
theorem dX4_loop_5 : decode cX4_loop 5 = .ok (.ifCond .eq 12, 3) := by decide +kernel
theorem dX4_loop_8 : decode cX4_loop 8 = .ok (.iload_n 3, 1) := by decide +kernel
theorem dX4_loop_9 : decode cX4_loop 9 = .ok (.iconst 0, 1) := by decide +kernel
theorem dX4_loop_10 : decode cX4_loop 10 = .ok (.iconst 4, 1) := by decide +kernel
theorem dX4_loop_11 : decode cX4_loop 11 = .ok (.invokestatic 45, 3) := by decide +kernel
theorem dX4_loop_14 : decode cX4_loop 14 = .ok (.ifCond .ne 6, 3) := by decide +kernel
theorem dX4_loop_17 : decode cX4_loop 17 = .ok (.ldc 49, 2) := by decide +kernel
theorem dX4_loop_19 : decode cX4_loop 19 = .ok (.ireturn, 1) := by decide +kernel
theorem dX4_loop_20 : decode cX4_loop 20 = .ok (.aload_n 0, 1) := by decide +kernel
theorem dX4_loop_21 : decode cX4_loop 21 = .ok (.getfield 40, 3) := by decide +kernel
theorem dX4_loop_24 : decode cX4_loop 24 = .ok (.iconst 0, 1) := by decide +kernel
theorem dX4_loop_25 : decode cX4_loop 25 = .ok (.aaload, 1) := by decide +kernel
theorem dX4_loop_26 : decode cX4_loop 26 = .ok (.astore 4, 2) := by decide +kernel
theorem dX4_loop_28 : decode cX4_loop 28 = .ok (.aload 4, 2) := by decide +kernel
theorem dX4_loop_30 : decode cX4_loop 30 = .ok (.aload_n 0, 1) := by decide +kernel
theorem dX4_loop_31 : decode cX4_loop 31 = .ok (.getfield 10, 3) := by decide +kernel
theorem dX4_loop_34 : decode cX4_loop 34 = .ok (.getfield 50, 3) := by decide +kernel
theorem dX4_loop_37 : decode cX4_loop 37 = .ok (.invokevirtual 205, 3) := by decide +kernel
theorem dX4_loop_40 : decode cX4_loop 40 = .ok (.iload_n 1, 1) := by decide +kernel
theorem dX4_loop_41 : decode cX4_loop 41 = .ok (.iload_n 2, 1) := by decide +kernel
theorem dX4_loop_42 : decode cX4_loop 42 = .ok (.idiv, 1) := by decide +kernel
theorem dX4_loop_43 : decode cX4_loop 43 = .ok (.istore 5, 2) := by decide +kernel
theorem dX4_loop_45 : decode cX4_loop 45 = .ok (.iconst 0, 1) := by decide +kernel
theorem dX4_loop_46 : decode cX4_loop 46 = .ok (.istore 6, 2) := by decide +kernel
theorem dX4_loop_48 : decode cX4_loop 48 = .ok (.iconst 0, 1) := by decide +kernel
theorem dX4_loop_49 : decode cX4_loop 49 = .ok (.istore 7, 2) := by decide +kernel
theorem dX4_loop_51 : decode cX4_loop 51 = .ok (.ldc 151, 2) := by decide +kernel
theorem dX4_loop_53 : decode cX4_loop 53 = .ok (.istore 8, 2) := by decide +kernel
theorem dX4_loop_55 : decode cX4_loop 55 = .ok (.iconst 0, 1) := by decide +kernel
theorem dX4_loop_56 : decode cX4_loop 56 = .ok (.istore 9, 2) := by decide +kernel
theorem dX4_loop_58 : decode cX4_loop 58 = .ok (.iconst 0, 1) := by decide +kernel
theorem dX4_loop_59 : decode cX4_loop 59 = .ok (.istore 10, 2) := by decide +kernel
theorem dX4_loop_61 : decode cX4_loop 61 = .ok (.iconst 0, 1) := by decide +kernel
theorem dX4_loop_62 : decode cX4_loop 62 = .ok (.istore 11, 2) := by decide +kernel
theorem dX4_loop_64 : decode cX4_loop 64 = .ok (.iload 11, 2) := by decide +kernel
theorem dX4_loop_66 : decode cX4_loop 66 = .ok (.iconst 5, 1) := by decide +kernel
theorem dX4_loop_67 : decode cX4_loop 67 = .ok (.iload 5, 2) := by decide +kernel
theorem dX4_loop_69 : decode cX4_loop 69 = .ok (.imul, 1) := by decide +kernel
theorem dX4_loop_70 : decode cX4_loop 70 = .ok (.if_icmp .gt 149, 3) := by decide +kernel
theorem dX4_loop_73 : decode cX4_loop 73 = .ok (.iload 11, 2) := by decide +kernel
theorem dX4_loop_75 : decode cX4_loop 75 = .ok (.iload 5, 2) := by decide +kernel
theorem dX4_loop_77 : decode cX4_loop 77 = .ok (.if_icmp .le 7, 3) := by decide +kernel
theorem dX4_loop_80 : decode cX4_loop 80 = .ok (.iconst 1, 1) := by decide +kernel
theorem dX4_loop_81 : decode cX4_loop 81 = .ok (.goto 4, 3) := by decide +kernel
theorem dX4_loop_84 : decode cX4_loop 84 = .ok (.iconst 0, 1) := by decide +kernel
theorem dX4_loop_85 : decode cX4_loop 85 = .ok (.istore 12, 2) := by decide +kernel
theorem dX4_loop_87 : decode cX4_loop 87 = .ok (.iload 12, 2) := by decide +kernel
theorem dX4_loop_89 : decode cX4_loop 89 = .ok (.ifCond .eq 16, 3) := by decide +kernel
theorem dX4_loop_92 : decode cX4_loop 92 = .ok (.iload 11, 2) := by decide +kernel
theorem dX4_loop_94 : decode cX4_loop 94 = .ok (.iconst 3, 1) := by decide +kernel
theorem dX4_loop_95 : decode cX4_loop 95 = .ok (.iload 5, 2) := by decide +kernel
theorem dX4_loop_97 : decode cX4_loop 97 = .ok (.imul, 1) := by decide +kernel
theorem dX4_loop_98 : decode cX4_loop 98 = .ok (.if_icmp .gt 7, 3) := by decide +kernel
theorem dX4_loop_101 : decode cX4_loop 101 = .ok (.iconst 1, 1) := by decide +kernel
theorem dX4_loop_102 : decode cX4_loop 102 = .ok (.goto 4, 3) := by decide +kernel
theorem dX4_loop_105 : decode cX4_loop 105 = .ok (.iconst 0, 1) := by decide +kernel
theorem dX4_loop_106 : decode cX4_loop 106 = .ok (.istore 13, 2) := by decide +kernel
theorem dX4_loop_108 : decode cX4_loop 108 = .ok (.iload 10, 2) := by decide +kernel
theorem dX4_loop_110 : decode cX4_loop 110 = .ok (.istore 14, 2) := by decide +kernel
theorem dX4_loop_112 : decode cX4_loop 112 = .ok (.aload 4, 2) := by decide +kernel
theorem dX4_loop_114 : decode cX4_loop 114 = .ok (.iload 11, 2) := by decide +kernel
theorem dX4_loop_116 : decode cX4_loop 116 = .ok (.iload 5, 2) := by decide +kernel
theorem dX4_loop_118 : decode cX4_loop 118 = .ok (.invokestatic 210, 3) := by decide +kernel
theorem dX4_loop_121 : decode cX4_loop 121 = .ok (.iload_n 2, 1) := by decide +kernel
theorem dX4_loop_122 : decode cX4_loop 122 = .ok (.imul, 1) := by decide +kernel
theorem dX4_loop_123 : decode cX4_loop 123 = .ok (.putfield 145, 3) := by decide +kernel
theorem dX4_loop_126 : decode cX4_loop 126 = .ok (.iload 9, 2) := by decide +kernel
theorem dX4_loop_128 : decode cX4_loop 128 = .ok (.aload 4, 2) := by decide +kernel
theorem dX4_loop_130 : decode cX4_loop 130 = .ok (.aconst_null, 1) := by decide +kernel
theorem dX4_loop_131 : decode cX4_loop 131 = .ok (.invokevirtual 73, 3) := by decide +kernel
theorem dX4_loop_134 : decode cX4_loop 134 = .ok (.iadd, 1) := by decide +kernel
theorem dX4_loop_135 : decode cX4_loop 135 = .ok (.istore 9, 2) := by decide +kernel
theorem dX4_loop_137 : decode cX4_loop 137 = .ok (.aload 4, 2) := by decide +kernel
theorem dX4_loop_139 : decode cX4_loop 139 = .ok (.aload 4, 2) := by decide +kernel
theorem dX4_loop_141 : decode cX4_loop 141 = .ok (.getfield 148, 3) := by decide +kernel
theorem dX4_loop_144 : decode cX4_loop 144 = .ok (.invokevirtual 202, 3) := by decide +kernel
theorem dX4_loop_147 : decode cX4_loop 147 = .ok (.istore 10, 2) := by decide +kernel
theorem dX4_loop_149 : decode cX4_loop 149 = .ok (.iload 12, 2) := by decide +kernel
theorem dX4_loop_151 : decode cX4_loop 151 = .ok (.ifCond .eq 25, 3) := by decide +kernel
theorem dX4_loop_154 : decode cX4_loop 154 = .ok (.iload 6, 2) := by decide +kernel
theorem dX4_loop_156 : decode cX4_loop 156 = .ok (.iload 14, 2) := by decide +kernel
theorem dX4_loop_158 : decode cX4_loop 158 = .ok (.iload 10, 2) := by decide +kernel
theorem dX4_loop_160 : decode cX4_loop 160 = .ok (.iadd, 1) := by decide +kernel
theorem dX4_loop_161 : decode cX4_loop 161 = .ok (.iload 13, 2) := by decide +kernel
theorem dX4_loop_163 : decode cX4_loop 163 = .ok (.ifCond .eq 8, 3) := by decide +kernel
theorem dX4_loop_166 : decode cX4_loop 166 = .ok (.iload_n 2, 1) := by decide +kernel
theorem dX4_loop_167 : decode cX4_loop 167 = .ok (.ineg, 1) := by decide +kernel
theorem dX4_loop_168 : decode cX4_loop 168 = .ok (.goto 4, 3) := by decide +kernel
theorem dX4_loop_171 : decode cX4_loop 171 = .ok (.iload_n 2, 1) := by decide +kernel
theorem dX4_loop_172 : decode cX4_loop 172 = .ok (.imul, 1) := by decide +kernel
theorem dX4_loop_173 : decode cX4_loop 173 = .ok (.iadd, 1) := by decide +kernel
theorem dX4_loop_174 : decode cX4_loop 174 = .ok (.istore 6, 2) := by decide +kernel
theorem dX4_loop_176 : decode cX4_loop 176 = .ok (.iload 11, 2) := by decide +kernel
theorem dX4_loop_178 : decode cX4_loop 178 = .ok (.iconst 2, 1) := by decide +kernel
theorem dX4_loop_179 : decode cX4_loop 179 = .ok (.iload 5, 2) := by decide +kernel
theorem dX4_loop_181 : decode cX4_loop 181 = .ok (.imul, 1) := by decide +kernel
theorem dX4_loop_182 : decode cX4_loop 182 = .ok (.if_icmp .ne 7, 3) := by decide +kernel
theorem dX4_loop_185 : decode cX4_loop 185 = .ok (.iload 10, 2) := by decide +kernel
theorem dX4_loop_187 : decode cX4_loop 187 = .ok (.istore 7, 2) := by decide +kernel
theorem dX4_loop_189 : decode cX4_loop 189 = .ok (.iload 13, 2) := by decide +kernel
theorem dX4_loop_191 : decode cX4_loop 191 = .ok (.ifCond .eq 22, 3) := by decide +kernel
theorem dX4_loop_194 : decode cX4_loop 194 = .ok (.iload 10, 2) := by decide +kernel
theorem dX4_loop_196 : decode cX4_loop 196 = .ok (.ifCond .gt 17, 3) := by decide +kernel
theorem dX4_loop_199 : decode cX4_loop 199 = .ok (.iload 8, 2) := by decide +kernel
theorem dX4_loop_201 : decode cX4_loop 201 = .ok (.ldc 151, 2) := by decide +kernel
theorem dX4_loop_203 : decode cX4_loop 203 = .ok (.if_icmp .ne 10, 3) := by decide +kernel
theorem dX4_loop_206 : decode cX4_loop 206 = .ok (.aload 4, 2) := by decide +kernel
theorem dX4_loop_208 : decode cX4_loop 208 = .ok (.getfield 145, 3) := by decide +kernel
theorem dX4_loop_211 : decode cX4_loop 211 = .ok (.istore 8, 2) := by decide +kernel
theorem dX4_loop_213 : decode cX4_loop 213 = .ok (.iinc 11 1, 3) := by decide +kernel
theorem dX4_loop_216 : decode cX4_loop 216 = .ok (.goto (-152), 3) := by decide +kernel
theorem dX4_loop_219 : decode cX4_loop 219 = .ok (.iload_n 3, 1) := by decide +kernel
theorem dX4_loop_220 : decode cX4_loop 220 = .ok (.tableswitch 44 0 3 #[32, 35, 38, 41], 32) := by decide +kernel
theorem dX4_loop_252 : decode cX4_loop 252 = .ok (.iload 6, 2) := by decide +kernel
theorem dX4_loop_254 : decode cX4_loop 254 = .ok (.ireturn, 1) := by decide +kernel
theorem dX4_loop_255 : decode cX4_loop 255 = .ok (.iload 7, 2) := by decide +kernel
theorem dX4_loop_257 : decode cX4_loop 257 = .ok (.ireturn, 1) := by decide +kernel
theorem dX4_loop_258 : decode cX4_loop 258 = .ok (.iload 8, 2) := by decide +kernel
theorem dX4_loop_260 : decode cX4_loop 260 = .ok (.ireturn, 1) := by decide +kernel
theorem dX4_loop_261 : decode cX4_loop 261 = .ok (.iload 9, 2) := by decide +kernel
theorem dX4_loop_263 : decode cX4_loop 263 = .ok (.ireturn, 1) := by decide +kernel
theorem dX4_loop_264 : decode cX4_loop 264 = .ok (.iload 10, 2) := by decide +kernel
theorem dX4_loop_266 : decode cX4_loop 266 = .ok (.ireturn, 1) := by decide +kernel
theorem dX4_solve_0 : decode cX4_solve 0 = .ok (.iload_n 1, 1) := by decide +kernel
theorem dX4_solve_1 : decode cX4_solve 1 = .ok (.iconst 0, 1) := by decide +kernel
theorem dX4_solve_2 : decode cX4_solve 2 = .ok (.iconst 3, 1) := by decide +kernel
theorem dX4_solve_3 : decode cX4_solve 3 = .ok (.invokestatic 45, 3) := by decide +kernel
theorem dX4_solve_6 : decode cX4_solve 6 = .ok (.ifCond .eq 12, 3) := by decide +kernel
theorem dX4_solve_9 : decode cX4_solve 9 = .ok (.iload_n 2, 1) := by decide +kernel
theorem dX4_solve_10 : decode cX4_solve 10 = .ok (.iconst 0, 1) := by decide +kernel
theorem dX4_solve_11 : decode cX4_solve 11 = .ok (.iconst 2, 1) := by decide +kernel
theorem dX4_solve_12 : decode cX4_solve 12 = .ok (.invokestatic 45, 3) := by decide +kernel
theorem dX4_solve_15 : decode cX4_solve 15 = .ok (.ifCond .ne 6, 3) := by decide +kernel
theorem dX4_solve_18 : decode cX4_solve 18 = .ok (.ldc 49, 2) := by decide +kernel
theorem dX4_solve_20 : decode cX4_solve 20 = .ok (.ireturn, 1) := by decide +kernel
theorem dX4_solve_21 : decode cX4_solve 21 = .ok (.aload_n 0, 1) := by decide +kernel
theorem dX4_solve_22 : decode cX4_solve 22 = .ok (.getfield 10, 3) := by decide +kernel
theorem dX4_solve_25 : decode cX4_solve 25 = .ok (.getfield 50, 3) := by decide +kernel
theorem dX4_solve_28 : decode cX4_solve 28 = .ok (.invokevirtual 177, 3) := by decide +kernel
theorem dX4_solve_31 : decode cX4_solve 31 = .ok (.ifCond .ne 14, 3) := by decide +kernel
theorem dX4_solve_34 : decode cX4_solve 34 = .ok (.iload_n 2, 1) := by decide +kernel
theorem dX4_solve_35 : decode cX4_solve 35 = .ok (.ifCond .ne 7, 3) := by decide +kernel
theorem dX4_solve_38 : decode cX4_solve 38 = .ok (.iconst 0, 1) := by decide +kernel
theorem dX4_solve_39 : decode cX4_solve 39 = .ok (.goto 5, 3) := by decide +kernel
theorem dX4_solve_42 : decode cX4_solve 42 = .ok (.ldc 151, 2) := by decide +kernel
theorem dX4_solve_44 : decode cX4_solve 44 = .ok (.ireturn, 1) := by decide +kernel
theorem dX4_solve_45 : decode cX4_solve 45 = .ok (.iconst 0, 1) := by decide +kernel
theorem dX4_solve_46 : decode cX4_solve 46 = .ok (.istore_n 3, 1) := by decide +kernel
theorem dX4_solve_47 : decode cX4_solve 47 = .ok (.iload_n 3, 1) := by decide +kernel
theorem dX4_solve_48 : decode cX4_solve 48 = .ok (.aload_n 0, 1) := by decide +kernel
theorem dX4_solve_49 : decode cX4_solve 49 = .ok (.getfield 40, 3) := by decide +kernel
theorem dX4_solve_52 : decode cX4_solve 52 = .ok (.arraylength, 1) := by decide +kernel
theorem dX4_solve_53 : decode cX4_solve 53 = .ok (.if_icmp .ge 25, 3) := by decide +kernel
theorem dX4_solve_56 : decode cX4_solve 56 = .ok (.aload_n 0, 1) := by decide +kernel
theorem dX4_solve_57 : decode cX4_solve 57 = .ok (.getfield 40, 3) := by decide +kernel
theorem dX4_solve_60 : decode cX4_solve 60 = .ok (.iload_n 3, 1) := by decide +kernel
theorem dX4_solve_61 : decode cX4_solve 61 = .ok (.aaload, 1) := by decide +kernel
theorem dX4_solve_62 : decode cX4_solve 62 = .ok (.aload_n 0, 1) := by decide +kernel
theorem dX4_solve_63 : decode cX4_solve 63 = .ok (.getfield 10, 3) := by decide +kernel
theorem dX4_solve_66 : decode cX4_solve 66 = .ok (.getfield 50, 3) := by decide +kernel
theorem dX4_solve_69 : decode cX4_solve 69 = .ok (.invokevirtual 205, 3) := by decide +kernel
theorem dX4_solve_72 : decode cX4_solve 72 = .ok (.iinc 3 1, 3) := by decide +kernel
theorem dX4_solve_75 : decode cX4_solve 75 = .ok (.goto (-28), 3) := by decide +kernel
theorem dX4_solve_78 : decode cX4_solve 78 = .ok (.iconst 1, 1) := by decide +kernel
theorem dX4_solve_79 : decode cX4_solve 79 = .ok (.istore_n 3, 1) := by decide +kernel
theorem dX4_solve_80 : decode cX4_solve 80 = .ok (.iload_n 3, 1) := by decide +kernel
theorem dX4_solve_81 : decode cX4_solve 81 = .ok (.iload_n 1, 1) := by decide +kernel
theorem dX4_solve_82 : decode cX4_solve 82 = .ok (.if_icmp .gt 70, 3) := by decide +kernel
theorem dX4_solve_85 : decode cX4_solve 85 = .ok (.aload_n 0, 1) := by decide +kernel
theorem dX4_solve_86 : decode cX4_solve 86 = .ok (.getfield 40, 3) := by decide +kernel
theorem dX4_solve_89 : decode cX4_solve 89 = .ok (.iconst 0, 1) := by decide +kernel
theorem dX4_solve_90 : decode cX4_solve 90 = .ok (.iload_n 3, 1) := by decide +kernel
theorem dX4_solve_91 : decode cX4_solve 91 = .ok (.invokestatic 213, 3) := by decide +kernel
theorem dX4_solve_94 : decode cX4_solve 94 = .ok (.istore 4, 2) := by decide +kernel
theorem dX4_solve_96 : decode cX4_solve 96 = .ok (.iload 4, 2) := by decide +kernel
theorem dX4_solve_98 : decode cX4_solve 98 = .ok (.ldc 151, 2) := by decide +kernel
theorem dX4_solve_100 : decode cX4_solve 100 = .ok (.if_icmp .eq 46, 3) := by decide +kernel
theorem dX4_solve_103 : decode cX4_solve 103 = .ok (.iload_n 2, 1) := by decide +kernel
theorem dX4_solve_104 : decode cX4_solve 104 = .ok (.lookupswitch 36 #[(0, 28), (1, 30)], 28) := by decide +kernel
theorem dX4_solve_132 : decode cX4_solve 132 = .ok (.iload_n 3, 1) := by decide +kernel
theorem dX4_solve_133 : decode cX4_solve 133 = .ok (.ireturn, 1) := by decide +kernel
theorem dX4_solve_134 : decode cX4_solve 134 = .ok (.iload 4, 2) := by decide +kernel
theorem dX4_solve_136 : decode cX4_solve 136 = .ok (.invokestatic 217, 3) := by decide +kernel
theorem dX4_solve_139 : decode cX4_solve 139 = .ok (.ireturn, 1) := by decide +kernel
theorem dX4_solve_140 : decode cX4_solve 140 = .ok (.iload 4, 2) := by decide +kernel
theorem dX4_solve_142 : decode cX4_solve 142 = .ok (.invokestatic 220, 3) := by decide +kernel
theorem dX4_solve_145 : decode cX4_solve 145 = .ok (.ireturn, 1) := by decide +kernel
theorem dX4_solve_146 : decode cX4_solve 146 = .ok (.iinc 3 1, 3) := by decide +kernel
theorem dX4_solve_149 : decode cX4_solve 149 = .ok (.goto (-69), 3) := by decide +kernel
theorem dX4_solve_152 : decode cX4_solve 152 = .ok (.ldc 151, 2) := by decide +kernel
theorem dX4_solve_154 : decode cX4_solve 154 = .ok (.ireturn, 1) := by decide +kernel
theorem dX4_write_0 : decode cX4_write 0 = .ok (.iload_n 1, 1) := by decide +kernel
theorem dX4_write_1 : decode cX4_write 1 = .ok (.bipush 32, 2) := by decide +kernel
theorem dX4_write_3 : decode cX4_write 3 = .ok (.bipush 126, 2) := by decide +kernel
theorem dX4_write_5 : decode cX4_write 5 = .ok (.invokestatic 45, 3) := by decide +kernel
theorem dX4_write_8 : decode cX4_write 8 = .ok (.ifCond .ne 6, 3) := by decide +kernel
theorem dX4_write_11 : decode cX4_write 11 = .ok (.ldc 49, 2) := by decide +kernel
theorem dX4_write_13 : decode cX4_write 13 = .ok (.ireturn, 1) := by decide +kernel
theorem dX4_write_14 : decode cX4_write 14 = .ok (.aload_n 0, 1) := by decide +kernel
theorem dX4_write_15 : decode cX4_write 15 = .ok (.getfield 34, 3) := by decide +kernel
theorem dX4_write_18 : decode cX4_write 18 = .ok (.iload_n 1, 1) := by decide +kernel
theorem dX4_write_19 : decode cX4_write 19 = .ok (.invokevirtual 223, 3) := by decide +kernel
theorem dX4_write_22 : decode cX4_write 22 = .ok (.ifCond .eq 13, 3) := by decide +kernel
theorem dX4_write_25 : decode cX4_write 25 = .ok (.aload_n 0, 1) := by decide +kernel
theorem dX4_write_26 : decode cX4_write 26 = .ok (.getfield 34, 3) := by decide +kernel
theorem dX4_write_29 : decode cX4_write 29 = .ok (.getfield 183, 3) := by decide +kernel
theorem dX4_write_32 : decode cX4_write 32 = .ok (.goto 5, 3) := by decide +kernel
theorem dX4_write_35 : decode cX4_write 35 = .ok (.ldc 81, 2) := by decide +kernel
theorem dX4_write_37 : decode cX4_write 37 = .ok (.ireturn, 1) := by decide +kernel
theorem dX4_wipe_0 : decode cX4_wipe 0 = .ok (.aload_n 0, 1) := by decide +kernel
theorem dX4_wipe_1 : decode cX4_wipe 1 = .ok (.getfield 34, 3) := by decide +kernel
theorem dX4_wipe_4 : decode cX4_wipe 4 = .ok (.getfield 183, 3) := by decide +kernel
theorem dX4_wipe_7 : decode cX4_wipe 7 = .ok (.istore_n 1, 1) := by decide +kernel
theorem dX4_wipe_8 : decode cX4_wipe 8 = .ok (.aload_n 0, 1) := by decide +kernel
theorem dX4_wipe_9 : decode cX4_wipe 9 = .ok (.getfield 34, 3) := by decide +kernel
theorem dX4_wipe_12 : decode cX4_wipe 12 = .ok (.iconst 0, 1) := by decide +kernel
theorem dX4_wipe_13 : decode cX4_wipe 13 = .ok (.putfield 183, 3) := by decide +kernel
theorem dX4_wipe_16 : decode cX4_wipe 16 = .ok (.iload_n 1, 1) := by decide +kernel
theorem dX4_wipe_17 : decode cX4_wipe 17 = .ok (.ireturn, 1) := by decide +kernel
theorem dX4_load_0 : decode cX4_load 0 = .ok (.aload_n 0, 1) := by decide +kernel
theorem dX4_load_1 : decode cX4_load 1 = .ok (.getfield 40, 3) := by decide +kernel
theorem dX4_load_4 : decode cX4_load 4 = .ok (.iconst 0, 1) := by decide +kernel
theorem dX4_load_5 : decode cX4_load 5 = .ok (.aaload, 1) := by decide +kernel
theorem dX4_load_6 : decode cX4_load 6 = .ok (.astore_n 1, 1) := by decide +kernel
theorem dX4_load_7 : decode cX4_load 7 = .ok (.aload_n 0, 1) := by decide +kernel
theorem dX4_load_8 : decode cX4_load 8 = .ok (.getfield 34, 3) := by decide +kernel
theorem dX4_load_11 : decode cX4_load 11 = .ok (.aload_n 1, 1) := by decide +kernel
theorem dX4_load_12 : decode cX4_load 12 = .ok (.invokevirtual 225, 3) := by decide +kernel
theorem dX4_load_15 : decode cX4_load 15 = .ok (.ifCond .ne 6, 3) := by decide +kernel
theorem dX4_load_18 : decode cX4_load 18 = .ok (.ldc 97, 2) := by decide +kernel
theorem dX4_load_20 : decode cX4_load 20 = .ok (.ireturn, 1) := by decide +kernel
theorem dX4_load_21 : decode cX4_load 21 = .ok (.aload_n 0, 1) := by decide +kernel
theorem dX4_load_22 : decode cX4_load 22 = .ok (.invokevirtual 82, 3) := by decide +kernel
theorem dX4_load_25 : decode cX4_load 25 = .ok (.istore_n 2, 1) := by decide +kernel
theorem dX4_load_26 : decode cX4_load 26 = .ok (.aload_n 0, 1) := by decide +kernel
theorem dX4_load_27 : decode cX4_load 27 = .ok (.getfield 10, 3) := by decide +kernel
theorem dX4_load_30 : decode cX4_load 30 = .ok (.getfield 50, 3) := by decide +kernel
theorem dX4_load_33 : decode cX4_load 33 = .ok (.aload_n 1, 1) := by decide +kernel
theorem dX4_load_34 : decode cX4_load 34 = .ok (.invokevirtual 115, 3) := by decide +kernel
theorem dX4_load_37 : decode cX4_load 37 = .ok (.aload_n 0, 1) := by decide +kernel
theorem dX4_load_38 : decode cX4_load 38 = .ok (.iload_n 2, 1) := by decide +kernel
theorem dX4_load_39 : decode cX4_load 39 = .ok (.invokevirtual 90, 3) := by decide +kernel
theorem dX4_load_42 : decode cX4_load 42 = .ok (.pop, 1) := by decide +kernel
theorem dX4_load_43 : decode cX4_load 43 = .ok (.aload_n 0, 1) := by decide +kernel
theorem dX4_load_44 : decode cX4_load 44 = .ok (.getfield 10, 3) := by decide +kernel
theorem dX4_load_47 : decode cX4_load 47 = .ok (.getfield 50, 3) := by decide +kernel
theorem dX4_load_50 : decode cX4_load 50 = .ok (.getfield 54, 3) := by decide +kernel
theorem dX4_load_53 : decode cX4_load 53 = .ok (.ireturn, 1) := by decide +kernel
theorem dX4_fault_0 : decode cX4_fault 0 = .ok (.iload_n 1, 1) := by decide +kernel
theorem dX4_fault_1 : decode cX4_fault 1 = .ok (.lookupswitch 43 #[(0, 27), (1, 35)], 27) := by decide +kernel
theorem dX4_fault_28 : decode cX4_fault 28 = .ok (.aload_n 0, 1) := by decide +kernel
theorem dX4_fault_29 : decode cX4_fault 29 = .ok (.getfield 34, 3) := by decide +kernel
theorem dX4_fault_32 : decode cX4_fault 32 = .ok (.getfield 229, 3) := by decide +kernel
theorem dX4_fault_35 : decode cX4_fault 35 = .ok (.ireturn, 1) := by decide +kernel
theorem dX4_fault_36 : decode cX4_fault 36 = .ok (.aload_n 0, 1) := by decide +kernel
theorem dX4_fault_37 : decode cX4_fault 37 = .ok (.getfield 34, 3) := by decide +kernel
theorem dX4_fault_40 : decode cX4_fault 40 = .ok (.getfield 232, 3) := by decide +kernel
theorem dX4_fault_43 : decode cX4_fault 43 = .ok (.ireturn, 1) := by decide +kernel
theorem dX4_fault_44 : decode cX4_fault 44 = .ok (.ldc 49, 2) := by decide +kernel
theorem dX4_fault_46 : decode cX4_fault 46 = .ok (.ireturn, 1) := by decide +kernel
theorem dX4_keep_0 : decode cX4_keep 0 = .ok (.iload_n 1, 1) := by decide +kernel
theorem dX4_keep_1 : decode cX4_keep 1 = .ok (.iconst 0, 1) := by decide +kernel
theorem dX4_keep_2 : decode cX4_keep 2 = .ok (.iconst 1, 1) := by decide +kernel
theorem dX4_keep_3 : decode cX4_keep 3 = .ok (.invokestatic 45, 3) := by decide +kernel
theorem dX4_keep_6 : decode cX4_keep 6 = .ok (.ifCond .ne 6, 3) := by decide +kernel
theorem dX4_keep_9 : decode cX4_keep 9 = .ok (.ldc 49, 2) := by decide +kernel
theorem dX4_keep_11 : decode cX4_keep 11 = .ok (.ireturn, 1) := by decide +kernel
theorem dX4_keep_12 : decode cX4_keep 12 = .ok (.aload_n 0, 1) := by decide +kernel
theorem dX4_keep_13 : decode cX4_keep 13 = .ok (.getfield 24, 3) := by decide +kernel
theorem dX4_keep_16 : decode cX4_keep 16 = .ok (.iload_n 1, 1) := by decide +kernel
theorem dX4_keep_17 : decode cX4_keep 17 = .ok (.aaload, 1) := by decide +kernel
theorem dX4_keep_18 : decode cX4_keep 18 = .ok (.aload_n 0, 1) := by decide +kernel
theorem dX4_keep_19 : decode cX4_keep 19 = .ok (.getfield 10, 3) := by decide +kernel
theorem dX4_keep_22 : decode cX4_keep 22 = .ok (.invokevirtual 155, 3) := by decide +kernel
theorem dX4_keep_25 : decode cX4_keep 25 = .ok (.aload_n 0, 1) := by decide +kernel
theorem dX4_keep_26 : decode cX4_keep 26 = .ok (.getfield 27, 3) := by decide +kernel
theorem dX4_keep_29 : decode cX4_keep 29 = .ok (.iload_n 1, 1) := by decide +kernel
theorem dX4_keep_30 : decode cX4_keep 30 = .ok (.iconst 1, 1) := by decide +kernel
theorem dX4_keep_31 : decode cX4_keep 31 = .ok (.bastore, 1) := by decide +kernel
theorem dX4_keep_32 : decode cX4_keep 32 = .ok (.aload_n 0, 1) := by decide +kernel
theorem dX4_keep_33 : decode cX4_keep 33 = .ok (.getfield 10, 3) := by decide +kernel
theorem dX4_keep_36 : decode cX4_keep 36 = .ok (.getfield 50, 3) := by decide +kernel
theorem dX4_keep_39 : decode cX4_keep 39 = .ok (.getfield 54, 3) := by decide +kernel
theorem dX4_keep_42 : decode cX4_keep 42 = .ok (.ireturn, 1) := by decide +kernel
theorem dX4_back_0 : decode cX4_back 0 = .ok (.iload_n 1, 1) := by decide +kernel
theorem dX4_back_1 : decode cX4_back 1 = .ok (.iconst 0, 1) := by decide +kernel
theorem dX4_back_2 : decode cX4_back 2 = .ok (.iconst 1, 1) := by decide +kernel
theorem dX4_back_3 : decode cX4_back 3 = .ok (.invokestatic 45, 3) := by decide +kernel
theorem dX4_back_6 : decode cX4_back 6 = .ok (.ifCond .ne 6, 3) := by decide +kernel
theorem dX4_back_9 : decode cX4_back 9 = .ok (.ldc 49, 2) := by decide +kernel
theorem dX4_back_11 : decode cX4_back 11 = .ok (.ireturn, 1) := by decide +kernel
theorem dX4_back_12 : decode cX4_back 12 = .ok (.aload_n 0, 1) := by decide +kernel
theorem dX4_back_13 : decode cX4_back 13 = .ok (.getfield 27, 3) := by decide +kernel
theorem dX4_back_16 : decode cX4_back 16 = .ok (.iload_n 1, 1) := by decide +kernel
theorem dX4_back_17 : decode cX4_back 17 = .ok (.baload, 1) := by decide +kernel
theorem dX4_back_18 : decode cX4_back 18 = .ok (.ifCond .ne 6, 3) := by decide +kernel
theorem dX4_back_21 : decode cX4_back 21 = .ok (.ldc 97, 2) := by decide +kernel
theorem dX4_back_23 : decode cX4_back 23 = .ok (.ireturn, 1) := by decide +kernel
theorem dX4_back_24 : decode cX4_back 24 = .ok (.aload_n 0, 1) := by decide +kernel
theorem dX4_back_25 : decode cX4_back 25 = .ok (.invokevirtual 57, 3) := by decide +kernel
theorem dX4_back_28 : decode cX4_back 28 = .ok (.aload_n 0, 1) := by decide +kernel
theorem dX4_back_29 : decode cX4_back 29 = .ok (.getfield 10, 3) := by decide +kernel
theorem dX4_back_32 : decode cX4_back 32 = .ok (.aload_n 0, 1) := by decide +kernel
theorem dX4_back_33 : decode cX4_back 33 = .ok (.getfield 24, 3) := by decide +kernel
theorem dX4_back_36 : decode cX4_back 36 = .ok (.iload_n 1, 1) := by decide +kernel
theorem dX4_back_37 : decode cX4_back 37 = .ok (.aaload, 1) := by decide +kernel
theorem dX4_back_38 : decode cX4_back 38 = .ok (.invokevirtual 155, 3) := by decide +kernel
theorem dX4_back_41 : decode cX4_back 41 = .ok (.aload_n 0, 1) := by decide +kernel
theorem dX4_back_42 : decode cX4_back 42 = .ok (.getfield 10, 3) := by decide +kernel
theorem dX4_back_45 : decode cX4_back 45 = .ok (.getfield 50, 3) := by decide +kernel
theorem dX4_back_48 : decode cX4_back 48 = .ok (.getfield 54, 3) := by decide +kernel
theorem dX4_back_51 : decode cX4_back 51 = .ok (.ireturn, 1) := by decide +kernel
theorem dX4_isWithin_0 : decode cX4_isWithin 0 = .ok (.iload_n 0, 1) := by decide +kernel
theorem dX4_isWithin_1 : decode cX4_isWithin 1 = .ok (.iload_n 1, 1) := by decide +kernel
theorem dX4_isWithin_2 : decode cX4_isWithin 2 = .ok (.if_icmp .lt 12, 3) := by decide +kernel
theorem dX4_isWithin_5 : decode cX4_isWithin 5 = .ok (.iload_n 0, 1) := by decide +kernel
theorem dX4_isWithin_6 : decode cX4_isWithin 6 = .ok (.iload_n 2, 1) := by decide +kernel
theorem dX4_isWithin_7 : decode cX4_isWithin 7 = .ok (.if_icmp .gt 7, 3) := by decide +kernel
theorem dX4_isWithin_10 : decode cX4_isWithin 10 = .ok (.iconst 1, 1) := by decide +kernel
theorem dX4_isWithin_11 : decode cX4_isWithin 11 = .ok (.goto 4, 3) := by decide +kernel
theorem dX4_isWithin_14 : decode cX4_isWithin 14 = .ok (.iconst 0, 1) := by decide +kernel
theorem dX4_isWithin_15 : decode cX4_isWithin 15 = .ok (.ireturn, 1) := by decide +kernel
theorem dX4_isAngle_0 : decode cX4_isAngle 0 = .ok (.iload_n 0, 1) := by decide +kernel
theorem dX4_isAngle_1 : decode cX4_isAngle 1 = .ok (.iconst 0, 1) := by decide +kernel
theorem dX4_isAngle_2 : decode cX4_isAngle 2 = .ok (.bipush 7, 2) := by decide +kernel
theorem dX4_isAngle_4 : decode cX4_isAngle 4 = .ok (.invokestatic 45, 3) := by decide +kernel
theorem dX4_isAngle_7 : decode cX4_isAngle 7 = .ok (.ireturn, 1) := by decide +kernel
theorem dX4_isPush_0 : decode cX4_isPush 0 = .ok (.iload_n 0, 1) := by decide +kernel
theorem dX4_isPush_1 : decode cX4_isPush 1 = .ok (.ifCond .eq 17, 3) := by decide +kernel
theorem dX4_isPush_4 : decode cX4_isPush 4 = .ok (.iload_n 0, 1) := by decide +kernel
theorem dX4_isPush_5 : decode cX4_isPush 5 = .ok (.bipush (-4), 2) := by decide +kernel
theorem dX4_isPush_7 : decode cX4_isPush 7 = .ok (.iconst 4, 1) := by decide +kernel
theorem dX4_isPush_8 : decode cX4_isPush 8 = .ok (.invokestatic 45, 3) := by decide +kernel
theorem dX4_isPush_11 : decode cX4_isPush 11 = .ok (.ifCond .eq 7, 3) := by decide +kernel
theorem dX4_isPush_14 : decode cX4_isPush 14 = .ok (.iconst 1, 1) := by decide +kernel
theorem dX4_isPush_15 : decode cX4_isPush 15 = .ok (.goto 4, 3) := by decide +kernel
theorem dX4_isPush_18 : decode cX4_isPush 18 = .ok (.iconst 0, 1) := by decide +kernel
theorem dX4_isPush_19 : decode cX4_isPush 19 = .ok (.ireturn, 1) := by decide +kernel
theorem dX4_isSetting_0 : decode cX4_isSetting 0 = .ok (.iload_n 0, 1) := by decide +kernel
theorem dX4_isSetting_1 : decode cX4_isSetting 1 = .ok (.tableswitch 61 0 3 #[31, 39, 48, 56], 31) := by decide +kernel
theorem dX4_isSetting_32 : decode cX4_isSetting 32 = .ok (.iload_n 1, 1) := by decide +kernel
theorem dX4_isSetting_33 : decode cX4_isSetting 33 = .ok (.iconst 0, 1) := by decide +kernel
theorem dX4_isSetting_34 : decode cX4_isSetting 34 = .ok (.bipush 20, 2) := by decide +kernel
theorem dX4_isSetting_36 : decode cX4_isSetting 36 = .ok (.invokestatic 45, 3) := by decide +kernel
theorem dX4_isSetting_39 : decode cX4_isSetting 39 = .ok (.ireturn, 1) := by decide +kernel
theorem dX4_isSetting_40 : decode cX4_isSetting 40 = .ok (.iload_n 1, 1) := by decide +kernel
theorem dX4_isSetting_41 : decode cX4_isSetting 41 = .ok (.iconst 0, 1) := by decide +kernel
theorem dX4_isSetting_42 : decode cX4_isSetting 42 = .ok (.sipush 2000, 3) := by decide +kernel
theorem dX4_isSetting_45 : decode cX4_isSetting 45 = .ok (.invokestatic 45, 3) := by decide +kernel
theorem dX4_isSetting_48 : decode cX4_isSetting 48 = .ok (.ireturn, 1) := by decide +kernel
theorem dX4_isSetting_49 : decode cX4_isSetting 49 = .ok (.iload_n 1, 1) := by decide +kernel
theorem dX4_isSetting_50 : decode cX4_isSetting 50 = .ok (.iconst 0, 1) := by decide +kernel
theorem dX4_isSetting_51 : decode cX4_isSetting 51 = .ok (.bipush 100, 2) := by decide +kernel
theorem dX4_isSetting_53 : decode cX4_isSetting 53 = .ok (.invokestatic 45, 3) := by decide +kernel
theorem dX4_isSetting_56 : decode cX4_isSetting 56 = .ok (.ireturn, 1) := by decide +kernel
theorem dX4_isSetting_57 : decode cX4_isSetting 57 = .ok (.iload_n 1, 1) := by decide +kernel
theorem dX4_isSetting_58 : decode cX4_isSetting 58 = .ok (.invokestatic 77, 3) := by decide +kernel
theorem dX4_isSetting_61 : decode cX4_isSetting 61 = .ok (.ireturn, 1) := by decide +kernel
theorem dX4_isSetting_62 : decode cX4_isSetting 62 = .ok (.iconst 0, 1) := by decide +kernel
theorem dX4_isSetting_63 : decode cX4_isSetting 63 = .ok (.ireturn, 1) := by decide +kernel
theorem dX4_isLoop_0 : decode cX4_isLoop 0 = .ok (.iload_n 0, 1) := by decide +kernel
theorem dX4_isLoop_1 : decode cX4_isLoop 1 = .ok (.iconst 1, 1) := by decide +kernel
theorem dX4_isLoop_2 : decode cX4_isLoop 2 = .ok (.bipush 100, 2) := by decide +kernel
theorem dX4_isLoop_4 : decode cX4_isLoop 4 = .ok (.invokestatic 45, 3) := by decide +kernel
theorem dX4_isLoop_7 : decode cX4_isLoop 7 = .ok (.ifCond .eq 31, 3) := by decide +kernel
theorem dX4_isLoop_10 : decode cX4_isLoop 10 = .ok (.iload_n 1, 1) := by decide +kernel
theorem dX4_isLoop_11 : decode cX4_isLoop 11 = .ok (.iconst 1, 1) := by decide +kernel
theorem dX4_isLoop_12 : decode cX4_isLoop 12 = .ok (.bipush 100, 2) := by decide +kernel
theorem dX4_isLoop_14 : decode cX4_isLoop 14 = .ok (.invokestatic 45, 3) := by decide +kernel
theorem dX4_isLoop_17 : decode cX4_isLoop 17 = .ok (.ifCond .eq 21, 3) := by decide +kernel
theorem dX4_isLoop_20 : decode cX4_isLoop 20 = .ok (.iload_n 1, 1) := by decide +kernel
theorem dX4_isLoop_21 : decode cX4_isLoop 21 = .ok (.bipush 10, 2) := by decide +kernel
theorem dX4_isLoop_23 : decode cX4_isLoop 23 = .ok (.imul, 1) := by decide +kernel
theorem dX4_isLoop_24 : decode cX4_isLoop 24 = .ok (.iload_n 0, 1) := by decide +kernel
theorem dX4_isLoop_25 : decode cX4_isLoop 25 = .ok (.if_icmp .lt 13, 3) := by decide +kernel
theorem dX4_isLoop_28 : decode cX4_isLoop 28 = .ok (.iload_n 0, 1) := by decide +kernel
theorem dX4_isLoop_29 : decode cX4_isLoop 29 = .ok (.iload_n 1, 1) := by decide +kernel
theorem dX4_isLoop_30 : decode cX4_isLoop 30 = .ok (.irem, 1) := by decide +kernel
theorem dX4_isLoop_31 : decode cX4_isLoop 31 = .ok (.ifCond .ne 7, 3) := by decide +kernel
theorem dX4_isLoop_34 : decode cX4_isLoop 34 = .ok (.iconst 1, 1) := by decide +kernel
theorem dX4_isLoop_35 : decode cX4_isLoop 35 = .ok (.goto 4, 3) := by decide +kernel
theorem dX4_isLoop_38 : decode cX4_isLoop 38 = .ok (.iconst 0, 1) := by decide +kernel
theorem dX4_isLoop_39 : decode cX4_isLoop 39 = .ok (.ireturn, 1) := by decide +kernel
theorem dX4_isMagnet_0 : decode cX4_isMagnet 0 = .ok (.iload_n 1, 1) := by decide +kernel
theorem dX4_isMagnet_1 : decode cX4_isMagnet 1 = .ok (.iconst 0, 1) := by decide +kernel
theorem dX4_isMagnet_2 : decode cX4_isMagnet 2 = .ok (.aload_n 0, 1) := by decide +kernel
theorem dX4_isMagnet_3 : decode cX4_isMagnet 3 = .ok (.getfield 10, 3) := by decide +kernel
theorem dX4_isMagnet_6 : decode cX4_isMagnet 6 = .ok (.getfield 50, 3) := by decide +kernel
theorem dX4_isMagnet_9 : decode cX4_isMagnet 9 = .ok (.getfield 54, 3) := by decide +kernel
theorem dX4_isMagnet_12 : decode cX4_isMagnet 12 = .ok (.iconst 1, 1) := by decide +kernel
theorem dX4_isMagnet_13 : decode cX4_isMagnet 13 = .ok (.isub, 1) := by decide +kernel
theorem dX4_isMagnet_14 : decode cX4_isMagnet 14 = .ok (.invokestatic 45, 3) := by decide +kernel
theorem dX4_isMagnet_17 : decode cX4_isMagnet 17 = .ok (.ireturn, 1) := by decide +kernel
theorem dX4_startChange_0 : decode cX4_startChange 0 = .ok (.aload_n 0, 1) := by decide +kernel
theorem dX4_startChange_1 : decode cX4_startChange 1 = .ok (.invokevirtual 57, 3) := by decide +kernel
theorem dX4_startChange_4 : decode cX4_startChange 4 = .ok (.aload_n 0, 1) := by decide +kernel
theorem dX4_startChange_5 : decode cX4_startChange 5 = .ok (.getfield 10, 3) := by decide +kernel
theorem dX4_startChange_8 : decode cX4_startChange 8 = .ok (.getfield 50, 3) := by decide +kernel
theorem dX4_startChange_11 : decode cX4_startChange 11 = .ok (.invokevirtual 159, 3) := by decide +kernel
theorem dX4_startChange_14 : decode cX4_startChange 14 = .ok (.ireturn, 1) := by decide +kernel
theorem dX4_endChange_0 : decode cX4_endChange 0 = .ok (.aload_n 0, 1) := by decide +kernel
theorem dX4_endChange_1 : decode cX4_endChange 1 = .ok (.getfield 10, 3) := by decide +kernel
theorem dX4_endChange_4 : decode cX4_endChange 4 = .ok (.getfield 64, 3) := by decide +kernel
theorem dX4_endChange_7 : decode cX4_endChange 7 = .ok (.dup, 1) := by decide +kernel
theorem dX4_endChange_8 : decode cX4_endChange 8 = .ok (.getfield 162, 3) := by decide +kernel
theorem dX4_endChange_11 : decode cX4_endChange 11 = .ok (.aload_n 0, 1) := by decide +kernel
theorem dX4_endChange_12 : decode cX4_endChange 12 = .ok (.getfield 10, 3) := by decide +kernel
theorem dX4_endChange_15 : decode cX4_endChange 15 = .ok (.getfield 50, 3) := by decide +kernel
theorem dX4_endChange_18 : decode cX4_endChange 18 = .ok (.invokevirtual 159, 3) := by decide +kernel
theorem dX4_endChange_21 : decode cX4_endChange 21 = .ok (.iload_n 1, 1) := by decide +kernel
theorem dX4_endChange_22 : decode cX4_endChange 22 = .ok (.isub, 1) := by decide +kernel
theorem dX4_endChange_23 : decode cX4_endChange 23 = .ok (.iadd, 1) := by decide +kernel
theorem dX4_endChange_24 : decode cX4_endChange 24 = .ok (.putfield 162, 3) := by decide +kernel
theorem dX4_endChange_27 : decode cX4_endChange 27 = .ok (.aload_n 0, 1) := by decide +kernel
theorem dX4_endChange_28 : decode cX4_endChange 28 = .ok (.getfield 10, 3) := by decide +kernel
theorem dX4_endChange_31 : decode cX4_endChange 31 = .ok (.getfield 50, 3) := by decide +kernel
theorem dX4_endChange_34 : decode cX4_endChange 34 = .ok (.aload_n 0, 1) := by decide +kernel
theorem dX4_endChange_35 : decode cX4_endChange 35 = .ok (.getfield 10, 3) := by decide +kernel
theorem dX4_endChange_38 : decode cX4_endChange 38 = .ok (.getfield 64, 3) := by decide +kernel
theorem dX4_endChange_41 : decode cX4_endChange 41 = .ok (.invokevirtual 73, 3) := by decide +kernel
theorem dX4_endChange_44 : decode cX4_endChange 44 = .ok (.ireturn, 1) := by decide +kernel
theorem dX4_record_0 : decode cX4_record 0 = .ok (.aload_n 0, 1) := by decide +kernel
theorem dX4_record_1 : decode cX4_record 1 = .ok (.getfield 20, 3) := by decide +kernel
theorem dX4_record_4 : decode cX4_record 4 = .ok (.aload_n 0, 1) := by decide +kernel
theorem dX4_record_5 : decode cX4_record 5 = .ok (.getfield 16, 3) := by decide +kernel
theorem dX4_record_8 : decode cX4_record 8 = .ok (.arraylength, 1) := by decide +kernel
theorem dX4_record_9 : decode cX4_record 9 = .ok (.if_icmp .lt 7, 3) := by decide +kernel
theorem dX4_record_12 : decode cX4_record 12 = .ok (.aload_n 0, 1) := by decide +kernel
theorem dX4_record_13 : decode cX4_record 13 = .ok (.invokevirtual 235, 3) := by decide +kernel
theorem dX4_record_16 : decode cX4_record 16 = .ok (.aload_n 0, 1) := by decide +kernel
theorem dX4_record_17 : decode cX4_record 17 = .ok (.getfield 16, 3) := by decide +kernel
theorem dX4_record_20 : decode cX4_record 20 = .ok (.aload_n 0, 1) := by decide +kernel
theorem dX4_record_21 : decode cX4_record 21 = .ok (.getfield 20, 3) := by decide +kernel
theorem dX4_record_24 : decode cX4_record 24 = .ok (.aaload, 1) := by decide +kernel
theorem dX4_record_25 : decode cX4_record 25 = .ok (.aload_n 0, 1) := by decide +kernel
theorem dX4_record_26 : decode cX4_record 26 = .ok (.getfield 10, 3) := by decide +kernel
theorem dX4_record_29 : decode cX4_record 29 = .ok (.invokevirtual 155, 3) := by decide +kernel
theorem dX4_record_32 : decode cX4_record 32 = .ok (.aload_n 0, 1) := by decide +kernel
theorem dX4_record_33 : decode cX4_record 33 = .ok (.dup, 1) := by decide +kernel
theorem dX4_record_34 : decode cX4_record 34 = .ok (.getfield 20, 3) := by decide +kernel
theorem dX4_record_37 : decode cX4_record 37 = .ok (.iconst 1, 1) := by decide +kernel
theorem dX4_record_38 : decode cX4_record 38 = .ok (.iadd, 1) := by decide +kernel
theorem dX4_record_39 : decode cX4_record 39 = .ok (.putfield 20, 3) := by decide +kernel
theorem dX4_record_42 : decode cX4_record 42 = .ok (.return_, 1) := by decide +kernel
theorem dX4_dropOldest_0 : decode cX4_dropOldest 0 = .ok (.aload_n 0, 1) := by decide +kernel
theorem dX4_dropOldest_1 : decode cX4_dropOldest 1 = .ok (.getfield 16, 3) := by decide +kernel
theorem dX4_dropOldest_4 : decode cX4_dropOldest 4 = .ok (.iconst 0, 1) := by decide +kernel
theorem dX4_dropOldest_5 : decode cX4_dropOldest 5 = .ok (.aaload, 1) := by decide +kernel
theorem dX4_dropOldest_6 : decode cX4_dropOldest 6 = .ok (.astore_n 1, 1) := by decide +kernel
theorem dX4_dropOldest_7 : decode cX4_dropOldest 7 = .ok (.iconst 1, 1) := by decide +kernel
theorem dX4_dropOldest_8 : decode cX4_dropOldest 8 = .ok (.istore_n 2, 1) := by decide +kernel
theorem dX4_dropOldest_9 : decode cX4_dropOldest 9 = .ok (.iload_n 2, 1) := by decide +kernel
theorem dX4_dropOldest_10 : decode cX4_dropOldest 10 = .ok (.aload_n 0, 1) := by decide +kernel
theorem dX4_dropOldest_11 : decode cX4_dropOldest 11 = .ok (.getfield 16, 3) := by decide +kernel
theorem dX4_dropOldest_14 : decode cX4_dropOldest 14 = .ok (.arraylength, 1) := by decide +kernel
theorem dX4_dropOldest_15 : decode cX4_dropOldest 15 = .ok (.if_icmp .ge 23, 3) := by decide +kernel
theorem dX4_dropOldest_18 : decode cX4_dropOldest 18 = .ok (.aload_n 0, 1) := by decide +kernel
theorem dX4_dropOldest_19 : decode cX4_dropOldest 19 = .ok (.getfield 16, 3) := by decide +kernel
theorem dX4_dropOldest_22 : decode cX4_dropOldest 22 = .ok (.iload_n 2, 1) := by decide +kernel
theorem dX4_dropOldest_23 : decode cX4_dropOldest 23 = .ok (.iconst 1, 1) := by decide +kernel
theorem dX4_dropOldest_24 : decode cX4_dropOldest 24 = .ok (.isub, 1) := by decide +kernel
theorem dX4_dropOldest_25 : decode cX4_dropOldest 25 = .ok (.aload_n 0, 1) := by decide +kernel
theorem dX4_dropOldest_26 : decode cX4_dropOldest 26 = .ok (.getfield 16, 3) := by decide +kernel
theorem dX4_dropOldest_29 : decode cX4_dropOldest 29 = .ok (.iload_n 2, 1) := by decide +kernel
theorem dX4_dropOldest_30 : decode cX4_dropOldest 30 = .ok (.aaload, 1) := by decide +kernel
theorem dX4_dropOldest_31 : decode cX4_dropOldest 31 = .ok (.aastore, 1) := by decide +kernel
theorem dX4_dropOldest_32 : decode cX4_dropOldest 32 = .ok (.iinc 2 1, 3) := by decide +kernel
theorem dX4_dropOldest_35 : decode cX4_dropOldest 35 = .ok (.goto (-26), 3) := by decide +kernel
theorem dX4_dropOldest_38 : decode cX4_dropOldest 38 = .ok (.aload_n 0, 1) := by decide +kernel
theorem dX4_dropOldest_39 : decode cX4_dropOldest 39 = .ok (.aload_n 0, 1) := by decide +kernel
theorem dX4_dropOldest_40 : decode cX4_dropOldest 40 = .ok (.getfield 16, 3) := by decide +kernel
theorem dX4_dropOldest_43 : decode cX4_dropOldest 43 = .ok (.arraylength, 1) := by decide +kernel
theorem dX4_dropOldest_44 : decode cX4_dropOldest 44 = .ok (.iconst 1, 1) := by decide +kernel
theorem dX4_dropOldest_45 : decode cX4_dropOldest 45 = .ok (.isub, 1) := by decide +kernel
theorem dX4_dropOldest_46 : decode cX4_dropOldest 46 = .ok (.putfield 20, 3) := by decide +kernel
theorem dX4_dropOldest_49 : decode cX4_dropOldest 49 = .ok (.aload_n 0, 1) := by decide +kernel
theorem dX4_dropOldest_50 : decode cX4_dropOldest 50 = .ok (.getfield 16, 3) := by decide +kernel
theorem dX4_dropOldest_53 : decode cX4_dropOldest 53 = .ok (.aload_n 0, 1) := by decide +kernel
theorem dX4_dropOldest_54 : decode cX4_dropOldest 54 = .ok (.getfield 20, 3) := by decide +kernel
theorem dX4_dropOldest_57 : decode cX4_dropOldest 57 = .ok (.aload_n 1, 1) := by decide +kernel
end
section
theorem dX4_dropOldest_58 : decode cX4_dropOldest 58 = .ok (.aastore, 1) := by decide +kernel
theorem dX4_dropOldest_59 : decode cX4_dropOldest 59 = .ok (.return_, 1) := by decide +kernel
theorem dX4_stepsUp_0 : decode cX4_stepsUp 0 = .ok (.iload_n 0, 1) := by decide +kernel
theorem dX4_stepsUp_1 : decode cX4_stepsUp 1 = .ok (.iload_n 1, 1) := by decide +kernel
theorem dX4_stepsUp_2 : decode cX4_stepsUp 2 = .ok (.if_icmp .gt 5, 3) := by decide +kernel
theorem dX4_stepsUp_5 : decode cX4_stepsUp 5 = .ok (.iload_n 0, 1) := by decide +kernel
theorem dX4_stepsUp_6 : decode cX4_stepsUp 6 = .ok (.ireturn, 1) := by decide +kernel
theorem dX4_stepsUp_7 : decode cX4_stepsUp 7 = .ok (.iload_n 0, 1) := by decide +kernel
theorem dX4_stepsUp_8 : decode cX4_stepsUp 8 = .ok (.iconst 3, 1) := by decide +kernel
theorem dX4_stepsUp_9 : decode cX4_stepsUp 9 = .ok (.iload_n 1, 1) := by decide +kernel
theorem dX4_stepsUp_10 : decode cX4_stepsUp 10 = .ok (.imul, 1) := by decide +kernel
theorem dX4_stepsUp_11 : decode cX4_stepsUp 11 = .ok (.if_icmp .gt 11, 3) := by decide +kernel
theorem dX4_stepsUp_14 : decode cX4_stepsUp 14 = .ok (.iconst 2, 1) := by decide +kernel
theorem dX4_stepsUp_15 : decode cX4_stepsUp 15 = .ok (.iload_n 1, 1) := by decide +kernel
theorem dX4_stepsUp_16 : decode cX4_stepsUp 16 = .ok (.imul, 1) := by decide +kernel
theorem dX4_stepsUp_17 : decode cX4_stepsUp 17 = .ok (.iload_n 0, 1) := by decide +kernel
theorem dX4_stepsUp_18 : decode cX4_stepsUp 18 = .ok (.isub, 1) := by decide +kernel
theorem dX4_stepsUp_19 : decode cX4_stepsUp 19 = .ok (.goto 8, 3) := by decide +kernel
theorem dX4_stepsUp_22 : decode cX4_stepsUp 22 = .ok (.iload_n 0, 1) := by decide +kernel
theorem dX4_stepsUp_23 : decode cX4_stepsUp 23 = .ok (.iconst 4, 1) := by decide +kernel
theorem dX4_stepsUp_24 : decode cX4_stepsUp 24 = .ok (.iload_n 1, 1) := by decide +kernel
theorem dX4_stepsUp_25 : decode cX4_stepsUp 25 = .ok (.imul, 1) := by decide +kernel
theorem dX4_stepsUp_26 : decode cX4_stepsUp 26 = .ok (.isub, 1) := by decide +kernel
theorem dX4_stepsUp_27 : decode cX4_stepsUp 27 = .ok (.ireturn, 1) := by decide +kernel
theorem dX4_firstPush_0 : decode cX4_firstPush 0 = .ok (.iload_n 2, 1) := by decide +kernel
theorem dX4_firstPush_1 : decode cX4_firstPush 1 = .ok (.iconst 1, 1) := by decide +kernel
theorem dX4_firstPush_2 : decode cX4_firstPush 2 = .ok (.if_icmp .lt 15, 3) := by decide +kernel
theorem dX4_firstPush_5 : decode cX4_firstPush 5 = .ok (.iload_n 1, 1) := by decide +kernel
theorem dX4_firstPush_6 : decode cX4_firstPush 6 = .ok (.ifCond .lt 11, 3) := by decide +kernel
theorem dX4_firstPush_9 : decode cX4_firstPush 9 = .ok (.iload_n 1, 1) := by decide +kernel
theorem dX4_firstPush_10 : decode cX4_firstPush 10 = .ok (.aload_n 0, 1) := by decide +kernel
theorem dX4_firstPush_11 : decode cX4_firstPush 11 = .ok (.arraylength, 1) := by decide +kernel
theorem dX4_firstPush_12 : decode cX4_firstPush 12 = .ok (.iconst 1, 1) := by decide +kernel
theorem dX4_firstPush_13 : decode cX4_firstPush 13 = .ok (.isub, 1) := by decide +kernel
theorem dX4_firstPush_14 : decode cX4_firstPush 14 = .ok (.if_icmp .lt 6, 3) := by decide +kernel
theorem dX4_firstPush_17 : decode cX4_firstPush 17 = .ok (.ldc 151, 2) := by decide +kernel
theorem dX4_firstPush_19 : decode cX4_firstPush 19 = .ok (.ireturn, 1) := by decide +kernel
theorem dX4_firstPush_20 : decode cX4_firstPush 20 = .ok (.aload_n 0, 1) := by decide +kernel
theorem dX4_firstPush_21 : decode cX4_firstPush 21 = .ok (.iload_n 1, 1) := by decide +kernel
theorem dX4_firstPush_22 : decode cX4_firstPush 22 = .ok (.aaload, 1) := by decide +kernel
theorem dX4_firstPush_23 : decode cX4_firstPush 23 = .ok (.astore_n 3, 1) := by decide +kernel
theorem dX4_firstPush_24 : decode cX4_firstPush 24 = .ok (.aload_n 0, 1) := by decide +kernel
theorem dX4_firstPush_25 : decode cX4_firstPush 25 = .ok (.iload_n 1, 1) := by decide +kernel
theorem dX4_firstPush_26 : decode cX4_firstPush 26 = .ok (.iconst 1, 1) := by decide +kernel
theorem dX4_firstPush_27 : decode cX4_firstPush 27 = .ok (.iadd, 1) := by decide +kernel
theorem dX4_firstPush_28 : decode cX4_firstPush 28 = .ok (.aaload, 1) := by decide +kernel
theorem dX4_firstPush_29 : decode cX4_firstPush 29 = .ok (.astore 4, 2) := by decide +kernel
theorem dX4_firstPush_31 : decode cX4_firstPush 31 = .ok (.iconst 0, 1) := by decide +kernel
theorem dX4_firstPush_32 : decode cX4_firstPush 32 = .ok (.istore 5, 2) := by decide +kernel
theorem dX4_firstPush_34 : decode cX4_firstPush 34 = .ok (.iload 5, 2) := by decide +kernel
theorem dX4_firstPush_36 : decode cX4_firstPush 36 = .ok (.iconst 2, 1) := by decide +kernel
theorem dX4_firstPush_37 : decode cX4_firstPush 37 = .ok (.aload_n 3, 1) := by decide +kernel
theorem dX4_firstPush_38 : decode cX4_firstPush 38 = .ok (.getfield 54, 3) := by decide +kernel
theorem dX4_firstPush_41 : decode cX4_firstPush 41 = .ok (.imul, 1) := by decide +kernel
theorem dX4_firstPush_42 : decode cX4_firstPush 42 = .ok (.if_icmp .ge 97, 3) := by decide +kernel
theorem dX4_firstPush_45 : decode cX4_firstPush 45 = .ok (.aload_n 3, 1) := by decide +kernel
theorem dX4_firstPush_46 : decode cX4_firstPush 46 = .ok (.getfield 105, 3) := by decide +kernel
theorem dX4_firstPush_49 : decode cX4_firstPush 49 = .ok (.iload 5, 2) := by decide +kernel
theorem dX4_firstPush_51 : decode cX4_firstPush 51 = .ok (.invokestatic 217, 3) := by decide +kernel
theorem dX4_firstPush_54 : decode cX4_firstPush 54 = .ok (.iaload, 1) := by decide +kernel
theorem dX4_firstPush_55 : decode cX4_firstPush 55 = .ok (.iconst 1, 1) := by decide +kernel
theorem dX4_firstPush_56 : decode cX4_firstPush 56 = .ok (.if_icmp .ne 6, 3) := by decide +kernel
theorem dX4_firstPush_59 : decode cX4_firstPush 59 = .ok (.goto 74, 3) := by decide +kernel
theorem dX4_firstPush_62 : decode cX4_firstPush 62 = .ok (.aload 4, 2) := by decide +kernel
theorem dX4_firstPush_64 : decode cX4_firstPush 64 = .ok (.aload_n 3, 1) := by decide +kernel
theorem dX4_firstPush_65 : decode cX4_firstPush 65 = .ok (.invokevirtual 238, 3) := by decide +kernel
theorem dX4_firstPush_68 : decode cX4_firstPush 68 = .ok (.aload 4, 2) := by decide +kernel
theorem dX4_firstPush_70 : decode cX4_firstPush 70 = .ok (.iload 5, 2) := by decide +kernel
theorem dX4_firstPush_72 : decode cX4_firstPush 72 = .ok (.invokestatic 217, 3) := by decide +kernel
theorem dX4_firstPush_75 : decode cX4_firstPush 75 = .ok (.iload 5, 2) := by decide +kernel
theorem dX4_firstPush_77 : decode cX4_firstPush 77 = .ok (.invokestatic 220, 3) := by decide +kernel
theorem dX4_firstPush_80 : decode cX4_firstPush 80 = .ok (.invokevirtual 129, 3) := by decide +kernel
theorem dX4_firstPush_83 : decode cX4_firstPush 83 = .ok (.aload 4, 2) := by decide +kernel
theorem dX4_firstPush_85 : decode cX4_firstPush 85 = .ok (.aconst_null, 1) := by decide +kernel
theorem dX4_firstPush_86 : decode cX4_firstPush 86 = .ok (.invokevirtual 73, 3) := by decide +kernel
theorem dX4_firstPush_89 : decode cX4_firstPush 89 = .ok (.pop, 1) := by decide +kernel
theorem dX4_firstPush_90 : decode cX4_firstPush 90 = .ok (.iload_n 2, 1) := by decide +kernel
theorem dX4_firstPush_91 : decode cX4_firstPush 91 = .ok (.iconst 1, 1) := by decide +kernel
theorem dX4_firstPush_92 : decode cX4_firstPush 92 = .ok (.if_icmp .ne 14, 3) := by decide +kernel
theorem dX4_firstPush_95 : decode cX4_firstPush 95 = .ok (.aload 4, 2) := by decide +kernel
theorem dX4_firstPush_97 : decode cX4_firstPush 97 = .ok (.invokevirtual 177, 3) := by decide +kernel
theorem dX4_firstPush_100 : decode cX4_firstPush 100 = .ok (.ifCond .ne 33, 3) := by decide +kernel
theorem dX4_firstPush_103 : decode cX4_firstPush 103 = .ok (.iload 5, 2) := by decide +kernel
theorem dX4_firstPush_105 : decode cX4_firstPush 105 = .ok (.ireturn, 1) := by decide +kernel
theorem dX4_firstPush_106 : decode cX4_firstPush 106 = .ok (.aload 4, 2) := by decide +kernel
theorem dX4_firstPush_108 : decode cX4_firstPush 108 = .ok (.aload_n 3, 1) := by decide +kernel
theorem dX4_firstPush_109 : decode cX4_firstPush 109 = .ok (.invokevirtual 122, 3) := by decide +kernel
theorem dX4_firstPush_112 : decode cX4_firstPush 112 = .ok (.ifCond .le 21, 3) := by decide +kernel
theorem dX4_firstPush_115 : decode cX4_firstPush 115 = .ok (.aload_n 0, 1) := by decide +kernel
theorem dX4_firstPush_116 : decode cX4_firstPush 116 = .ok (.iload_n 1, 1) := by decide +kernel
theorem dX4_firstPush_117 : decode cX4_firstPush 117 = .ok (.iconst 1, 1) := by decide +kernel
theorem dX4_firstPush_118 : decode cX4_firstPush 118 = .ok (.iadd, 1) := by decide +kernel
theorem dX4_firstPush_119 : decode cX4_firstPush 119 = .ok (.iload_n 2, 1) := by decide +kernel
theorem dX4_firstPush_120 : decode cX4_firstPush 120 = .ok (.iconst 1, 1) := by decide +kernel
theorem dX4_firstPush_121 : decode cX4_firstPush 121 = .ok (.isub, 1) := by decide +kernel
theorem dX4_firstPush_122 : decode cX4_firstPush 122 = .ok (.invokestatic 213, 3) := by decide +kernel
theorem dX4_firstPush_125 : decode cX4_firstPush 125 = .ok (.ldc 151, 2) := by decide +kernel
theorem dX4_firstPush_127 : decode cX4_firstPush 127 = .ok (.if_icmp .eq 6, 3) := by decide +kernel
theorem dX4_firstPush_130 : decode cX4_firstPush 130 = .ok (.iload 5, 2) := by decide +kernel
theorem dX4_firstPush_132 : decode cX4_firstPush 132 = .ok (.ireturn, 1) := by decide +kernel
theorem dX4_firstPush_133 : decode cX4_firstPush 133 = .ok (.iinc 5 1, 3) := by decide +kernel
theorem dX4_firstPush_136 : decode cX4_firstPush 136 = .ok (.goto (-102), 3) := by decide +kernel
theorem dX4_firstPush_139 : decode cX4_firstPush 139 = .ok (.ldc 151, 2) := by decide +kernel
theorem dX4_firstPush_141 : decode cX4_firstPush 141 = .ok (.ireturn, 1) := by decide +kernel
theorem dX4_magnetOf_0 : decode cX4_magnetOf 0 = .ok (.iload_n 0, 1) := by decide +kernel
theorem dX4_magnetOf_1 : decode cX4_magnetOf 1 = .ok (.iconst 2, 1) := by decide +kernel
theorem dX4_magnetOf_2 : decode cX4_magnetOf 2 = .ok (.idiv, 1) := by decide +kernel
theorem dX4_magnetOf_3 : decode cX4_magnetOf 3 = .ok (.ireturn, 1) := by decide +kernel
theorem dX4_directionOf_0 : decode cX4_directionOf 0 = .ok (.iload_n 0, 1) := by decide +kernel
theorem dX4_directionOf_1 : decode cX4_directionOf 1 = .ok (.iconst 2, 1) := by decide +kernel
theorem dX4_directionOf_2 : decode cX4_directionOf 2 = .ok (.irem, 1) := by decide +kernel
theorem dX4_directionOf_3 : decode cX4_directionOf 3 = .ok (.ifCond .ne 7, 3) := by decide +kernel
theorem dX4_directionOf_6 : decode cX4_directionOf 6 = .ok (.iconst 1, 1) := by decide +kernel
theorem dX4_directionOf_7 : decode cX4_directionOf 7 = .ok (.goto 4, 3) := by decide +kernel
theorem dX4_directionOf_10 : decode cX4_directionOf 10 = .ok (.iconst (-1), 1) := by decide +kernel
theorem dX4_directionOf_11 : decode cX4_directionOf 11 = .ok (.ireturn, 1) := by decide +kernel
theorem dX4_cosine_0 : decode cX4_cosine 0 = .ok (.getstatic 241, 3) := by decide +kernel
theorem dX4_cosine_3 : decode cX4_cosine 3 = .ok (.iload_n 0, 1) := by decide +kernel
theorem dX4_cosine_4 : decode cX4_cosine 4 = .ok (.bipush 7, 2) := by decide +kernel
theorem dX4_cosine_6 : decode cX4_cosine 6 = .ok (.iand, 1) := by decide +kernel
theorem dX4_cosine_7 : decode cX4_cosine 7 = .ok (.iaload, 1) := by decide +kernel
theorem dX4_cosine_8 : decode cX4_cosine 8 = .ok (.ireturn, 1) := by decide +kernel
theorem dX4_pull_0 : decode cX4_pull 0 = .ok (.bipush 10, 2) := by decide +kernel
theorem dX4_pull_2 : decode cX4_pull 2 = .ok (.getstatic 241, 3) := by decide +kernel
theorem dX4_pull_5 : decode cX4_pull 5 = .ok (.iload_n 0, 1) := by decide +kernel
theorem dX4_pull_6 : decode cX4_pull 6 = .ok (.iload_n 1, 1) := by decide +kernel
theorem dX4_pull_7 : decode cX4_pull 7 = .ok (.isub, 1) := by decide +kernel
theorem dX4_pull_8 : decode cX4_pull 8 = .ok (.bipush 7, 2) := by decide +kernel
theorem dX4_pull_10 : decode cX4_pull 10 = .ok (.iand, 1) := by decide +kernel
theorem dX4_pull_11 : decode cX4_pull 11 = .ok (.iaload, 1) := by decide +kernel
theorem dX4_pull_12 : decode cX4_pull 12 = .ok (.imul, 1) := by decide +kernel
theorem dX4_pull_13 : decode cX4_pull 13 = .ok (.iconst 3, 1) := by decide +kernel
theorem dX4_pull_14 : decode cX4_pull 14 = .ok (.getstatic 241, 3) := by decide +kernel
theorem dX4_pull_17 : decode cX4_pull 17 = .ok (.iload_n 0, 1) := by decide +kernel
theorem dX4_pull_18 : decode cX4_pull 18 = .ok (.bipush 7, 2) := by decide +kernel
theorem dX4_pull_20 : decode cX4_pull 20 = .ok (.iand, 1) := by decide +kernel
theorem dX4_pull_21 : decode cX4_pull 21 = .ok (.iaload, 1) := by decide +kernel
theorem dX4_pull_22 : decode cX4_pull 22 = .ok (.imul, 1) := by decide +kernel
theorem dX4_pull_23 : decode cX4_pull 23 = .ok (.getstatic 241, 3) := by decide +kernel
theorem dX4_pull_26 : decode cX4_pull 26 = .ok (.iload_n 1, 1) := by decide +kernel
theorem dX4_pull_27 : decode cX4_pull 27 = .ok (.bipush 7, 2) := by decide +kernel
theorem dX4_pull_29 : decode cX4_pull 29 = .ok (.iand, 1) := by decide +kernel
theorem dX4_pull_30 : decode cX4_pull 30 = .ok (.iaload, 1) := by decide +kernel
theorem dX4_pull_31 : decode cX4_pull 31 = .ok (.imul, 1) := by decide +kernel
theorem dX4_pull_32 : decode cX4_pull 32 = .ok (.isub, 1) := by decide +kernel
theorem dX4_pull_33 : decode cX4_pull 33 = .ok (.ireturn, 1) := by decide +kernel
theorem dX5_init_0 : decode cX5_init 0 = .ok (.aload_n 0, 1) := by decide +kernel
theorem dX5_init_1 : decode cX5_init 1 = .ok (.invokespecial 1, 3) := by decide +kernel
theorem dX5_init_4 : decode cX5_init 4 = .ok (.aload_n 0, 1) := by decide +kernel
theorem dX5_init_5 : decode cX5_init 5 = .ok (.sipush 130, 3) := by decide +kernel
theorem dX5_init_8 : decode cX5_init 8 = .ok (.newarray .int, 2) := by decide +kernel
theorem dX5_init_10 : decode cX5_init 10 = .ok (.putfield 7, 3) := by decide +kernel
theorem dX5_init_13 : decode cX5_init 13 = .ok (.aload_n 0, 1) := by decide +kernel
theorem dX5_init_14 : decode cX5_init 14 = .ok (.sipush 1040, 3) := by decide +kernel
theorem dX5_init_17 : decode cX5_init 17 = .ok (.newarray .int, 2) := by decide +kernel
theorem dX5_init_19 : decode cX5_init 19 = .ok (.putfield 13, 3) := by decide +kernel
theorem dX5_init_22 : decode cX5_init 22 = .ok (.aload_n 0, 1) := by decide +kernel
theorem dX5_init_23 : decode cX5_init 23 = .ok (.sipush 260, 3) := by decide +kernel
theorem dX5_init_26 : decode cX5_init 26 = .ok (.newarray .int, 2) := by decide +kernel
theorem dX5_init_28 : decode cX5_init 28 = .ok (.putfield 16, 3) := by decide +kernel
theorem dX5_init_31 : decode cX5_init 31 = .ok (.aload_n 0, 1) := by decide +kernel
theorem dX5_init_32 : decode cX5_init 32 = .ok (.iconst 2, 1) := by decide +kernel
theorem dX5_init_33 : decode cX5_init 33 = .ok (.newarray .int, 2) := by decide +kernel
theorem dX5_init_35 : decode cX5_init 35 = .ok (.putfield 19, 3) := by decide +kernel
theorem dX5_init_38 : decode cX5_init 38 = .ok (.aload_n 0, 1) := by decide +kernel
theorem dX5_init_39 : decode cX5_init 39 = .ok (.bipush 40, 2) := by decide +kernel
theorem dX5_init_41 : decode cX5_init 41 = .ok (.newarray .int, 2) := by decide +kernel
theorem dX5_init_43 : decode cX5_init 43 = .ok (.putfield 22, 3) := by decide +kernel
theorem dX5_init_46 : decode cX5_init 46 = .ok (.aload_n 0, 1) := by decide +kernel
theorem dX5_init_47 : decode cX5_init 47 = .ok (.ldc 25, 2) := by decide +kernel
theorem dX5_init_49 : decode cX5_init 49 = .ok (.putfield 26, 3) := by decide +kernel
theorem dX5_init_52 : decode cX5_init 52 = .ok (.aload_n 0, 1) := by decide +kernel
theorem dX5_init_53 : decode cX5_init 53 = .ok (.ldc 25, 2) := by decide +kernel
theorem dX5_init_55 : decode cX5_init 55 = .ok (.putfield 30, 3) := by decide +kernel
theorem dX5_init_58 : decode cX5_init 58 = .ok (.aload_n 0, 1) := by decide +kernel
theorem dX5_init_59 : decode cX5_init 59 = .ok (.sipush 130, 3) := by decide +kernel
theorem dX5_init_62 : decode cX5_init 62 = .ok (.newarray .int, 2) := by decide +kernel
theorem dX5_init_64 : decode cX5_init 64 = .ok (.putfield 33, 3) := by decide +kernel
theorem dX5_init_67 : decode cX5_init 67 = .ok (.aload_n 0, 1) := by decide +kernel
theorem dX5_init_68 : decode cX5_init 68 = .ok (.bipush 30, 2) := by decide +kernel
theorem dX5_init_70 : decode cX5_init 70 = .ok (.newarray .int, 2) := by decide +kernel
theorem dX5_init_72 : decode cX5_init 72 = .ok (.putfield 36, 3) := by decide +kernel
theorem dX5_init_75 : decode cX5_init 75 = .ok (.aload_n 0, 1) := by decide +kernel
theorem dX5_init_76 : decode cX5_init 76 = .ok (.iconst 3, 1) := by decide +kernel
theorem dX5_init_77 : decode cX5_init 77 = .ok (.newarray .int, 2) := by decide +kernel
theorem dX5_init_79 : decode cX5_init 79 = .ok (.putfield 39, 3) := by decide +kernel
theorem dX5_init_82 : decode cX5_init 82 = .ok (.aload_n 0, 1) := by decide +kernel
theorem dX5_init_83 : decode cX5_init 83 = .ok (.bipush 10, 2) := by decide +kernel
theorem dX5_init_85 : decode cX5_init 85 = .ok (.newarray .int, 2) := by decide +kernel
theorem dX5_init_87 : decode cX5_init 87 = .ok (.putfield 42, 3) := by decide +kernel
theorem dX5_init_90 : decode cX5_init 90 = .ok (.aload_n 0, 1) := by decide +kernel
theorem dX5_init_91 : decode cX5_init 91 = .ok (.bipush 10, 2) := by decide +kernel
theorem dX5_init_93 : decode cX5_init 93 = .ok (.newarray .int, 2) := by decide +kernel
theorem dX5_init_95 : decode cX5_init 95 = .ok (.putfield 45, 3) := by decide +kernel
theorem dX5_init_98 : decode cX5_init 98 = .ok (.aload_n 0, 1) := by decide +kernel
theorem dX5_init_99 : decode cX5_init 99 = .ok (.getfield 7, 3) := by decide +kernel
theorem dX5_init_102 : decode cX5_init 102 = .ok (.bipush 31, 2) := by decide +kernel
theorem dX5_init_104 : decode cX5_init 104 = .ok (.bipush 10, 2) := by decide +kernel
theorem dX5_init_106 : decode cX5_init 106 = .ok (.iastore, 1) := by decide +kernel
theorem dX5_init_107 : decode cX5_init 107 = .ok (.aload_n 0, 1) := by decide +kernel
theorem dX5_init_108 : decode cX5_init 108 = .ok (.getfield 7, 3) := by decide +kernel
theorem dX5_init_111 : decode cX5_init 111 = .ok (.bipush 32, 2) := by decide +kernel
theorem dX5_init_113 : decode cX5_init 113 = .ok (.sipush 300, 3) := by decide +kernel
theorem dX5_init_116 : decode cX5_init 116 = .ok (.iastore, 1) := by decide +kernel
theorem dX5_init_117 : decode cX5_init 117 = .ok (.aload_n 0, 1) := by decide +kernel
theorem dX5_init_118 : decode cX5_init 118 = .ok (.iconst 4, 1) := by decide +kernel
theorem dX5_init_119 : decode cX5_init 119 = .ok (.invokevirtual 48, 3) := by decide +kernel
theorem dX5_init_122 : decode cX5_init 122 = .ok (.return_, 1) := by decide +kernel
theorem dX5_isIn_0 : decode cX5_isIn 0 = .ok (.iload_n 0, 1) := by decide +kernel
theorem dX5_isIn_1 : decode cX5_isIn 1 = .ok (.iload_n 1, 1) := by decide +kernel
theorem dX5_isIn_2 : decode cX5_isIn 2 = .ok (.if_icmp .lt 12, 3) := by decide +kernel
theorem dX5_isIn_5 : decode cX5_isIn 5 = .ok (.iload_n 0, 1) := by decide +kernel
theorem dX5_isIn_6 : decode cX5_isIn 6 = .ok (.iload_n 2, 1) := by decide +kernel
theorem dX5_isIn_7 : decode cX5_isIn 7 = .ok (.if_icmp .gt 7, 3) := by decide +kernel
theorem dX5_isIn_10 : decode cX5_isIn 10 = .ok (.iconst 1, 1) := by decide +kernel
theorem dX5_isIn_11 : decode cX5_isIn 11 = .ok (.goto 4, 3) := by decide +kernel
theorem dX5_isIn_14 : decode cX5_isIn 14 = .ok (.iconst 0, 1) := by decide +kernel
theorem dX5_isIn_15 : decode cX5_isIn 15 = .ok (.ireturn, 1) := by decide +kernel
theorem dX5_isMagnet_0 : decode cX5_isMagnet 0 = .ok (.iload_n 1, 1) := by decide +kernel
theorem dX5_isMagnet_1 : decode cX5_isMagnet 1 = .ok (.iconst 0, 1) := by decide +kernel
theorem dX5_isMagnet_2 : decode cX5_isMagnet 2 = .ok (.aload_n 0, 1) := by decide +kernel
theorem dX5_isMagnet_3 : decode cX5_isMagnet 3 = .ok (.getfield 7, 3) := by decide +kernel
theorem dX5_isMagnet_6 : decode cX5_isMagnet 6 = .ok (.iconst 0, 1) := by decide +kernel
theorem dX5_isMagnet_7 : decode cX5_isMagnet 7 = .ok (.iaload, 1) := by decide +kernel
theorem dX5_isMagnet_8 : decode cX5_isMagnet 8 = .ok (.iconst 1, 1) := by decide +kernel
theorem dX5_isMagnet_9 : decode cX5_isMagnet 9 = .ok (.isub, 1) := by decide +kernel
theorem dX5_isMagnet_10 : decode cX5_isMagnet 10 = .ok (.invokestatic 52, 3) := by decide +kernel
theorem dX5_isMagnet_13 : decode cX5_isMagnet 13 = .ok (.ireturn, 1) := by decide +kernel
theorem dX5_lay_0 : decode cX5_lay 0 = .ok (.aload_n 0, 1) := by decide +kernel
theorem dX5_lay_1 : decode cX5_lay 1 = .ok (.getfield 7, 3) := by decide +kernel
theorem dX5_lay_4 : decode cX5_lay 4 = .ok (.iconst 0, 1) := by decide +kernel
theorem dX5_lay_5 : decode cX5_lay 5 = .ok (.iload_n 1, 1) := by decide +kernel
theorem dX5_lay_6 : decode cX5_lay 6 = .ok (.iastore, 1) := by decide +kernel
theorem dX5_lay_7 : decode cX5_lay 7 = .ok (.iconst 0, 1) := by decide +kernel
theorem dX5_lay_8 : decode cX5_lay 8 = .ok (.istore_n 2, 1) := by decide +kernel
theorem dX5_lay_9 : decode cX5_lay 9 = .ok (.iload_n 2, 1) := by decide +kernel
theorem dX5_lay_10 : decode cX5_lay 10 = .ok (.bipush 10, 2) := by decide +kernel
theorem dX5_lay_12 : decode cX5_lay 12 = .ok (.if_icmp .ge 39, 3) := by decide +kernel
theorem dX5_lay_15 : decode cX5_lay 15 = .ok (.aload_n 0, 1) := by decide +kernel
theorem dX5_lay_16 : decode cX5_lay 16 = .ok (.getfield 7, 3) := by decide +kernel
theorem dX5_lay_19 : decode cX5_lay 19 = .ok (.iconst 1, 1) := by decide +kernel
theorem dX5_lay_20 : decode cX5_lay 20 = .ok (.iload_n 2, 1) := by decide +kernel
theorem dX5_lay_21 : decode cX5_lay 21 = .ok (.iadd, 1) := by decide +kernel
theorem dX5_lay_22 : decode cX5_lay 22 = .ok (.iconst 0, 1) := by decide +kernel
theorem dX5_lay_23 : decode cX5_lay 23 = .ok (.iastore, 1) := by decide +kernel
theorem dX5_lay_24 : decode cX5_lay 24 = .ok (.aload_n 0, 1) := by decide +kernel
theorem dX5_lay_25 : decode cX5_lay 25 = .ok (.getfield 7, 3) := by decide +kernel
theorem dX5_lay_28 : decode cX5_lay 28 = .ok (.bipush 11, 2) := by decide +kernel
theorem dX5_lay_30 : decode cX5_lay 30 = .ok (.iload_n 2, 1) := by decide +kernel
theorem dX5_lay_31 : decode cX5_lay 31 = .ok (.iadd, 1) := by decide +kernel
theorem dX5_lay_32 : decode cX5_lay 32 = .ok (.iconst 0, 1) := by decide +kernel
theorem dX5_lay_33 : decode cX5_lay 33 = .ok (.iastore, 1) := by decide +kernel
theorem dX5_lay_34 : decode cX5_lay 34 = .ok (.aload_n 0, 1) := by decide +kernel
theorem dX5_lay_35 : decode cX5_lay 35 = .ok (.getfield 7, 3) := by decide +kernel
theorem dX5_lay_38 : decode cX5_lay 38 = .ok (.bipush 21, 2) := by decide +kernel
theorem dX5_lay_40 : decode cX5_lay 40 = .ok (.iload_n 2, 1) := by decide +kernel
theorem dX5_lay_41 : decode cX5_lay 41 = .ok (.iadd, 1) := by decide +kernel
theorem dX5_lay_42 : decode cX5_lay 42 = .ok (.ldc 25, 2) := by decide +kernel
theorem dX5_lay_44 : decode cX5_lay 44 = .ok (.iastore, 1) := by decide +kernel
theorem dX5_lay_45 : decode cX5_lay 45 = .ok (.iinc 2 1, 3) := by decide +kernel
theorem dX5_lay_48 : decode cX5_lay 48 = .ok (.goto (-39), 3) := by decide +kernel
theorem dX5_lay_51 : decode cX5_lay 51 = .ok (.return_, 1) := by decide +kernel
theorem dX5_record_0 : decode cX5_record 0 = .ok (.aload_n 0, 1) := by decide +kernel
theorem dX5_record_1 : decode cX5_record 1 = .ok (.getfield 56, 3) := by decide +kernel
theorem dX5_record_4 : decode cX5_record 4 = .ok (.bipush 8, 2) := by decide +kernel
theorem dX5_record_6 : decode cX5_record 6 = .ok (.if_icmp .ne 44, 3) := by decide +kernel
theorem dX5_record_9 : decode cX5_record 9 = .ok (.iconst 0, 1) := by decide +kernel
theorem dX5_record_10 : decode cX5_record 10 = .ok (.istore_n 1, 1) := by decide +kernel
theorem dX5_record_11 : decode cX5_record 11 = .ok (.iload_n 1, 1) := by decide +kernel
theorem dX5_record_12 : decode cX5_record 12 = .ok (.sipush 910, 3) := by decide +kernel
theorem dX5_record_15 : decode cX5_record 15 = .ok (.if_icmp .ge 25, 3) := by decide +kernel
theorem dX5_record_18 : decode cX5_record 18 = .ok (.aload_n 0, 1) := by decide +kernel
theorem dX5_record_19 : decode cX5_record 19 = .ok (.getfield 13, 3) := by decide +kernel
theorem dX5_record_22 : decode cX5_record 22 = .ok (.iload_n 1, 1) := by decide +kernel
theorem dX5_record_23 : decode cX5_record 23 = .ok (.aload_n 0, 1) := by decide +kernel
theorem dX5_record_24 : decode cX5_record 24 = .ok (.getfield 13, 3) := by decide +kernel
theorem dX5_record_27 : decode cX5_record 27 = .ok (.iload_n 1, 1) := by decide +kernel
theorem dX5_record_28 : decode cX5_record 28 = .ok (.sipush 130, 3) := by decide +kernel
theorem dX5_record_31 : decode cX5_record 31 = .ok (.iadd, 1) := by decide +kernel
theorem dX5_record_32 : decode cX5_record 32 = .ok (.iaload, 1) := by decide +kernel
theorem dX5_record_33 : decode cX5_record 33 = .ok (.iastore, 1) := by decide +kernel
theorem dX5_record_34 : decode cX5_record 34 = .ok (.iinc 1 1, 3) := by decide +kernel
theorem dX5_record_37 : decode cX5_record 37 = .ok (.goto (-26), 3) := by decide +kernel
theorem dX5_record_40 : decode cX5_record 40 = .ok (.aload_n 0, 1) := by decide +kernel
theorem dX5_record_41 : decode cX5_record 41 = .ok (.dup, 1) := by decide +kernel
theorem dX5_record_42 : decode cX5_record 42 = .ok (.getfield 56, 3) := by decide +kernel
theorem dX5_record_45 : decode cX5_record 45 = .ok (.iconst 1, 1) := by decide +kernel
theorem dX5_record_46 : decode cX5_record 46 = .ok (.isub, 1) := by decide +kernel
theorem dX5_record_47 : decode cX5_record 47 = .ok (.putfield 56, 3) := by decide +kernel
theorem dX5_record_50 : decode cX5_record 50 = .ok (.iconst 0, 1) := by decide +kernel
theorem dX5_record_51 : decode cX5_record 51 = .ok (.istore_n 1, 1) := by decide +kernel
theorem dX5_record_52 : decode cX5_record 52 = .ok (.iload_n 1, 1) := by decide +kernel
theorem dX5_record_53 : decode cX5_record 53 = .ok (.sipush 130, 3) := by decide +kernel
theorem dX5_record_56 : decode cX5_record 56 = .ok (.if_icmp .ge 30, 3) := by decide +kernel
theorem dX5_record_59 : decode cX5_record 59 = .ok (.aload_n 0, 1) := by decide +kernel
theorem dX5_record_60 : decode cX5_record 60 = .ok (.getfield 13, 3) := by decide +kernel
theorem dX5_record_63 : decode cX5_record 63 = .ok (.sipush 130, 3) := by decide +kernel
theorem dX5_record_66 : decode cX5_record 66 = .ok (.aload_n 0, 1) := by decide +kernel
theorem dX5_record_67 : decode cX5_record 67 = .ok (.getfield 56, 3) := by decide +kernel
theorem dX5_record_70 : decode cX5_record 70 = .ok (.imul, 1) := by decide +kernel
theorem dX5_record_71 : decode cX5_record 71 = .ok (.iload_n 1, 1) := by decide +kernel
theorem dX5_record_72 : decode cX5_record 72 = .ok (.iadd, 1) := by decide +kernel
theorem dX5_record_73 : decode cX5_record 73 = .ok (.aload_n 0, 1) := by decide +kernel
theorem dX5_record_74 : decode cX5_record 74 = .ok (.getfield 7, 3) := by decide +kernel
theorem dX5_record_77 : decode cX5_record 77 = .ok (.iload_n 1, 1) := by decide +kernel
theorem dX5_record_78 : decode cX5_record 78 = .ok (.iaload, 1) := by decide +kernel
theorem dX5_record_79 : decode cX5_record 79 = .ok (.iastore, 1) := by decide +kernel
theorem dX5_record_80 : decode cX5_record 80 = .ok (.iinc 1 1, 3) := by decide +kernel
theorem dX5_record_83 : decode cX5_record 83 = .ok (.goto (-31), 3) := by decide +kernel
theorem dX5_record_86 : decode cX5_record 86 = .ok (.aload_n 0, 1) := by decide +kernel
theorem dX5_record_87 : decode cX5_record 87 = .ok (.dup, 1) := by decide +kernel
theorem dX5_record_88 : decode cX5_record 88 = .ok (.getfield 56, 3) := by decide +kernel
theorem dX5_record_91 : decode cX5_record 91 = .ok (.iconst 1, 1) := by decide +kernel
theorem dX5_record_92 : decode cX5_record 92 = .ok (.iadd, 1) := by decide +kernel
theorem dX5_record_93 : decode cX5_record 93 = .ok (.putfield 56, 3) := by decide +kernel
theorem dX5_record_96 : decode cX5_record 96 = .ok (.return_, 1) := by decide +kernel
theorem dX5_undo_0 : decode cX5_undo 0 = .ok (.aload_n 0, 1) := by decide +kernel
theorem dX5_undo_1 : decode cX5_undo 1 = .ok (.getfield 56, 3) := by decide +kernel
theorem dX5_undo_4 : decode cX5_undo 4 = .ok (.ifCond .ne 6, 3) := by decide +kernel
theorem dX5_undo_7 : decode cX5_undo 7 = .ok (.ldc 59, 2) := by decide +kernel
theorem dX5_undo_9 : decode cX5_undo 9 = .ok (.ireturn, 1) := by decide +kernel
theorem dX5_undo_10 : decode cX5_undo 10 = .ok (.aload_n 0, 1) := by decide +kernel
theorem dX5_undo_11 : decode cX5_undo 11 = .ok (.dup, 1) := by decide +kernel
theorem dX5_undo_12 : decode cX5_undo 12 = .ok (.getfield 56, 3) := by decide +kernel
theorem dX5_undo_15 : decode cX5_undo 15 = .ok (.iconst 1, 1) := by decide +kernel
theorem dX5_undo_16 : decode cX5_undo 16 = .ok (.isub, 1) := by decide +kernel
theorem dX5_undo_17 : decode cX5_undo 17 = .ok (.putfield 56, 3) := by decide +kernel
theorem dX5_undo_20 : decode cX5_undo 20 = .ok (.iconst 0, 1) := by decide +kernel
theorem dX5_undo_21 : decode cX5_undo 21 = .ok (.istore_n 1, 1) := by decide +kernel
theorem dX5_undo_22 : decode cX5_undo 22 = .ok (.iload_n 1, 1) := by decide +kernel
theorem dX5_undo_23 : decode cX5_undo 23 = .ok (.sipush 130, 3) := by decide +kernel
theorem dX5_undo_26 : decode cX5_undo 26 = .ok (.if_icmp .ge 30, 3) := by decide +kernel
theorem dX5_undo_29 : decode cX5_undo 29 = .ok (.aload_n 0, 1) := by decide +kernel
theorem dX5_undo_30 : decode cX5_undo 30 = .ok (.getfield 7, 3) := by decide +kernel
theorem dX5_undo_33 : decode cX5_undo 33 = .ok (.iload_n 1, 1) := by decide +kernel
theorem dX5_undo_34 : decode cX5_undo 34 = .ok (.aload_n 0, 1) := by decide +kernel
theorem dX5_undo_35 : decode cX5_undo 35 = .ok (.getfield 13, 3) := by decide +kernel
theorem dX5_undo_38 : decode cX5_undo 38 = .ok (.sipush 130, 3) := by decide +kernel
theorem dX5_undo_41 : decode cX5_undo 41 = .ok (.aload_n 0, 1) := by decide +kernel
theorem dX5_undo_42 : decode cX5_undo 42 = .ok (.getfield 56, 3) := by decide +kernel
theorem dX5_undo_45 : decode cX5_undo 45 = .ok (.imul, 1) := by decide +kernel
theorem dX5_undo_46 : decode cX5_undo 46 = .ok (.iload_n 1, 1) := by decide +kernel
theorem dX5_undo_47 : decode cX5_undo 47 = .ok (.iadd, 1) := by decide +kernel
theorem dX5_undo_48 : decode cX5_undo 48 = .ok (.iaload, 1) := by decide +kernel
theorem dX5_undo_49 : decode cX5_undo 49 = .ok (.iastore, 1) := by decide +kernel
theorem dX5_undo_50 : decode cX5_undo 50 = .ok (.iinc 1 1, 3) := by decide +kernel
theorem dX5_undo_53 : decode cX5_undo 53 = .ok (.goto (-31), 3) := by decide +kernel
theorem dX5_undo_56 : decode cX5_undo 56 = .ok (.aload_n 0, 1) := by decide +kernel
theorem dX5_undo_57 : decode cX5_undo 57 = .ok (.getfield 56, 3) := by decide +kernel
theorem dX5_undo_60 : decode cX5_undo 60 = .ok (.ireturn, 1) := by decide +kernel
theorem dX5_c_0 : decode cX5_c 0 = .ok (.iload_n 0, 1) := by decide +kernel
theorem dX5_c_1 : decode cX5_c 1 = .ok (.bipush 8, 2) := by decide +kernel
theorem dX5_c_3 : decode cX5_c 3 = .ok (.irem, 1) := by decide +kernel
theorem dX5_c_4 : decode cX5_c 4 = .ok (.bipush 8, 2) := by decide +kernel
theorem dX5_c_6 : decode cX5_c 6 = .ok (.iadd, 1) := by decide +kernel
theorem dX5_c_7 : decode cX5_c 7 = .ok (.bipush 8, 2) := by decide +kernel
theorem dX5_c_9 : decode cX5_c 9 = .ok (.irem, 1) := by decide +kernel
theorem dX5_c_10 : decode cX5_c 10 = .ok (.tableswitch 61 0 6 #[42, 45, 48, 50, 53, 56, 59], 42) := by decide +kernel
theorem dX5_c_52 : decode cX5_c 52 = .ok (.bipush 10, 2) := by decide +kernel
theorem dX5_c_54 : decode cX5_c 54 = .ok (.ireturn, 1) := by decide +kernel
theorem dX5_c_55 : decode cX5_c 55 = .ok (.bipush 7, 2) := by decide +kernel
theorem dX5_c_57 : decode cX5_c 57 = .ok (.ireturn, 1) := by decide +kernel
theorem dX5_c_58 : decode cX5_c 58 = .ok (.iconst 0, 1) := by decide +kernel
theorem dX5_c_59 : decode cX5_c 59 = .ok (.ireturn, 1) := by decide +kernel
theorem dX5_c_60 : decode cX5_c 60 = .ok (.bipush (-7), 2) := by decide +kernel
theorem dX5_c_62 : decode cX5_c 62 = .ok (.ireturn, 1) := by decide +kernel
theorem dX5_c_63 : decode cX5_c 63 = .ok (.bipush (-10), 2) := by decide +kernel
theorem dX5_c_65 : decode cX5_c 65 = .ok (.ireturn, 1) := by decide +kernel
theorem dX5_c_66 : decode cX5_c 66 = .ok (.bipush (-7), 2) := by decide +kernel
theorem dX5_c_68 : decode cX5_c 68 = .ok (.ireturn, 1) := by decide +kernel
theorem dX5_c_69 : decode cX5_c 69 = .ok (.iconst 0, 1) := by decide +kernel
theorem dX5_c_70 : decode cX5_c 70 = .ok (.ireturn, 1) := by decide +kernel
theorem dX5_c_71 : decode cX5_c 71 = .ok (.bipush 7, 2) := by decide +kernel
theorem dX5_c_73 : decode cX5_c 73 = .ok (.ireturn, 1) := by decide +kernel
theorem dX5_pull_0 : decode cX5_pull 0 = .ok (.bipush 10, 2) := by decide +kernel
theorem dX5_pull_2 : decode cX5_pull 2 = .ok (.iload_n 0, 1) := by decide +kernel
theorem dX5_pull_3 : decode cX5_pull 3 = .ok (.iload_n 1, 1) := by decide +kernel
theorem dX5_pull_4 : decode cX5_pull 4 = .ok (.isub, 1) := by decide +kernel
theorem dX5_pull_5 : decode cX5_pull 5 = .ok (.invokestatic 60, 3) := by decide +kernel
theorem dX5_pull_8 : decode cX5_pull 8 = .ok (.imul, 1) := by decide +kernel
theorem dX5_pull_9 : decode cX5_pull 9 = .ok (.iconst 3, 1) := by decide +kernel
theorem dX5_pull_10 : decode cX5_pull 10 = .ok (.iload_n 0, 1) := by decide +kernel
theorem dX5_pull_11 : decode cX5_pull 11 = .ok (.invokestatic 60, 3) := by decide +kernel
theorem dX5_pull_14 : decode cX5_pull 14 = .ok (.imul, 1) := by decide +kernel
theorem dX5_pull_15 : decode cX5_pull 15 = .ok (.iload_n 1, 1) := by decide +kernel
theorem dX5_pull_16 : decode cX5_pull 16 = .ok (.invokestatic 60, 3) := by decide +kernel
theorem dX5_pull_19 : decode cX5_pull 19 = .ok (.imul, 1) := by decide +kernel
theorem dX5_pull_20 : decode cX5_pull 20 = .ok (.isub, 1) := by decide +kernel
theorem dX5_pull_21 : decode cX5_pull 21 = .ok (.ireturn, 1) := by decide +kernel
theorem dX5_angle_0 : decode cX5_angle 0 = .ok (.aload_n 0, 1) := by decide +kernel
theorem dX5_angle_1 : decode cX5_angle 1 = .ok (.getfield 7, 3) := by decide +kernel
theorem dX5_angle_4 : decode cX5_angle 4 = .ok (.iconst 1, 1) := by decide +kernel
theorem dX5_angle_5 : decode cX5_angle 5 = .ok (.iload_n 1, 1) := by decide +kernel
theorem dX5_angle_6 : decode cX5_angle 6 = .ok (.iadd, 1) := by decide +kernel
theorem dX5_angle_7 : decode cX5_angle 7 = .ok (.iaload, 1) := by decide +kernel
theorem dX5_angle_8 : decode cX5_angle 8 = .ok (.ireturn, 1) := by decide +kernel
theorem dX5_pair_0 : decode cX5_pair 0 = .ok (.aload_n 0, 1) := by decide +kernel
theorem dX5_pair_1 : decode cX5_pair 1 = .ok (.iload_n 3, 1) := by decide +kernel
theorem dX5_pair_2 : decode cX5_pair 2 = .ok (.invokevirtual 64, 3) := by decide +kernel
theorem dX5_pair_5 : decode cX5_pair 5 = .ok (.ifCond .ne 5, 3) := by decide +kernel
theorem dX5_pair_8 : decode cX5_pair 8 = .ok (.iconst 0, 1) := by decide +kernel
theorem dX5_pair_9 : decode cX5_pair 9 = .ok (.ireturn, 1) := by decide +kernel
theorem dX5_pair_10 : decode cX5_pair 10 = .ok (.iload_n 1, 1) := by decide +kernel
theorem dX5_pair_11 : decode cX5_pair 11 = .ok (.iload_n 3, 1) := by decide +kernel
theorem dX5_pair_12 : decode cX5_pair 12 = .ok (.if_icmp .le 9, 3) := by decide +kernel
theorem dX5_pair_15 : decode cX5_pair 15 = .ok (.iload_n 1, 1) := by decide +kernel
theorem dX5_pair_16 : decode cX5_pair 16 = .ok (.iload_n 3, 1) := by decide +kernel
theorem dX5_pair_17 : decode cX5_pair 17 = .ok (.isub, 1) := by decide +kernel
theorem dX5_pair_18 : decode cX5_pair 18 = .ok (.goto 6, 3) := by decide +kernel
theorem dX5_pair_21 : decode cX5_pair 21 = .ok (.iload_n 3, 1) := by decide +kernel
theorem dX5_pair_22 : decode cX5_pair 22 = .ok (.iload_n 1, 1) := by decide +kernel
theorem dX5_pair_23 : decode cX5_pair 23 = .ok (.isub, 1) := by decide +kernel
theorem dX5_pair_24 : decode cX5_pair 24 = .ok (.istore 4, 2) := by decide +kernel
theorem dX5_pair_26 : decode cX5_pair 26 = .ok (.iload 4, 2) := by decide +kernel
theorem dX5_pair_28 : decode cX5_pair 28 = .ok (.iconst 1, 1) := by decide +kernel
theorem dX5_pair_29 : decode cX5_pair 29 = .ok (.if_icmp .ne 13, 3) := by decide +kernel
theorem dX5_pair_32 : decode cX5_pair 32 = .ok (.aload_n 0, 1) := by decide +kernel
theorem dX5_pair_33 : decode cX5_pair 33 = .ok (.getfield 7, 3) := by decide +kernel
theorem dX5_pair_36 : decode cX5_pair 36 = .ok (.bipush 31, 2) := by decide +kernel
theorem dX5_pair_38 : decode cX5_pair 38 = .ok (.iaload, 1) := by decide +kernel
theorem dX5_pair_39 : decode cX5_pair 39 = .ok (.goto 13, 3) := by decide +kernel
theorem dX5_pair_42 : decode cX5_pair 42 = .ok (.aload_n 0, 1) := by decide +kernel
theorem dX5_pair_43 : decode cX5_pair 43 = .ok (.getfield 7, 3) := by decide +kernel
theorem dX5_pair_46 : decode cX5_pair 46 = .ok (.bipush 31, 2) := by decide +kernel
theorem dX5_pair_48 : decode cX5_pair 48 = .ok (.iaload, 1) := by decide +kernel
theorem dX5_pair_49 : decode cX5_pair 49 = .ok (.bipush 8, 2) := by decide +kernel
theorem dX5_pair_51 : decode cX5_pair 51 = .ok (.idiv, 1) := by decide +kernel
theorem dX5_pair_52 : decode cX5_pair 52 = .ok (.iload_n 2, 1) := by decide +kernel
theorem dX5_pair_53 : decode cX5_pair 53 = .ok (.aload_n 0, 1) := by decide +kernel
theorem dX5_pair_54 : decode cX5_pair 54 = .ok (.iload_n 3, 1) := by decide +kernel
theorem dX5_pair_55 : decode cX5_pair 55 = .ok (.invokevirtual 68, 3) := by decide +kernel
theorem dX5_pair_58 : decode cX5_pair 58 = .ok (.invokestatic 71, 3) := by decide +kernel
theorem dX5_pair_61 : decode cX5_pair 61 = .ok (.imul, 1) := by decide +kernel
theorem dX5_pair_62 : decode cX5_pair 62 = .ok (.ireturn, 1) := by decide +kernel
theorem dX5_field_0 : decode cX5_field 0 = .ok (.aload_n 0, 1) := by decide +kernel
theorem dX5_field_1 : decode cX5_field 1 = .ok (.getfield 7, 3) := by decide +kernel
theorem dX5_field_4 : decode cX5_field 4 = .ok (.bipush 33, 2) := by decide +kernel
theorem dX5_field_6 : decode cX5_field 6 = .ok (.iaload, 1) := by decide +kernel
theorem dX5_field_7 : decode cX5_field 7 = .ok (.ineg, 1) := by decide +kernel
theorem dX5_field_8 : decode cX5_field 8 = .ok (.iload_n 1, 1) := by decide +kernel
theorem dX5_field_9 : decode cX5_field 9 = .ok (.aload_n 0, 1) := by decide +kernel
theorem dX5_field_10 : decode cX5_field 10 = .ok (.getfield 7, 3) := by decide +kernel
theorem dX5_field_13 : decode cX5_field 13 = .ok (.bipush 34, 2) := by decide +kernel
theorem dX5_field_15 : decode cX5_field 15 = .ok (.iaload, 1) := by decide +kernel
theorem dX5_field_16 : decode cX5_field 16 = .ok (.isub, 1) := by decide +kernel
theorem dX5_field_17 : decode cX5_field 17 = .ok (.invokestatic 60, 3) := by decide +kernel
theorem dX5_field_20 : decode cX5_field 20 = .ok (.imul, 1) := by decide +kernel
theorem dX5_field_21 : decode cX5_field 21 = .ok (.bipush 10, 2) := by decide +kernel
theorem dX5_field_23 : decode cX5_field 23 = .ok (.imul, 1) := by decide +kernel
theorem dX5_field_24 : decode cX5_field 24 = .ok (.ireturn, 1) := by decide +kernel
theorem dX5_part_0 : decode cX5_part 0 = .ok (.aload_n 0, 1) := by decide +kernel
theorem dX5_part_1 : decode cX5_part 1 = .ok (.iload_n 1, 1) := by decide +kernel
theorem dX5_part_2 : decode cX5_part 2 = .ok (.iload_n 2, 1) := by decide +kernel
theorem dX5_part_3 : decode cX5_part 3 = .ok (.iload_n 1, 1) := by decide +kernel
theorem dX5_part_4 : decode cX5_part 4 = .ok (.iconst 2, 1) := by decide +kernel
theorem dX5_part_5 : decode cX5_part 5 = .ok (.isub, 1) := by decide +kernel
theorem dX5_part_6 : decode cX5_part 6 = .ok (.invokevirtual 75, 3) := by decide +kernel
theorem dX5_part_9 : decode cX5_part 9 = .ok (.aload_n 0, 1) := by decide +kernel
theorem dX5_part_10 : decode cX5_part 10 = .ok (.iload_n 1, 1) := by decide +kernel
theorem dX5_part_11 : decode cX5_part 11 = .ok (.iload_n 2, 1) := by decide +kernel
theorem dX5_part_12 : decode cX5_part 12 = .ok (.iload_n 1, 1) := by decide +kernel
theorem dX5_part_13 : decode cX5_part 13 = .ok (.iconst 1, 1) := by decide +kernel
theorem dX5_part_14 : decode cX5_part 14 = .ok (.isub, 1) := by decide +kernel
theorem dX5_part_15 : decode cX5_part 15 = .ok (.invokevirtual 75, 3) := by decide +kernel
theorem dX5_part_18 : decode cX5_part 18 = .ok (.iadd, 1) := by decide +kernel
theorem dX5_part_19 : decode cX5_part 19 = .ok (.aload_n 0, 1) := by decide +kernel
theorem dX5_part_20 : decode cX5_part 20 = .ok (.iload_n 1, 1) := by decide +kernel
theorem dX5_part_21 : decode cX5_part 21 = .ok (.iload_n 2, 1) := by decide +kernel
theorem dX5_part_22 : decode cX5_part 22 = .ok (.iload_n 1, 1) := by decide +kernel
theorem dX5_part_23 : decode cX5_part 23 = .ok (.iconst 1, 1) := by decide +kernel
theorem dX5_part_24 : decode cX5_part 24 = .ok (.iadd, 1) := by decide +kernel
theorem dX5_part_25 : decode cX5_part 25 = .ok (.invokevirtual 75, 3) := by decide +kernel
theorem dX5_part_28 : decode cX5_part 28 = .ok (.iadd, 1) := by decide +kernel
theorem dX5_part_29 : decode cX5_part 29 = .ok (.aload_n 0, 1) := by decide +kernel
theorem dX5_part_30 : decode cX5_part 30 = .ok (.iload_n 1, 1) := by decide +kernel
theorem dX5_part_31 : decode cX5_part 31 = .ok (.iload_n 2, 1) := by decide +kernel
theorem dX5_part_32 : decode cX5_part 32 = .ok (.iload_n 1, 1) := by decide +kernel
theorem dX5_part_33 : decode cX5_part 33 = .ok (.iconst 2, 1) := by decide +kernel
theorem dX5_part_34 : decode cX5_part 34 = .ok (.iadd, 1) := by decide +kernel
theorem dX5_part_35 : decode cX5_part 35 = .ok (.invokevirtual 75, 3) := by decide +kernel
theorem dX5_part_38 : decode cX5_part 38 = .ok (.iadd, 1) := by decide +kernel
theorem dX5_part_39 : decode cX5_part 39 = .ok (.aload_n 0, 1) := by decide +kernel
theorem dX5_part_40 : decode cX5_part 40 = .ok (.iload_n 2, 1) := by decide +kernel
theorem dX5_part_41 : decode cX5_part 41 = .ok (.invokevirtual 79, 3) := by decide +kernel
theorem dX5_part_44 : decode cX5_part 44 = .ok (.iadd, 1) := by decide +kernel
theorem dX5_part_45 : decode cX5_part 45 = .ok (.ireturn, 1) := by decide +kernel
theorem dX5_energy_0 : decode cX5_energy 0 = .ok (.iconst 0, 1) := by decide +kernel
theorem dX5_energy_1 : decode cX5_energy 1 = .ok (.istore_n 1, 1) := by decide +kernel
theorem dX5_energy_2 : decode cX5_energy 2 = .ok (.iconst 0, 1) := by decide +kernel
theorem dX5_energy_3 : decode cX5_energy 3 = .ok (.istore_n 2, 1) := by decide +kernel
theorem dX5_energy_4 : decode cX5_energy 4 = .ok (.iload_n 2, 1) := by decide +kernel
theorem dX5_energy_5 : decode cX5_energy 5 = .ok (.aload_n 0, 1) := by decide +kernel
theorem dX5_energy_6 : decode cX5_energy 6 = .ok (.getfield 7, 3) := by decide +kernel
theorem dX5_energy_9 : decode cX5_energy 9 = .ok (.iconst 0, 1) := by decide +kernel
theorem dX5_energy_10 : decode cX5_energy 10 = .ok (.iaload, 1) := by decide +kernel
theorem dX5_energy_11 : decode cX5_energy 11 = .ok (.if_icmp .ge 49, 3) := by decide +kernel
theorem dX5_energy_14 : decode cX5_energy 14 = .ok (.iload_n 1, 1) := by decide +kernel
theorem dX5_energy_15 : decode cX5_energy 15 = .ok (.aload_n 0, 1) := by decide +kernel
theorem dX5_energy_16 : decode cX5_energy 16 = .ok (.iload_n 2, 1) := by decide +kernel
theorem dX5_energy_17 : decode cX5_energy 17 = .ok (.aload_n 0, 1) := by decide +kernel
theorem dX5_energy_18 : decode cX5_energy 18 = .ok (.iload_n 2, 1) := by decide +kernel
theorem dX5_energy_19 : decode cX5_energy 19 = .ok (.invokevirtual 68, 3) := by decide +kernel
theorem dX5_energy_22 : decode cX5_energy 22 = .ok (.iload_n 2, 1) := by decide +kernel
theorem dX5_energy_23 : decode cX5_energy 23 = .ok (.iconst 1, 1) := by decide +kernel
theorem dX5_energy_24 : decode cX5_energy 24 = .ok (.iadd, 1) := by decide +kernel
theorem dX5_energy_25 : decode cX5_energy 25 = .ok (.invokevirtual 75, 3) := by decide +kernel
theorem dX5_energy_28 : decode cX5_energy 28 = .ok (.aload_n 0, 1) := by decide +kernel
theorem dX5_energy_29 : decode cX5_energy 29 = .ok (.iload_n 2, 1) := by decide +kernel
theorem dX5_energy_30 : decode cX5_energy 30 = .ok (.aload_n 0, 1) := by decide +kernel
theorem dX5_energy_31 : decode cX5_energy 31 = .ok (.iload_n 2, 1) := by decide +kernel
theorem dX5_energy_32 : decode cX5_energy 32 = .ok (.invokevirtual 68, 3) := by decide +kernel
theorem dX5_energy_35 : decode cX5_energy 35 = .ok (.iload_n 2, 1) := by decide +kernel
theorem dX5_energy_36 : decode cX5_energy 36 = .ok (.iconst 2, 1) := by decide +kernel
theorem dX5_energy_37 : decode cX5_energy 37 = .ok (.iadd, 1) := by decide +kernel
theorem dX5_energy_38 : decode cX5_energy 38 = .ok (.invokevirtual 75, 3) := by decide +kernel
theorem dX5_energy_41 : decode cX5_energy 41 = .ok (.iadd, 1) := by decide +kernel
theorem dX5_energy_42 : decode cX5_energy 42 = .ok (.aload_n 0, 1) := by decide +kernel
theorem dX5_energy_43 : decode cX5_energy 43 = .ok (.aload_n 0, 1) := by decide +kernel
theorem dX5_energy_44 : decode cX5_energy 44 = .ok (.iload_n 2, 1) := by decide +kernel
theorem dX5_energy_45 : decode cX5_energy 45 = .ok (.invokevirtual 68, 3) := by decide +kernel
theorem dX5_energy_48 : decode cX5_energy 48 = .ok (.invokevirtual 79, 3) := by decide +kernel
theorem dX5_energy_51 : decode cX5_energy 51 = .ok (.iadd, 1) := by decide +kernel
theorem dX5_energy_52 : decode cX5_energy 52 = .ok (.iadd, 1) := by decide +kernel
theorem dX5_energy_53 : decode cX5_energy 53 = .ok (.istore_n 1, 1) := by decide +kernel
theorem dX5_energy_54 : decode cX5_energy 54 = .ok (.iinc 2 1, 3) := by decide +kernel
theorem dX5_energy_57 : decode cX5_energy 57 = .ok (.goto (-53), 3) := by decide +kernel
theorem dX5_energy_60 : decode cX5_energy 60 = .ok (.iload_n 1, 1) := by decide +kernel
theorem dX5_energy_61 : decode cX5_energy 61 = .ok (.ireturn, 1) := by decide +kernel
theorem dX5_turned_0 : decode cX5_turned 0 = .ok (.iload_n 0, 1) := by decide +kernel
theorem dX5_turned_1 : decode cX5_turned 1 = .ok (.iload_n 1, 1) := by decide +kernel
theorem dX5_turned_2 : decode cX5_turned 2 = .ok (.iadd, 1) := by decide +kernel
theorem dX5_turned_3 : decode cX5_turned 3 = .ok (.bipush 8, 2) := by decide +kernel
theorem dX5_turned_5 : decode cX5_turned 5 = .ok (.iadd, 1) := by decide +kernel
theorem dX5_turned_6 : decode cX5_turned 6 = .ok (.bipush 8, 2) := by decide +kernel
theorem dX5_turned_8 : decode cX5_turned 8 = .ok (.irem, 1) := by decide +kernel
theorem dX5_turned_9 : decode cX5_turned 9 = .ok (.ireturn, 1) := by decide +kernel
theorem dX5_free_0 : decode cX5_free 0 = .ok (.aload_n 0, 1) := by decide +kernel
theorem dX5_free_1 : decode cX5_free 1 = .ok (.iload_n 1, 1) := by decide +kernel
theorem dX5_free_2 : decode cX5_free 2 = .ok (.aload_n 0, 1) := by decide +kernel
theorem dX5_free_3 : decode cX5_free 3 = .ok (.iload_n 1, 1) := by decide +kernel
theorem dX5_free_4 : decode cX5_free 4 = .ok (.invokevirtual 68, 3) := by decide +kernel
theorem dX5_free_7 : decode cX5_free 7 = .ok (.invokevirtual 82, 3) := by decide +kernel
theorem dX5_free_10 : decode cX5_free 10 = .ok (.aload_n 0, 1) := by decide +kernel
theorem dX5_free_11 : decode cX5_free 11 = .ok (.iload_n 1, 1) := by decide +kernel
theorem dX5_free_12 : decode cX5_free 12 = .ok (.aload_n 0, 1) := by decide +kernel
theorem dX5_free_13 : decode cX5_free 13 = .ok (.iload_n 1, 1) := by decide +kernel
theorem dX5_free_14 : decode cX5_free 14 = .ok (.invokevirtual 68, 3) := by decide +kernel
theorem dX5_free_17 : decode cX5_free 17 = .ok (.iload_n 2, 1) := by decide +kernel
theorem dX5_free_18 : decode cX5_free 18 = .ok (.invokestatic 85, 3) := by decide +kernel
theorem dX5_free_21 : decode cX5_free 21 = .ok (.invokevirtual 82, 3) := by decide +kernel
theorem dX5_free_24 : decode cX5_free 24 = .ok (.isub, 1) := by decide +kernel
theorem dX5_free_25 : decode cX5_free 25 = .ok (.ireturn, 1) := by decide +kernel
theorem dX5_note_0 : decode cX5_note 0 = .ok (.aload_n 0, 1) := by decide +kernel
theorem dX5_note_1 : decode cX5_note 1 = .ok (.getfield 7, 3) := by decide +kernel
theorem dX5_note_4 : decode cX5_note 4 = .ok (.bipush 39, 2) := by decide +kernel
theorem dX5_note_6 : decode cX5_note 6 = .ok (.iaload, 1) := by decide +kernel
theorem dX5_note_7 : decode cX5_note 7 = .ok (.bipush 30, 2) := by decide +kernel
theorem dX5_note_9 : decode cX5_note 9 = .ok (.if_icmp .ne 47, 3) := by decide +kernel
theorem dX5_note_12 : decode cX5_note 12 = .ok (.bipush 40, 2) := by decide +kernel
theorem dX5_note_14 : decode cX5_note 14 = .ok (.istore 4, 2) := by decide +kernel
theorem dX5_note_16 : decode cX5_note 16 = .ok (.iload 4, 2) := by decide +kernel
theorem dX5_note_18 : decode cX5_note 18 = .ok (.bipush 127, 2) := by decide +kernel
theorem dX5_note_20 : decode cX5_note 20 = .ok (.if_icmp .ge 25, 3) := by decide +kernel
theorem dX5_note_23 : decode cX5_note 23 = .ok (.aload_n 0, 1) := by decide +kernel
theorem dX5_note_24 : decode cX5_note 24 = .ok (.getfield 7, 3) := by decide +kernel
theorem dX5_note_27 : decode cX5_note 27 = .ok (.iload 4, 2) := by decide +kernel
theorem dX5_note_29 : decode cX5_note 29 = .ok (.aload_n 0, 1) := by decide +kernel
theorem dX5_note_30 : decode cX5_note 30 = .ok (.getfield 7, 3) := by decide +kernel
theorem dX5_note_33 : decode cX5_note 33 = .ok (.iload 4, 2) := by decide +kernel
theorem dX5_note_35 : decode cX5_note 35 = .ok (.iconst 3, 1) := by decide +kernel
theorem dX5_note_36 : decode cX5_note 36 = .ok (.iadd, 1) := by decide +kernel
theorem dX5_note_37 : decode cX5_note 37 = .ok (.iaload, 1) := by decide +kernel
theorem dX5_note_38 : decode cX5_note 38 = .ok (.iastore, 1) := by decide +kernel
theorem dX5_note_39 : decode cX5_note 39 = .ok (.iinc 4 1, 3) := by decide +kernel
theorem dX5_note_42 : decode cX5_note 42 = .ok (.goto (-26), 3) := by decide +kernel
theorem dX5_note_45 : decode cX5_note 45 = .ok (.aload_n 0, 1) := by decide +kernel
theorem dX5_note_46 : decode cX5_note 46 = .ok (.getfield 7, 3) := by decide +kernel
theorem dX5_note_49 : decode cX5_note 49 = .ok (.bipush 39, 2) := by decide +kernel
theorem dX5_note_51 : decode cX5_note 51 = .ok (.dup2, 1) := by decide +kernel
theorem dX5_note_52 : decode cX5_note 52 = .ok (.iaload, 1) := by decide +kernel
theorem dX5_note_53 : decode cX5_note 53 = .ok (.iconst 1, 1) := by decide +kernel
theorem dX5_note_54 : decode cX5_note 54 = .ok (.isub, 1) := by decide +kernel
theorem dX5_note_55 : decode cX5_note 55 = .ok (.iastore, 1) := by decide +kernel
theorem dX5_note_56 : decode cX5_note 56 = .ok (.bipush 40, 2) := by decide +kernel
theorem dX5_note_58 : decode cX5_note 58 = .ok (.iconst 3, 1) := by decide +kernel
theorem dX5_note_59 : decode cX5_note 59 = .ok (.aload_n 0, 1) := by decide +kernel
theorem dX5_note_60 : decode cX5_note 60 = .ok (.getfield 7, 3) := by decide +kernel
theorem dX5_note_63 : decode cX5_note 63 = .ok (.bipush 39, 2) := by decide +kernel
theorem dX5_note_65 : decode cX5_note 65 = .ok (.iaload, 1) := by decide +kernel
theorem dX5_note_66 : decode cX5_note 66 = .ok (.imul, 1) := by decide +kernel
theorem dX5_note_67 : decode cX5_note 67 = .ok (.iadd, 1) := by decide +kernel
theorem dX5_note_68 : decode cX5_note 68 = .ok (.istore 4, 2) := by decide +kernel
theorem dX5_note_70 : decode cX5_note 70 = .ok (.aload_n 0, 1) := by decide +kernel
theorem dX5_note_71 : decode cX5_note 71 = .ok (.getfield 7, 3) := by decide +kernel
theorem dX5_note_74 : decode cX5_note 74 = .ok (.iload 4, 2) := by decide +kernel
theorem dX5_note_76 : decode cX5_note 76 = .ok (.iload_n 1, 1) := by decide +kernel
theorem dX5_note_77 : decode cX5_note 77 = .ok (.iastore, 1) := by decide +kernel
theorem dX5_note_78 : decode cX5_note 78 = .ok (.aload_n 0, 1) := by decide +kernel
theorem dX5_note_79 : decode cX5_note 79 = .ok (.getfield 7, 3) := by decide +kernel
theorem dX5_note_82 : decode cX5_note 82 = .ok (.iload 4, 2) := by decide +kernel
theorem dX5_note_84 : decode cX5_note 84 = .ok (.iconst 1, 1) := by decide +kernel
theorem dX5_note_85 : decode cX5_note 85 = .ok (.iadd, 1) := by decide +kernel
theorem dX5_note_86 : decode cX5_note 86 = .ok (.iload_n 2, 1) := by decide +kernel
theorem dX5_note_87 : decode cX5_note 87 = .ok (.iastore, 1) := by decide +kernel
theorem dX5_note_88 : decode cX5_note 88 = .ok (.aload_n 0, 1) := by decide +kernel
theorem dX5_note_89 : decode cX5_note 89 = .ok (.getfield 7, 3) := by decide +kernel
theorem dX5_note_92 : decode cX5_note 92 = .ok (.iload 4, 2) := by decide +kernel
theorem dX5_note_94 : decode cX5_note 94 = .ok (.iconst 2, 1) := by decide +kernel
theorem dX5_note_95 : decode cX5_note 95 = .ok (.iadd, 1) := by decide +kernel
theorem dX5_note_96 : decode cX5_note 96 = .ok (.iload_n 3, 1) := by decide +kernel
theorem dX5_note_97 : decode cX5_note 97 = .ok (.iastore, 1) := by decide +kernel
theorem dX5_note_98 : decode cX5_note 98 = .ok (.aload_n 0, 1) := by decide +kernel
theorem dX5_note_99 : decode cX5_note 99 = .ok (.getfield 7, 3) := by decide +kernel
theorem dX5_note_102 : decode cX5_note 102 = .ok (.bipush 39, 2) := by decide +kernel
theorem dX5_note_104 : decode cX5_note 104 = .ok (.dup2, 1) := by decide +kernel
theorem dX5_note_105 : decode cX5_note 105 = .ok (.iaload, 1) := by decide +kernel
theorem dX5_note_106 : decode cX5_note 106 = .ok (.iconst 1, 1) := by decide +kernel
theorem dX5_note_107 : decode cX5_note 107 = .ok (.iadd, 1) := by decide +kernel
theorem dX5_note_108 : decode cX5_note 108 = .ok (.iastore, 1) := by decide +kernel
theorem dX5_note_109 : decode cX5_note 109 = .ok (.return_, 1) := by decide +kernel
theorem dX5_settle_0 : decode cX5_settle 0 = .ok (.iconst 0, 1) := by decide +kernel
theorem dX5_settle_1 : decode cX5_settle 1 = .ok (.istore_n 1, 1) := by decide +kernel
theorem dX5_settle_2 : decode cX5_settle 2 = .ok (.iconst 1, 1) := by decide +kernel
theorem dX5_settle_3 : decode cX5_settle 3 = .ok (.istore_n 2, 1) := by decide +kernel
theorem dX5_settle_4 : decode cX5_settle 4 = .ok (.iload_n 2, 1) := by decide +kernel
theorem dX5_settle_5 : decode cX5_settle 5 = .ok (.ifCond .eq 174, 3) := by decide +kernel
theorem dX5_settle_8 : decode cX5_settle 8 = .ok (.iload_n 1, 1) := by decide +kernel
theorem dX5_settle_9 : decode cX5_settle 9 = .ok (.sipush 200, 3) := by decide +kernel
theorem dX5_settle_12 : decode cX5_settle 12 = .ok (.if_icmp .ge 167, 3) := by decide +kernel
theorem dX5_settle_15 : decode cX5_settle 15 = .ok (.ldc 25, 2) := by decide +kernel
theorem dX5_settle_17 : decode cX5_settle 17 = .ok (.istore_n 3, 1) := by decide +kernel
theorem dX5_settle_18 : decode cX5_settle 18 = .ok (.iconst 0, 1) := by decide +kernel
theorem dX5_settle_19 : decode cX5_settle 19 = .ok (.istore 4, 2) := by decide +kernel
theorem dX5_settle_21 : decode cX5_settle 21 = .ok (.aload_n 0, 1) := by decide +kernel
theorem dX5_settle_22 : decode cX5_settle 22 = .ok (.getfield 7, 3) := by decide +kernel
theorem dX5_settle_25 : decode cX5_settle 25 = .ok (.bipush 32, 2) := by decide +kernel
theorem dX5_settle_27 : decode cX5_settle 27 = .ok (.iaload, 1) := by decide +kernel
theorem dX5_settle_28 : decode cX5_settle 28 = .ok (.istore 5, 2) := by decide +kernel
theorem dX5_settle_30 : decode cX5_settle 30 = .ok (.iconst 0, 1) := by decide +kernel
theorem dX5_settle_31 : decode cX5_settle 31 = .ok (.istore 6, 2) := by decide +kernel
theorem dX5_settle_33 : decode cX5_settle 33 = .ok (.iload 6, 2) := by decide +kernel
theorem dX5_settle_35 : decode cX5_settle 35 = .ok (.aload_n 0, 1) := by decide +kernel
theorem dX5_settle_36 : decode cX5_settle 36 = .ok (.getfield 7, 3) := by decide +kernel
theorem dX5_settle_39 : decode cX5_settle 39 = .ok (.iconst 0, 1) := by decide +kernel
theorem dX5_settle_40 : decode cX5_settle 40 = .ok (.iaload, 1) := by decide +kernel
theorem dX5_settle_41 : decode cX5_settle 41 = .ok (.if_icmp .ge 66, 3) := by decide +kernel
theorem dX5_settle_44 : decode cX5_settle 44 = .ok (.iconst 1, 1) := by decide +kernel
theorem dX5_settle_45 : decode cX5_settle 45 = .ok (.istore 7, 2) := by decide +kernel
theorem dX5_settle_47 : decode cX5_settle 47 = .ok (.iload 7, 2) := by decide +kernel
theorem dX5_settle_49 : decode cX5_settle 49 = .ok (.bipush (-2), 2) := by decide +kernel
theorem dX5_settle_51 : decode cX5_settle 51 = .ok (.if_icmp .le 50, 3) := by decide +kernel
theorem dX5_settle_54 : decode cX5_settle 54 = .ok (.aload_n 0, 1) := by decide +kernel
theorem dX5_settle_55 : decode cX5_settle 55 = .ok (.iload 6, 2) := by decide +kernel
theorem dX5_settle_57 : decode cX5_settle 57 = .ok (.iload 7, 2) := by decide +kernel
theorem dX5_settle_59 : decode cX5_settle 59 = .ok (.invokevirtual 88, 3) := by decide +kernel
theorem dX5_settle_62 : decode cX5_settle 62 = .ok (.istore 8, 2) := by decide +kernel
theorem dX5_settle_64 : decode cX5_settle 64 = .ok (.aload_n 0, 1) := by decide +kernel
theorem dX5_settle_65 : decode cX5_settle 65 = .ok (.getfield 7, 3) := by decide +kernel
theorem dX5_settle_68 : decode cX5_settle 68 = .ok (.bipush 11, 2) := by decide +kernel
theorem dX5_settle_70 : decode cX5_settle 70 = .ok (.iload 6, 2) := by decide +kernel
theorem dX5_settle_72 : decode cX5_settle 72 = .ok (.iadd, 1) := by decide +kernel
theorem dX5_settle_73 : decode cX5_settle 73 = .ok (.iaload, 1) := by decide +kernel
theorem dX5_settle_74 : decode cX5_settle 74 = .ok (.ifCond .ne 21, 3) := by decide +kernel
theorem dX5_settle_77 : decode cX5_settle 77 = .ok (.iload 8, 2) := by decide +kernel
theorem dX5_settle_79 : decode cX5_settle 79 = .ok (.iload 5, 2) := by decide +kernel
theorem dX5_settle_81 : decode cX5_settle 81 = .ok (.if_icmp .le 14, 3) := by decide +kernel
theorem dX5_settle_84 : decode cX5_settle 84 = .ok (.iload 6, 2) := by decide +kernel
theorem dX5_settle_86 : decode cX5_settle 86 = .ok (.istore_n 3, 1) := by decide +kernel
theorem dX5_settle_87 : decode cX5_settle 87 = .ok (.iload 7, 2) := by decide +kernel
theorem dX5_settle_89 : decode cX5_settle 89 = .ok (.istore 4, 2) := by decide +kernel
theorem dX5_settle_91 : decode cX5_settle 91 = .ok (.iload 8, 2) := by decide +kernel
theorem dX5_settle_93 : decode cX5_settle 93 = .ok (.istore 5, 2) := by decide +kernel
theorem dX5_settle_95 : decode cX5_settle 95 = .ok (.iinc 7 (-2), 3) := by decide +kernel
theorem dX5_settle_98 : decode cX5_settle 98 = .ok (.goto (-51), 3) := by decide +kernel
theorem dX5_settle_101 : decode cX5_settle 101 = .ok (.iinc 6 1, 3) := by decide +kernel
theorem dX5_settle_104 : decode cX5_settle 104 = .ok (.goto (-71), 3) := by decide +kernel
theorem dX5_settle_107 : decode cX5_settle 107 = .ok (.iload_n 3, 1) := by decide +kernel
theorem dX5_settle_108 : decode cX5_settle 108 = .ok (.ldc 25, 2) := by decide +kernel
theorem dX5_settle_110 : decode cX5_settle 110 = .ok (.if_icmp .eq 7, 3) := by decide +kernel
theorem dX5_settle_113 : decode cX5_settle 113 = .ok (.iconst 1, 1) := by decide +kernel
theorem dX5_settle_114 : decode cX5_settle 114 = .ok (.goto 4, 3) := by decide +kernel
theorem dX5_settle_117 : decode cX5_settle 117 = .ok (.iconst 0, 1) := by decide +kernel
theorem dX5_settle_118 : decode cX5_settle 118 = .ok (.istore_n 2, 1) := by decide +kernel
theorem dX5_settle_119 : decode cX5_settle 119 = .ok (.iload_n 2, 1) := by decide +kernel
theorem dX5_settle_120 : decode cX5_settle 120 = .ok (.ifCond .eq 56, 3) := by decide +kernel
theorem dX5_settle_123 : decode cX5_settle 123 = .ok (.aload_n 0, 1) := by decide +kernel
theorem dX5_settle_124 : decode cX5_settle 124 = .ok (.getfield 7, 3) := by decide +kernel
theorem dX5_settle_127 : decode cX5_settle 127 = .ok (.iconst 1, 1) := by decide +kernel
theorem dX5_settle_128 : decode cX5_settle 128 = .ok (.iload_n 3, 1) := by decide +kernel
theorem dX5_settle_129 : decode cX5_settle 129 = .ok (.iadd, 1) := by decide +kernel
theorem dX5_settle_130 : decode cX5_settle 130 = .ok (.aload_n 0, 1) := by decide +kernel
theorem dX5_settle_131 : decode cX5_settle 131 = .ok (.iload_n 3, 1) := by decide +kernel
theorem dX5_settle_132 : decode cX5_settle 132 = .ok (.invokevirtual 68, 3) := by decide +kernel
theorem dX5_settle_135 : decode cX5_settle 135 = .ok (.iload 4, 2) := by decide +kernel
theorem dX5_settle_137 : decode cX5_settle 137 = .ok (.invokestatic 85, 3) := by decide +kernel
theorem dX5_settle_140 : decode cX5_settle 140 = .ok (.iastore, 1) := by decide +kernel
theorem dX5_settle_141 : decode cX5_settle 141 = .ok (.aload_n 0, 1) := by decide +kernel
theorem dX5_settle_142 : decode cX5_settle 142 = .ok (.getfield 7, 3) := by decide +kernel
theorem dX5_settle_145 : decode cX5_settle 145 = .ok (.bipush 36, 2) := by decide +kernel
theorem dX5_settle_147 : decode cX5_settle 147 = .ok (.dup2, 1) := by decide +kernel
end
section
theorem dX5_settle_148 : decode cX5_settle 148 = .ok (.iaload, 1) := by decide +kernel
theorem dX5_settle_149 : decode cX5_settle 149 = .ok (.iload 5, 2) := by decide +kernel
theorem dX5_settle_151 : decode cX5_settle 151 = .ok (.iadd, 1) := by decide +kernel
theorem dX5_settle_152 : decode cX5_settle 152 = .ok (.iastore, 1) := by decide +kernel
theorem dX5_settle_153 : decode cX5_settle 153 = .ok (.aload_n 0, 1) := by decide +kernel
theorem dX5_settle_154 : decode cX5_settle 154 = .ok (.getfield 7, 3) := by decide +kernel
theorem dX5_settle_157 : decode cX5_settle 157 = .ok (.bipush 37, 2) := by decide +kernel
theorem dX5_settle_159 : decode cX5_settle 159 = .ok (.dup2, 1) := by decide +kernel
theorem dX5_settle_160 : decode cX5_settle 160 = .ok (.iaload, 1) := by decide +kernel
theorem dX5_settle_161 : decode cX5_settle 161 = .ok (.iconst 1, 1) := by decide +kernel
theorem dX5_settle_162 : decode cX5_settle 162 = .ok (.iadd, 1) := by decide +kernel
theorem dX5_settle_163 : decode cX5_settle 163 = .ok (.iastore, 1) := by decide +kernel
theorem dX5_settle_164 : decode cX5_settle 164 = .ok (.aload_n 0, 1) := by decide +kernel
theorem dX5_settle_165 : decode cX5_settle 165 = .ok (.iload_n 3, 1) := by decide +kernel
theorem dX5_settle_166 : decode cX5_settle 166 = .ok (.iload 4, 2) := by decide +kernel
theorem dX5_settle_168 : decode cX5_settle 168 = .ok (.iload 5, 2) := by decide +kernel
theorem dX5_settle_170 : decode cX5_settle 170 = .ok (.invokevirtual 91, 3) := by decide +kernel
theorem dX5_settle_173 : decode cX5_settle 173 = .ok (.iinc 1 1, 3) := by decide +kernel
theorem dX5_settle_176 : decode cX5_settle 176 = .ok (.goto (-172), 3) := by decide +kernel
theorem dX5_settle_179 : decode cX5_settle 179 = .ok (.iload_n 1, 1) := by decide +kernel
theorem dX5_settle_180 : decode cX5_settle 180 = .ok (.ireturn, 1) := by decide +kernel
theorem dX5_end_0 : decode cX5_end 0 = .ok (.aload_n 0, 1) := by decide +kernel
theorem dX5_end_1 : decode cX5_end 1 = .ok (.getfield 7, 3) := by decide +kernel
theorem dX5_end_4 : decode cX5_end 4 = .ok (.bipush 35, 2) := by decide +kernel
theorem dX5_end_6 : decode cX5_end 6 = .ok (.dup2, 1) := by decide +kernel
theorem dX5_end_7 : decode cX5_end 7 = .ok (.iaload, 1) := by decide +kernel
theorem dX5_end_8 : decode cX5_end 8 = .ok (.aload_n 0, 1) := by decide +kernel
theorem dX5_end_9 : decode cX5_end 9 = .ok (.invokevirtual 95, 3) := by decide +kernel
theorem dX5_end_12 : decode cX5_end 12 = .ok (.iload_n 1, 1) := by decide +kernel
theorem dX5_end_13 : decode cX5_end 13 = .ok (.isub, 1) := by decide +kernel
theorem dX5_end_14 : decode cX5_end 14 = .ok (.iadd, 1) := by decide +kernel
theorem dX5_end_15 : decode cX5_end 15 = .ok (.iastore, 1) := by decide +kernel
theorem dX5_end_16 : decode cX5_end 16 = .ok (.aload_n 0, 1) := by decide +kernel
theorem dX5_end_17 : decode cX5_end 17 = .ok (.invokevirtual 99, 3) := by decide +kernel
theorem dX5_end_20 : decode cX5_end 20 = .ok (.ireturn, 1) := by decide +kernel
theorem dX5_begin_0 : decode cX5_begin 0 = .ok (.iload_n 1, 1) := by decide +kernel
theorem dX5_begin_1 : decode cX5_begin 1 = .ok (.iconst 1, 1) := by decide +kernel
theorem dX5_begin_2 : decode cX5_begin 2 = .ok (.bipush 10, 2) := by decide +kernel
theorem dX5_begin_4 : decode cX5_begin 4 = .ok (.invokestatic 52, 3) := by decide +kernel
theorem dX5_begin_7 : decode cX5_begin 7 = .ok (.ifCond .ne 6, 3) := by decide +kernel
theorem dX5_begin_10 : decode cX5_begin 10 = .ok (.ldc 102, 2) := by decide +kernel
theorem dX5_begin_12 : decode cX5_begin 12 = .ok (.ireturn, 1) := by decide +kernel
theorem dX5_begin_13 : decode cX5_begin 13 = .ok (.aload_n 0, 1) := by decide +kernel
theorem dX5_begin_14 : decode cX5_begin 14 = .ok (.invokevirtual 103, 3) := by decide +kernel
theorem dX5_begin_17 : decode cX5_begin 17 = .ok (.aload_n 0, 1) := by decide +kernel
theorem dX5_begin_18 : decode cX5_begin 18 = .ok (.getfield 7, 3) := by decide +kernel
theorem dX5_begin_21 : decode cX5_begin 21 = .ok (.iconst 0, 1) := by decide +kernel
theorem dX5_begin_22 : decode cX5_begin 22 = .ok (.iaload, 1) := by decide +kernel
theorem dX5_begin_23 : decode cX5_begin 23 = .ok (.istore_n 2, 1) := by decide +kernel
theorem dX5_begin_24 : decode cX5_begin 24 = .ok (.aload_n 0, 1) := by decide +kernel
theorem dX5_begin_25 : decode cX5_begin 25 = .ok (.iload_n 1, 1) := by decide +kernel
theorem dX5_begin_26 : decode cX5_begin 26 = .ok (.invokevirtual 48, 3) := by decide +kernel
theorem dX5_begin_29 : decode cX5_begin 29 = .ok (.bipush 35, 2) := by decide +kernel
theorem dX5_begin_31 : decode cX5_begin 31 = .ok (.istore_n 3, 1) := by decide +kernel
theorem dX5_begin_32 : decode cX5_begin 32 = .ok (.iload_n 3, 1) := by decide +kernel
theorem dX5_begin_33 : decode cX5_begin 33 = .ok (.bipush 40, 2) := by decide +kernel
theorem dX5_begin_35 : decode cX5_begin 35 = .ok (.if_icmp .ge 16, 3) := by decide +kernel
theorem dX5_begin_38 : decode cX5_begin 38 = .ok (.aload_n 0, 1) := by decide +kernel
theorem dX5_begin_39 : decode cX5_begin 39 = .ok (.getfield 7, 3) := by decide +kernel
theorem dX5_begin_42 : decode cX5_begin 42 = .ok (.iload_n 3, 1) := by decide +kernel
theorem dX5_begin_43 : decode cX5_begin 43 = .ok (.iconst 0, 1) := by decide +kernel
theorem dX5_begin_44 : decode cX5_begin 44 = .ok (.iastore, 1) := by decide +kernel
theorem dX5_begin_45 : decode cX5_begin 45 = .ok (.iinc 3 1, 3) := by decide +kernel
theorem dX5_begin_48 : decode cX5_begin 48 = .ok (.goto (-16), 3) := by decide +kernel
theorem dX5_begin_51 : decode cX5_begin 51 = .ok (.aload_n 0, 1) := by decide +kernel
theorem dX5_begin_52 : decode cX5_begin 52 = .ok (.invokevirtual 99, 3) := by decide +kernel
theorem dX5_begin_55 : decode cX5_begin 55 = .ok (.istore_n 3, 1) := by decide +kernel
theorem dX5_begin_56 : decode cX5_begin 56 = .ok (.iload_n 2, 1) := by decide +kernel
theorem dX5_begin_57 : decode cX5_begin 57 = .ok (.ireturn, 1) := by decide +kernel
theorem dX5_insert_0 : decode cX5_insert 0 = .ok (.iload_n 1, 1) := by decide +kernel
theorem dX5_insert_1 : decode cX5_insert 1 = .ok (.iconst 0, 1) := by decide +kernel
theorem dX5_insert_2 : decode cX5_insert 2 = .ok (.aload_n 0, 1) := by decide +kernel
theorem dX5_insert_3 : decode cX5_insert 3 = .ok (.getfield 7, 3) := by decide +kernel
theorem dX5_insert_6 : decode cX5_insert 6 = .ok (.iconst 0, 1) := by decide +kernel
theorem dX5_insert_7 : decode cX5_insert 7 = .ok (.iaload, 1) := by decide +kernel
theorem dX5_insert_8 : decode cX5_insert 8 = .ok (.invokestatic 52, 3) := by decide +kernel
theorem dX5_insert_11 : decode cX5_insert 11 = .ok (.ifCond .eq 13, 3) := by decide +kernel
theorem dX5_insert_14 : decode cX5_insert 14 = .ok (.iload_n 2, 1) := by decide +kernel
theorem dX5_insert_15 : decode cX5_insert 15 = .ok (.iconst 0, 1) := by decide +kernel
theorem dX5_insert_16 : decode cX5_insert 16 = .ok (.bipush 7, 2) := by decide +kernel
theorem dX5_insert_18 : decode cX5_insert 18 = .ok (.invokestatic 52, 3) := by decide +kernel
theorem dX5_insert_21 : decode cX5_insert 21 = .ok (.ifCond .ne 6, 3) := by decide +kernel
theorem dX5_insert_24 : decode cX5_insert 24 = .ok (.ldc 102, 2) := by decide +kernel
theorem dX5_insert_26 : decode cX5_insert 26 = .ok (.ireturn, 1) := by decide +kernel
theorem dX5_insert_27 : decode cX5_insert 27 = .ok (.aload_n 0, 1) := by decide +kernel
theorem dX5_insert_28 : decode cX5_insert 28 = .ok (.getfield 7, 3) := by decide +kernel
theorem dX5_insert_31 : decode cX5_insert 31 = .ok (.iconst 0, 1) := by decide +kernel
theorem dX5_insert_32 : decode cX5_insert 32 = .ok (.iaload, 1) := by decide +kernel
theorem dX5_insert_33 : decode cX5_insert 33 = .ok (.bipush 10, 2) := by decide +kernel
theorem dX5_insert_35 : decode cX5_insert 35 = .ok (.if_icmp .ne 6, 3) := by decide +kernel
theorem dX5_insert_38 : decode cX5_insert 38 = .ok (.ldc 106, 2) := by decide +kernel
theorem dX5_insert_40 : decode cX5_insert 40 = .ok (.ireturn, 1) := by decide +kernel
theorem dX5_insert_41 : decode cX5_insert 41 = .ok (.aload_n 0, 1) := by decide +kernel
theorem dX5_insert_42 : decode cX5_insert 42 = .ok (.invokevirtual 103, 3) := by decide +kernel
theorem dX5_insert_45 : decode cX5_insert 45 = .ok (.aload_n 0, 1) := by decide +kernel
theorem dX5_insert_46 : decode cX5_insert 46 = .ok (.invokevirtual 95, 3) := by decide +kernel
theorem dX5_insert_49 : decode cX5_insert 49 = .ok (.istore_n 3, 1) := by decide +kernel
theorem dX5_insert_50 : decode cX5_insert 50 = .ok (.aload_n 0, 1) := by decide +kernel
theorem dX5_insert_51 : decode cX5_insert 51 = .ok (.getfield 7, 3) := by decide +kernel
theorem dX5_insert_54 : decode cX5_insert 54 = .ok (.iconst 0, 1) := by decide +kernel
theorem dX5_insert_55 : decode cX5_insert 55 = .ok (.iaload, 1) := by decide +kernel
theorem dX5_insert_56 : decode cX5_insert 56 = .ok (.istore 4, 2) := by decide +kernel
theorem dX5_insert_58 : decode cX5_insert 58 = .ok (.iload 4, 2) := by decide +kernel
theorem dX5_insert_60 : decode cX5_insert 60 = .ok (.iload_n 1, 1) := by decide +kernel
theorem dX5_insert_61 : decode cX5_insert 61 = .ok (.if_icmp .le 73, 3) := by decide +kernel
theorem dX5_insert_64 : decode cX5_insert 64 = .ok (.aload_n 0, 1) := by decide +kernel
theorem dX5_insert_65 : decode cX5_insert 65 = .ok (.getfield 7, 3) := by decide +kernel
theorem dX5_insert_68 : decode cX5_insert 68 = .ok (.iconst 1, 1) := by decide +kernel
theorem dX5_insert_69 : decode cX5_insert 69 = .ok (.iload 4, 2) := by decide +kernel
theorem dX5_insert_71 : decode cX5_insert 71 = .ok (.iadd, 1) := by decide +kernel
theorem dX5_insert_72 : decode cX5_insert 72 = .ok (.aload_n 0, 1) := by decide +kernel
theorem dX5_insert_73 : decode cX5_insert 73 = .ok (.getfield 7, 3) := by decide +kernel
theorem dX5_insert_76 : decode cX5_insert 76 = .ok (.iconst 1, 1) := by decide +kernel
theorem dX5_insert_77 : decode cX5_insert 77 = .ok (.iload 4, 2) := by decide +kernel
theorem dX5_insert_79 : decode cX5_insert 79 = .ok (.iadd, 1) := by decide +kernel
theorem dX5_insert_80 : decode cX5_insert 80 = .ok (.iconst 1, 1) := by decide +kernel
theorem dX5_insert_81 : decode cX5_insert 81 = .ok (.isub, 1) := by decide +kernel
theorem dX5_insert_82 : decode cX5_insert 82 = .ok (.iaload, 1) := by decide +kernel
theorem dX5_insert_83 : decode cX5_insert 83 = .ok (.iastore, 1) := by decide +kernel
theorem dX5_insert_84 : decode cX5_insert 84 = .ok (.aload_n 0, 1) := by decide +kernel
theorem dX5_insert_85 : decode cX5_insert 85 = .ok (.getfield 7, 3) := by decide +kernel
theorem dX5_insert_88 : decode cX5_insert 88 = .ok (.bipush 11, 2) := by decide +kernel
theorem dX5_insert_90 : decode cX5_insert 90 = .ok (.iload 4, 2) := by decide +kernel
theorem dX5_insert_92 : decode cX5_insert 92 = .ok (.iadd, 1) := by decide +kernel
theorem dX5_insert_93 : decode cX5_insert 93 = .ok (.aload_n 0, 1) := by decide +kernel
theorem dX5_insert_94 : decode cX5_insert 94 = .ok (.getfield 7, 3) := by decide +kernel
theorem dX5_insert_97 : decode cX5_insert 97 = .ok (.bipush 11, 2) := by decide +kernel
theorem dX5_insert_99 : decode cX5_insert 99 = .ok (.iload 4, 2) := by decide +kernel
theorem dX5_insert_101 : decode cX5_insert 101 = .ok (.iadd, 1) := by decide +kernel
theorem dX5_insert_102 : decode cX5_insert 102 = .ok (.iconst 1, 1) := by decide +kernel
theorem dX5_insert_103 : decode cX5_insert 103 = .ok (.isub, 1) := by decide +kernel
theorem dX5_insert_104 : decode cX5_insert 104 = .ok (.iaload, 1) := by decide +kernel
theorem dX5_insert_105 : decode cX5_insert 105 = .ok (.iastore, 1) := by decide +kernel
theorem dX5_insert_106 : decode cX5_insert 106 = .ok (.aload_n 0, 1) := by decide +kernel
theorem dX5_insert_107 : decode cX5_insert 107 = .ok (.getfield 7, 3) := by decide +kernel
theorem dX5_insert_110 : decode cX5_insert 110 = .ok (.bipush 21, 2) := by decide +kernel
theorem dX5_insert_112 : decode cX5_insert 112 = .ok (.iload 4, 2) := by decide +kernel
theorem dX5_insert_114 : decode cX5_insert 114 = .ok (.iadd, 1) := by decide +kernel
theorem dX5_insert_115 : decode cX5_insert 115 = .ok (.aload_n 0, 1) := by decide +kernel
theorem dX5_insert_116 : decode cX5_insert 116 = .ok (.getfield 7, 3) := by decide +kernel
theorem dX5_insert_119 : decode cX5_insert 119 = .ok (.bipush 21, 2) := by decide +kernel
theorem dX5_insert_121 : decode cX5_insert 121 = .ok (.iload 4, 2) := by decide +kernel
theorem dX5_insert_123 : decode cX5_insert 123 = .ok (.iadd, 1) := by decide +kernel
theorem dX5_insert_124 : decode cX5_insert 124 = .ok (.iconst 1, 1) := by decide +kernel
theorem dX5_insert_125 : decode cX5_insert 125 = .ok (.isub, 1) := by decide +kernel
theorem dX5_insert_126 : decode cX5_insert 126 = .ok (.iaload, 1) := by decide +kernel
theorem dX5_insert_127 : decode cX5_insert 127 = .ok (.iastore, 1) := by decide +kernel
theorem dX5_insert_128 : decode cX5_insert 128 = .ok (.iinc 4 (-1), 3) := by decide +kernel
theorem dX5_insert_131 : decode cX5_insert 131 = .ok (.goto (-73), 3) := by decide +kernel
theorem dX5_insert_134 : decode cX5_insert 134 = .ok (.aload_n 0, 1) := by decide +kernel
theorem dX5_insert_135 : decode cX5_insert 135 = .ok (.getfield 7, 3) := by decide +kernel
theorem dX5_insert_138 : decode cX5_insert 138 = .ok (.iconst 1, 1) := by decide +kernel
theorem dX5_insert_139 : decode cX5_insert 139 = .ok (.iload_n 1, 1) := by decide +kernel
theorem dX5_insert_140 : decode cX5_insert 140 = .ok (.iadd, 1) := by decide +kernel
theorem dX5_insert_141 : decode cX5_insert 141 = .ok (.iload_n 2, 1) := by decide +kernel
theorem dX5_insert_142 : decode cX5_insert 142 = .ok (.iastore, 1) := by decide +kernel
theorem dX5_insert_143 : decode cX5_insert 143 = .ok (.aload_n 0, 1) := by decide +kernel
theorem dX5_insert_144 : decode cX5_insert 144 = .ok (.getfield 7, 3) := by decide +kernel
theorem dX5_insert_147 : decode cX5_insert 147 = .ok (.bipush 11, 2) := by decide +kernel
theorem dX5_insert_149 : decode cX5_insert 149 = .ok (.iload_n 1, 1) := by decide +kernel
theorem dX5_insert_150 : decode cX5_insert 150 = .ok (.iadd, 1) := by decide +kernel
theorem dX5_insert_151 : decode cX5_insert 151 = .ok (.iconst 0, 1) := by decide +kernel
theorem dX5_insert_152 : decode cX5_insert 152 = .ok (.iastore, 1) := by decide +kernel
theorem dX5_insert_153 : decode cX5_insert 153 = .ok (.aload_n 0, 1) := by decide +kernel
theorem dX5_insert_154 : decode cX5_insert 154 = .ok (.getfield 7, 3) := by decide +kernel
theorem dX5_insert_157 : decode cX5_insert 157 = .ok (.bipush 21, 2) := by decide +kernel
theorem dX5_insert_159 : decode cX5_insert 159 = .ok (.iload_n 1, 1) := by decide +kernel
theorem dX5_insert_160 : decode cX5_insert 160 = .ok (.iadd, 1) := by decide +kernel
theorem dX5_insert_161 : decode cX5_insert 161 = .ok (.ldc 25, 2) := by decide +kernel
theorem dX5_insert_163 : decode cX5_insert 163 = .ok (.iastore, 1) := by decide +kernel
theorem dX5_insert_164 : decode cX5_insert 164 = .ok (.aload_n 0, 1) := by decide +kernel
theorem dX5_insert_165 : decode cX5_insert 165 = .ok (.getfield 7, 3) := by decide +kernel
theorem dX5_insert_168 : decode cX5_insert 168 = .ok (.iconst 0, 1) := by decide +kernel
theorem dX5_insert_169 : decode cX5_insert 169 = .ok (.dup2, 1) := by decide +kernel
theorem dX5_insert_170 : decode cX5_insert 170 = .ok (.iaload, 1) := by decide +kernel
theorem dX5_insert_171 : decode cX5_insert 171 = .ok (.iconst 1, 1) := by decide +kernel
theorem dX5_insert_172 : decode cX5_insert 172 = .ok (.iadd, 1) := by decide +kernel
theorem dX5_insert_173 : decode cX5_insert 173 = .ok (.iastore, 1) := by decide +kernel
theorem dX5_insert_174 : decode cX5_insert 174 = .ok (.aload_n 0, 1) := by decide +kernel
theorem dX5_insert_175 : decode cX5_insert 175 = .ok (.iload_n 3, 1) := by decide +kernel
theorem dX5_insert_176 : decode cX5_insert 176 = .ok (.invokevirtual 107, 3) := by decide +kernel
theorem dX5_insert_179 : decode cX5_insert 179 = .ok (.istore 4, 2) := by decide +kernel
theorem dX5_insert_181 : decode cX5_insert 181 = .ok (.aload_n 0, 1) := by decide +kernel
theorem dX5_insert_182 : decode cX5_insert 182 = .ok (.getfield 7, 3) := by decide +kernel
theorem dX5_insert_185 : decode cX5_insert 185 = .ok (.iconst 0, 1) := by decide +kernel
theorem dX5_insert_186 : decode cX5_insert 186 = .ok (.iaload, 1) := by decide +kernel
theorem dX5_insert_187 : decode cX5_insert 187 = .ok (.ireturn, 1) := by decide +kernel
theorem dX5_take_0 : decode cX5_take 0 = .ok (.aload_n 0, 1) := by decide +kernel
theorem dX5_take_1 : decode cX5_take 1 = .ok (.getfield 7, 3) := by decide +kernel
theorem dX5_take_4 : decode cX5_take 4 = .ok (.iconst 0, 1) := by decide +kernel
theorem dX5_take_5 : decode cX5_take 5 = .ok (.dup2, 1) := by decide +kernel
theorem dX5_take_6 : decode cX5_take 6 = .ok (.iaload, 1) := by decide +kernel
theorem dX5_take_7 : decode cX5_take 7 = .ok (.iconst 1, 1) := by decide +kernel
theorem dX5_take_8 : decode cX5_take 8 = .ok (.isub, 1) := by decide +kernel
theorem dX5_take_9 : decode cX5_take 9 = .ok (.iastore, 1) := by decide +kernel
theorem dX5_take_10 : decode cX5_take 10 = .ok (.iload_n 1, 1) := by decide +kernel
theorem dX5_take_11 : decode cX5_take 11 = .ok (.istore_n 2, 1) := by decide +kernel
theorem dX5_take_12 : decode cX5_take 12 = .ok (.iload_n 2, 1) := by decide +kernel
theorem dX5_take_13 : decode cX5_take 13 = .ok (.aload_n 0, 1) := by decide +kernel
theorem dX5_take_14 : decode cX5_take 14 = .ok (.getfield 7, 3) := by decide +kernel
theorem dX5_take_17 : decode cX5_take 17 = .ok (.iconst 0, 1) := by decide +kernel
theorem dX5_take_18 : decode cX5_take 18 = .ok (.iaload, 1) := by decide +kernel
theorem dX5_take_19 : decode cX5_take 19 = .ok (.if_icmp .ge 67, 3) := by decide +kernel
theorem dX5_take_22 : decode cX5_take 22 = .ok (.aload_n 0, 1) := by decide +kernel
theorem dX5_take_23 : decode cX5_take 23 = .ok (.getfield 7, 3) := by decide +kernel
theorem dX5_take_26 : decode cX5_take 26 = .ok (.iconst 1, 1) := by decide +kernel
theorem dX5_take_27 : decode cX5_take 27 = .ok (.iload_n 2, 1) := by decide +kernel
theorem dX5_take_28 : decode cX5_take 28 = .ok (.iadd, 1) := by decide +kernel
theorem dX5_take_29 : decode cX5_take 29 = .ok (.aload_n 0, 1) := by decide +kernel
theorem dX5_take_30 : decode cX5_take 30 = .ok (.getfield 7, 3) := by decide +kernel
theorem dX5_take_33 : decode cX5_take 33 = .ok (.iconst 1, 1) := by decide +kernel
theorem dX5_take_34 : decode cX5_take 34 = .ok (.iload_n 2, 1) := by decide +kernel
theorem dX5_take_35 : decode cX5_take 35 = .ok (.iadd, 1) := by decide +kernel
theorem dX5_take_36 : decode cX5_take 36 = .ok (.iconst 1, 1) := by decide +kernel
theorem dX5_take_37 : decode cX5_take 37 = .ok (.iadd, 1) := by decide +kernel
theorem dX5_take_38 : decode cX5_take 38 = .ok (.iaload, 1) := by decide +kernel
theorem dX5_take_39 : decode cX5_take 39 = .ok (.iastore, 1) := by decide +kernel
theorem dX5_take_40 : decode cX5_take 40 = .ok (.aload_n 0, 1) := by decide +kernel
theorem dX5_take_41 : decode cX5_take 41 = .ok (.getfield 7, 3) := by decide +kernel
theorem dX5_take_44 : decode cX5_take 44 = .ok (.bipush 11, 2) := by decide +kernel
theorem dX5_take_46 : decode cX5_take 46 = .ok (.iload_n 2, 1) := by decide +kernel
theorem dX5_take_47 : decode cX5_take 47 = .ok (.iadd, 1) := by decide +kernel
theorem dX5_take_48 : decode cX5_take 48 = .ok (.aload_n 0, 1) := by decide +kernel
theorem dX5_take_49 : decode cX5_take 49 = .ok (.getfield 7, 3) := by decide +kernel
theorem dX5_take_52 : decode cX5_take 52 = .ok (.bipush 11, 2) := by decide +kernel
theorem dX5_take_54 : decode cX5_take 54 = .ok (.iload_n 2, 1) := by decide +kernel
theorem dX5_take_55 : decode cX5_take 55 = .ok (.iadd, 1) := by decide +kernel
theorem dX5_take_56 : decode cX5_take 56 = .ok (.iconst 1, 1) := by decide +kernel
theorem dX5_take_57 : decode cX5_take 57 = .ok (.iadd, 1) := by decide +kernel
theorem dX5_take_58 : decode cX5_take 58 = .ok (.iaload, 1) := by decide +kernel
theorem dX5_take_59 : decode cX5_take 59 = .ok (.iastore, 1) := by decide +kernel
theorem dX5_take_60 : decode cX5_take 60 = .ok (.aload_n 0, 1) := by decide +kernel
theorem dX5_take_61 : decode cX5_take 61 = .ok (.getfield 7, 3) := by decide +kernel
theorem dX5_take_64 : decode cX5_take 64 = .ok (.bipush 21, 2) := by decide +kernel
theorem dX5_take_66 : decode cX5_take 66 = .ok (.iload_n 2, 1) := by decide +kernel
theorem dX5_take_67 : decode cX5_take 67 = .ok (.iadd, 1) := by decide +kernel
theorem dX5_take_68 : decode cX5_take 68 = .ok (.aload_n 0, 1) := by decide +kernel
theorem dX5_take_69 : decode cX5_take 69 = .ok (.getfield 7, 3) := by decide +kernel
theorem dX5_take_72 : decode cX5_take 72 = .ok (.bipush 21, 2) := by decide +kernel
theorem dX5_take_74 : decode cX5_take 74 = .ok (.iload_n 2, 1) := by decide +kernel
theorem dX5_take_75 : decode cX5_take 75 = .ok (.iadd, 1) := by decide +kernel
theorem dX5_take_76 : decode cX5_take 76 = .ok (.iconst 1, 1) := by decide +kernel
theorem dX5_take_77 : decode cX5_take 77 = .ok (.iadd, 1) := by decide +kernel
theorem dX5_take_78 : decode cX5_take 78 = .ok (.iaload, 1) := by decide +kernel
theorem dX5_take_79 : decode cX5_take 79 = .ok (.iastore, 1) := by decide +kernel
theorem dX5_take_80 : decode cX5_take 80 = .ok (.iinc 2 1, 3) := by decide +kernel
theorem dX5_take_83 : decode cX5_take 83 = .ok (.goto (-71), 3) := by decide +kernel
theorem dX5_take_86 : decode cX5_take 86 = .ok (.return_, 1) := by decide +kernel
theorem dX5_remove_0 : decode cX5_remove 0 = .ok (.aload_n 0, 1) := by decide +kernel
theorem dX5_remove_1 : decode cX5_remove 1 = .ok (.iload_n 1, 1) := by decide +kernel
theorem dX5_remove_2 : decode cX5_remove 2 = .ok (.invokevirtual 64, 3) := by decide +kernel
theorem dX5_remove_5 : decode cX5_remove 5 = .ok (.ifCond .ne 6, 3) := by decide +kernel
theorem dX5_remove_8 : decode cX5_remove 8 = .ok (.ldc 102, 2) := by decide +kernel
theorem dX5_remove_10 : decode cX5_remove 10 = .ok (.ireturn, 1) := by decide +kernel
theorem dX5_remove_11 : decode cX5_remove 11 = .ok (.aload_n 0, 1) := by decide +kernel
theorem dX5_remove_12 : decode cX5_remove 12 = .ok (.getfield 7, 3) := by decide +kernel
theorem dX5_remove_15 : decode cX5_remove 15 = .ok (.iconst 0, 1) := by decide +kernel
theorem dX5_remove_16 : decode cX5_remove 16 = .ok (.iaload, 1) := by decide +kernel
theorem dX5_remove_17 : decode cX5_remove 17 = .ok (.iconst 1, 1) := by decide +kernel
theorem dX5_remove_18 : decode cX5_remove 18 = .ok (.if_icmp .ne 6, 3) := by decide +kernel
theorem dX5_remove_21 : decode cX5_remove 21 = .ok (.ldc 59, 2) := by decide +kernel
theorem dX5_remove_23 : decode cX5_remove 23 = .ok (.ireturn, 1) := by decide +kernel
theorem dX5_remove_24 : decode cX5_remove 24 = .ok (.aload_n 0, 1) := by decide +kernel
theorem dX5_remove_25 : decode cX5_remove 25 = .ok (.invokevirtual 103, 3) := by decide +kernel
theorem dX5_remove_28 : decode cX5_remove 28 = .ok (.aload_n 0, 1) := by decide +kernel
theorem dX5_remove_29 : decode cX5_remove 29 = .ok (.invokevirtual 95, 3) := by decide +kernel
theorem dX5_remove_32 : decode cX5_remove 32 = .ok (.istore_n 2, 1) := by decide +kernel
theorem dX5_remove_33 : decode cX5_remove 33 = .ok (.aload_n 0, 1) := by decide +kernel
theorem dX5_remove_34 : decode cX5_remove 34 = .ok (.iload_n 1, 1) := by decide +kernel
theorem dX5_remove_35 : decode cX5_remove 35 = .ok (.invokevirtual 68, 3) := by decide +kernel
theorem dX5_remove_38 : decode cX5_remove 38 = .ok (.istore_n 3, 1) := by decide +kernel
theorem dX5_remove_39 : decode cX5_remove 39 = .ok (.aload_n 0, 1) := by decide +kernel
theorem dX5_remove_40 : decode cX5_remove 40 = .ok (.iload_n 1, 1) := by decide +kernel
theorem dX5_remove_41 : decode cX5_remove 41 = .ok (.invokevirtual 110, 3) := by decide +kernel
theorem dX5_remove_44 : decode cX5_remove 44 = .ok (.aload_n 0, 1) := by decide +kernel
theorem dX5_remove_45 : decode cX5_remove 45 = .ok (.iload_n 2, 1) := by decide +kernel
theorem dX5_remove_46 : decode cX5_remove 46 = .ok (.invokevirtual 107, 3) := by decide +kernel
theorem dX5_remove_49 : decode cX5_remove 49 = .ok (.istore 4, 2) := by decide +kernel
theorem dX5_remove_51 : decode cX5_remove 51 = .ok (.iload_n 3, 1) := by decide +kernel
theorem dX5_remove_52 : decode cX5_remove 52 = .ok (.ireturn, 1) := by decide +kernel
theorem dX5_shedSet_0 : decode cX5_shedSet 0 = .ok (.iconst 0, 1) := by decide +kernel
theorem dX5_shedSet_1 : decode cX5_shedSet 1 = .ok (.istore_n 1, 1) := by decide +kernel
theorem dX5_shedSet_2 : decode cX5_shedSet 2 = .ok (.iconst 0, 1) := by decide +kernel
theorem dX5_shedSet_3 : decode cX5_shedSet 3 = .ok (.istore_n 2, 1) := by decide +kernel
theorem dX5_shedSet_4 : decode cX5_shedSet 4 = .ok (.iload_n 2, 1) := by decide +kernel
theorem dX5_shedSet_5 : decode cX5_shedSet 5 = .ok (.aload_n 0, 1) := by decide +kernel
theorem dX5_shedSet_6 : decode cX5_shedSet 6 = .ok (.getfield 7, 3) := by decide +kernel
theorem dX5_shedSet_9 : decode cX5_shedSet 9 = .ok (.iconst 0, 1) := by decide +kernel
theorem dX5_shedSet_10 : decode cX5_shedSet 10 = .ok (.iaload, 1) := by decide +kernel
theorem dX5_shedSet_11 : decode cX5_shedSet 11 = .ok (.if_icmp .ge 63, 3) := by decide +kernel
theorem dX5_shedSet_14 : decode cX5_shedSet 14 = .ok (.aload_n 0, 1) := by decide +kernel
theorem dX5_shedSet_15 : decode cX5_shedSet 15 = .ok (.iload_n 2, 1) := by decide +kernel
theorem dX5_shedSet_16 : decode cX5_shedSet 16 = .ok (.aload_n 0, 1) := by decide +kernel
theorem dX5_shedSet_17 : decode cX5_shedSet 17 = .ok (.iload_n 2, 1) := by decide +kernel
theorem dX5_shedSet_18 : decode cX5_shedSet 18 = .ok (.invokevirtual 68, 3) := by decide +kernel
theorem dX5_shedSet_21 : decode cX5_shedSet 21 = .ok (.iload_n 2, 1) := by decide +kernel
theorem dX5_shedSet_22 : decode cX5_shedSet 22 = .ok (.iconst 1, 1) := by decide +kernel
theorem dX5_shedSet_23 : decode cX5_shedSet 23 = .ok (.isub, 1) := by decide +kernel
theorem dX5_shedSet_24 : decode cX5_shedSet 24 = .ok (.invokevirtual 75, 3) := by decide +kernel
theorem dX5_shedSet_27 : decode cX5_shedSet 27 = .ok (.aload_n 0, 1) := by decide +kernel
theorem dX5_shedSet_28 : decode cX5_shedSet 28 = .ok (.iload_n 2, 1) := by decide +kernel
theorem dX5_shedSet_29 : decode cX5_shedSet 29 = .ok (.aload_n 0, 1) := by decide +kernel
theorem dX5_shedSet_30 : decode cX5_shedSet 30 = .ok (.iload_n 2, 1) := by decide +kernel
theorem dX5_shedSet_31 : decode cX5_shedSet 31 = .ok (.invokevirtual 68, 3) := by decide +kernel
theorem dX5_shedSet_34 : decode cX5_shedSet 34 = .ok (.iload_n 2, 1) := by decide +kernel
theorem dX5_shedSet_35 : decode cX5_shedSet 35 = .ok (.iconst 1, 1) := by decide +kernel
theorem dX5_shedSet_36 : decode cX5_shedSet 36 = .ok (.iadd, 1) := by decide +kernel
theorem dX5_shedSet_37 : decode cX5_shedSet 37 = .ok (.invokevirtual 75, 3) := by decide +kernel
theorem dX5_shedSet_40 : decode cX5_shedSet 40 = .ok (.iadd, 1) := by decide +kernel
theorem dX5_shedSet_41 : decode cX5_shedSet 41 = .ok (.istore_n 3, 1) := by decide +kernel
theorem dX5_shedSet_42 : decode cX5_shedSet 42 = .ok (.iload_n 1, 1) := by decide +kernel
theorem dX5_shedSet_43 : decode cX5_shedSet 43 = .ok (.aload_n 0, 1) := by decide +kernel
theorem dX5_shedSet_44 : decode cX5_shedSet 44 = .ok (.getfield 7, 3) := by decide +kernel
theorem dX5_shedSet_47 : decode cX5_shedSet 47 = .ok (.bipush 11, 2) := by decide +kernel
theorem dX5_shedSet_49 : decode cX5_shedSet 49 = .ok (.iload_n 2, 1) := by decide +kernel
theorem dX5_shedSet_50 : decode cX5_shedSet 50 = .ok (.iadd, 1) := by decide +kernel
theorem dX5_shedSet_51 : decode cX5_shedSet 51 = .ok (.iaload, 1) := by decide +kernel
theorem dX5_shedSet_52 : decode cX5_shedSet 52 = .ok (.ifCond .ne 13, 3) := by decide +kernel
theorem dX5_shedSet_55 : decode cX5_shedSet 55 = .ok (.iload_n 3, 1) := by decide +kernel
theorem dX5_shedSet_56 : decode cX5_shedSet 56 = .ok (.ifCond .le 9, 3) := by decide +kernel
theorem dX5_shedSet_59 : decode cX5_shedSet 59 = .ok (.iconst 1, 1) := by decide +kernel
theorem dX5_shedSet_60 : decode cX5_shedSet 60 = .ok (.iload_n 2, 1) := by decide +kernel
theorem dX5_shedSet_61 : decode cX5_shedSet 61 = .ok (.ishl, 1) := by decide +kernel
theorem dX5_shedSet_62 : decode cX5_shedSet 62 = .ok (.goto 4, 3) := by decide +kernel
theorem dX5_shedSet_65 : decode cX5_shedSet 65 = .ok (.iconst 0, 1) := by decide +kernel
theorem dX5_shedSet_66 : decode cX5_shedSet 66 = .ok (.ior, 1) := by decide +kernel
theorem dX5_shedSet_67 : decode cX5_shedSet 67 = .ok (.istore_n 1, 1) := by decide +kernel
theorem dX5_shedSet_68 : decode cX5_shedSet 68 = .ok (.iinc 2 1, 3) := by decide +kernel
theorem dX5_shedSet_71 : decode cX5_shedSet 71 = .ok (.goto (-67), 3) := by decide +kernel
theorem dX5_shedSet_74 : decode cX5_shedSet 74 = .ok (.iload_n 1, 1) := by decide +kernel
theorem dX5_shedSet_75 : decode cX5_shedSet 75 = .ok (.ireturn, 1) := by decide +kernel
theorem dX5_shed_0 : decode cX5_shed 0 = .ok (.aload_n 0, 1) := by decide +kernel
theorem dX5_shed_1 : decode cX5_shed 1 = .ok (.invokevirtual 113, 3) := by decide +kernel
theorem dX5_shed_4 : decode cX5_shed 4 = .ok (.istore_n 1, 1) := by decide +kernel
theorem dX5_shed_5 : decode cX5_shed 5 = .ok (.iconst 0, 1) := by decide +kernel
theorem dX5_shed_6 : decode cX5_shed 6 = .ok (.istore_n 2, 1) := by decide +kernel
theorem dX5_shed_7 : decode cX5_shed 7 = .ok (.iconst 0, 1) := by decide +kernel
theorem dX5_shed_8 : decode cX5_shed 8 = .ok (.istore_n 3, 1) := by decide +kernel
theorem dX5_shed_9 : decode cX5_shed 9 = .ok (.iload_n 3, 1) := by decide +kernel
theorem dX5_shed_10 : decode cX5_shed 10 = .ok (.aload_n 0, 1) := by decide +kernel
theorem dX5_shed_11 : decode cX5_shed 11 = .ok (.getfield 7, 3) := by decide +kernel
theorem dX5_shed_14 : decode cX5_shed 14 = .ok (.iconst 0, 1) := by decide +kernel
theorem dX5_shed_15 : decode cX5_shed 15 = .ok (.iaload, 1) := by decide +kernel
theorem dX5_shed_16 : decode cX5_shed 16 = .ok (.if_icmp .ge 17, 3) := by decide +kernel
theorem dX5_shed_19 : decode cX5_shed 19 = .ok (.iload_n 2, 1) := by decide +kernel
theorem dX5_shed_20 : decode cX5_shed 20 = .ok (.iload_n 1, 1) := by decide +kernel
theorem dX5_shed_21 : decode cX5_shed 21 = .ok (.iload_n 3, 1) := by decide +kernel
theorem dX5_shed_22 : decode cX5_shed 22 = .ok (.ishr, 1) := by decide +kernel
theorem dX5_shed_23 : decode cX5_shed 23 = .ok (.iconst 1, 1) := by decide +kernel
theorem dX5_shed_24 : decode cX5_shed 24 = .ok (.iand, 1) := by decide +kernel
theorem dX5_shed_25 : decode cX5_shed 25 = .ok (.iadd, 1) := by decide +kernel
theorem dX5_shed_26 : decode cX5_shed 26 = .ok (.istore_n 2, 1) := by decide +kernel
theorem dX5_shed_27 : decode cX5_shed 27 = .ok (.iinc 3 1, 3) := by decide +kernel
theorem dX5_shed_30 : decode cX5_shed 30 = .ok (.goto (-21), 3) := by decide +kernel
theorem dX5_shed_33 : decode cX5_shed 33 = .ok (.iload_n 2, 1) := by decide +kernel
theorem dX5_shed_34 : decode cX5_shed 34 = .ok (.aload_n 0, 1) := by decide +kernel
theorem dX5_shed_35 : decode cX5_shed 35 = .ok (.getfield 7, 3) := by decide +kernel
theorem dX5_shed_38 : decode cX5_shed 38 = .ok (.iconst 0, 1) := by decide +kernel
theorem dX5_shed_39 : decode cX5_shed 39 = .ok (.iaload, 1) := by decide +kernel
theorem dX5_shed_40 : decode cX5_shed 40 = .ok (.if_icmp .ne 6, 3) := by decide +kernel
theorem dX5_shed_43 : decode cX5_shed 43 = .ok (.ldc 59, 2) := by decide +kernel
theorem dX5_shed_45 : decode cX5_shed 45 = .ok (.ireturn, 1) := by decide +kernel
theorem dX5_shed_46 : decode cX5_shed 46 = .ok (.aload_n 0, 1) := by decide +kernel
theorem dX5_shed_47 : decode cX5_shed 47 = .ok (.invokevirtual 103, 3) := by decide +kernel
theorem dX5_shed_50 : decode cX5_shed 50 = .ok (.aload_n 0, 1) := by decide +kernel
theorem dX5_shed_51 : decode cX5_shed 51 = .ok (.invokevirtual 95, 3) := by decide +kernel
theorem dX5_shed_54 : decode cX5_shed 54 = .ok (.istore_n 3, 1) := by decide +kernel
theorem dX5_shed_55 : decode cX5_shed 55 = .ok (.bipush 9, 2) := by decide +kernel
theorem dX5_shed_57 : decode cX5_shed 57 = .ok (.istore 4, 2) := by decide +kernel
theorem dX5_shed_59 : decode cX5_shed 59 = .ok (.iload 4, 2) := by decide +kernel
theorem dX5_shed_61 : decode cX5_shed 61 = .ok (.ifCond .lt 25, 3) := by decide +kernel
theorem dX5_shed_64 : decode cX5_shed 64 = .ok (.iload_n 1, 1) := by decide +kernel
theorem dX5_shed_65 : decode cX5_shed 65 = .ok (.iload 4, 2) := by decide +kernel
theorem dX5_shed_67 : decode cX5_shed 67 = .ok (.ishr, 1) := by decide +kernel
theorem dX5_shed_68 : decode cX5_shed 68 = .ok (.iconst 1, 1) := by decide +kernel
theorem dX5_shed_69 : decode cX5_shed 69 = .ok (.iand, 1) := by decide +kernel
theorem dX5_shed_70 : decode cX5_shed 70 = .ok (.iconst 1, 1) := by decide +kernel
theorem dX5_shed_71 : decode cX5_shed 71 = .ok (.if_icmp .ne 9, 3) := by decide +kernel
theorem dX5_shed_74 : decode cX5_shed 74 = .ok (.aload_n 0, 1) := by decide +kernel
theorem dX5_shed_75 : decode cX5_shed 75 = .ok (.iload 4, 2) := by decide +kernel
theorem dX5_shed_77 : decode cX5_shed 77 = .ok (.invokevirtual 110, 3) := by decide +kernel
theorem dX5_shed_80 : decode cX5_shed 80 = .ok (.iinc 4 (-1), 3) := by decide +kernel
theorem dX5_shed_83 : decode cX5_shed 83 = .ok (.goto (-24), 3) := by decide +kernel
theorem dX5_shed_86 : decode cX5_shed 86 = .ok (.aload_n 0, 1) := by decide +kernel
theorem dX5_shed_87 : decode cX5_shed 87 = .ok (.iload_n 3, 1) := by decide +kernel
theorem dX5_shed_88 : decode cX5_shed 88 = .ok (.invokevirtual 107, 3) := by decide +kernel
theorem dX5_shed_91 : decode cX5_shed 91 = .ok (.istore 4, 2) := by decide +kernel
theorem dX5_shed_93 : decode cX5_shed 93 = .ok (.iload_n 2, 1) := by decide +kernel
theorem dX5_shed_94 : decode cX5_shed 94 = .ok (.ireturn, 1) := by decide +kernel
theorem dX5_mirrored_0 : decode cX5_mirrored 0 = .ok (.bipush 12, 2) := by decide +kernel
theorem dX5_mirrored_2 : decode cX5_mirrored 2 = .ok (.iload_n 0, 1) := by decide +kernel
theorem dX5_mirrored_3 : decode cX5_mirrored 3 = .ok (.isub, 1) := by decide +kernel
theorem dX5_mirrored_4 : decode cX5_mirrored 4 = .ok (.bipush 8, 2) := by decide +kernel
theorem dX5_mirrored_6 : decode cX5_mirrored 6 = .ok (.irem, 1) := by decide +kernel
theorem dX5_mirrored_7 : decode cX5_mirrored 7 = .ok (.ireturn, 1) := by decide +kernel
theorem dX5_reverse_0 : decode cX5_reverse 0 = .ok (.aload_n 0, 1) := by decide +kernel
theorem dX5_reverse_1 : decode cX5_reverse 1 = .ok (.invokevirtual 103, 3) := by decide +kernel
theorem dX5_reverse_4 : decode cX5_reverse 4 = .ok (.aload_n 0, 1) := by decide +kernel
theorem dX5_reverse_5 : decode cX5_reverse 5 = .ok (.invokevirtual 95, 3) := by decide +kernel
theorem dX5_reverse_8 : decode cX5_reverse 8 = .ok (.istore_n 1, 1) := by decide +kernel
theorem dX5_reverse_9 : decode cX5_reverse 9 = .ok (.aload_n 0, 1) := by decide +kernel
theorem dX5_reverse_10 : decode cX5_reverse 10 = .ok (.getfield 7, 3) := by decide +kernel
theorem dX5_reverse_13 : decode cX5_reverse 13 = .ok (.iconst 0, 1) := by decide +kernel
theorem dX5_reverse_14 : decode cX5_reverse 14 = .ok (.iaload, 1) := by decide +kernel
theorem dX5_reverse_15 : decode cX5_reverse 15 = .ok (.istore_n 2, 1) := by decide +kernel
theorem dX5_reverse_16 : decode cX5_reverse 16 = .ok (.iconst 0, 1) := by decide +kernel
theorem dX5_reverse_17 : decode cX5_reverse 17 = .ok (.istore_n 3, 1) := by decide +kernel
theorem dX5_reverse_18 : decode cX5_reverse 18 = .ok (.iconst 0, 1) := by decide +kernel
theorem dX5_reverse_19 : decode cX5_reverse 19 = .ok (.istore 4, 2) := by decide +kernel
theorem dX5_reverse_21 : decode cX5_reverse 21 = .ok (.iload 4, 2) := by decide +kernel
theorem dX5_reverse_23 : decode cX5_reverse 23 = .ok (.iload_n 2, 1) := by decide +kernel
theorem dX5_reverse_24 : decode cX5_reverse 24 = .ok (.if_icmp .ge 67, 3) := by decide +kernel
theorem dX5_reverse_27 : decode cX5_reverse 27 = .ok (.iload_n 3, 1) := by decide +kernel
theorem dX5_reverse_28 : decode cX5_reverse 28 = .ok (.aload_n 0, 1) := by decide +kernel
theorem dX5_reverse_29 : decode cX5_reverse 29 = .ok (.getfield 13, 3) := by decide +kernel
theorem dX5_reverse_32 : decode cX5_reverse 32 = .ok (.sipush 130, 3) := by decide +kernel
theorem dX5_reverse_35 : decode cX5_reverse 35 = .ok (.aload_n 0, 1) := by decide +kernel
theorem dX5_reverse_36 : decode cX5_reverse 36 = .ok (.getfield 56, 3) := by decide +kernel
theorem dX5_reverse_39 : decode cX5_reverse 39 = .ok (.iconst 1, 1) := by decide +kernel
theorem dX5_reverse_40 : decode cX5_reverse 40 = .ok (.isub, 1) := by decide +kernel
theorem dX5_reverse_41 : decode cX5_reverse 41 = .ok (.imul, 1) := by decide +kernel
theorem dX5_reverse_42 : decode cX5_reverse 42 = .ok (.iconst 1, 1) := by decide +kernel
theorem dX5_reverse_43 : decode cX5_reverse 43 = .ok (.iadd, 1) := by decide +kernel
theorem dX5_reverse_44 : decode cX5_reverse 44 = .ok (.iload_n 2, 1) := by decide +kernel
theorem dX5_reverse_45 : decode cX5_reverse 45 = .ok (.iadd, 1) := by decide +kernel
theorem dX5_reverse_46 : decode cX5_reverse 46 = .ok (.iconst 1, 1) := by decide +kernel
theorem dX5_reverse_47 : decode cX5_reverse 47 = .ok (.isub, 1) := by decide +kernel
theorem dX5_reverse_48 : decode cX5_reverse 48 = .ok (.iload 4, 2) := by decide +kernel
theorem dX5_reverse_50 : decode cX5_reverse 50 = .ok (.isub, 1) := by decide +kernel
theorem dX5_reverse_51 : decode cX5_reverse 51 = .ok (.iaload, 1) := by decide +kernel
theorem dX5_reverse_52 : decode cX5_reverse 52 = .ok (.invokestatic 116, 3) := by decide +kernel
theorem dX5_reverse_55 : decode cX5_reverse 55 = .ok (.aload_n 0, 1) := by decide +kernel
theorem dX5_reverse_56 : decode cX5_reverse 56 = .ok (.getfield 13, 3) := by decide +kernel
theorem dX5_reverse_59 : decode cX5_reverse 59 = .ok (.sipush 130, 3) := by decide +kernel
theorem dX5_reverse_62 : decode cX5_reverse 62 = .ok (.aload_n 0, 1) := by decide +kernel
theorem dX5_reverse_63 : decode cX5_reverse 63 = .ok (.getfield 56, 3) := by decide +kernel
theorem dX5_reverse_66 : decode cX5_reverse 66 = .ok (.iconst 1, 1) := by decide +kernel
theorem dX5_reverse_67 : decode cX5_reverse 67 = .ok (.isub, 1) := by decide +kernel
theorem dX5_reverse_68 : decode cX5_reverse 68 = .ok (.imul, 1) := by decide +kernel
theorem dX5_reverse_69 : decode cX5_reverse 69 = .ok (.iconst 1, 1) := by decide +kernel
theorem dX5_reverse_70 : decode cX5_reverse 70 = .ok (.iadd, 1) := by decide +kernel
theorem dX5_reverse_71 : decode cX5_reverse 71 = .ok (.iload 4, 2) := by decide +kernel
theorem dX5_reverse_73 : decode cX5_reverse 73 = .ok (.iadd, 1) := by decide +kernel
theorem dX5_reverse_74 : decode cX5_reverse 74 = .ok (.iaload, 1) := by decide +kernel
theorem dX5_reverse_75 : decode cX5_reverse 75 = .ok (.if_icmp .eq 7, 3) := by decide +kernel
theorem dX5_reverse_78 : decode cX5_reverse 78 = .ok (.iconst 1, 1) := by decide +kernel
theorem dX5_reverse_79 : decode cX5_reverse 79 = .ok (.goto 4, 3) := by decide +kernel
theorem dX5_reverse_82 : decode cX5_reverse 82 = .ok (.iconst 0, 1) := by decide +kernel
theorem dX5_reverse_83 : decode cX5_reverse 83 = .ok (.iadd, 1) := by decide +kernel
theorem dX5_reverse_84 : decode cX5_reverse 84 = .ok (.istore_n 3, 1) := by decide +kernel
theorem dX5_reverse_85 : decode cX5_reverse 85 = .ok (.iinc 4 1, 3) := by decide +kernel
theorem dX5_reverse_88 : decode cX5_reverse 88 = .ok (.goto (-67), 3) := by decide +kernel
theorem dX5_reverse_91 : decode cX5_reverse 91 = .ok (.iconst 0, 1) := by decide +kernel
theorem dX5_reverse_92 : decode cX5_reverse 92 = .ok (.istore 4, 2) := by decide +kernel
theorem dX5_reverse_94 : decode cX5_reverse 94 = .ok (.iload 4, 2) := by decide +kernel
theorem dX5_reverse_96 : decode cX5_reverse 96 = .ok (.iload_n 2, 1) := by decide +kernel
theorem dX5_reverse_97 : decode cX5_reverse 97 = .ok (.if_icmp .ge 108, 3) := by decide +kernel
theorem dX5_reverse_100 : decode cX5_reverse 100 = .ok (.sipush 130, 3) := by decide +kernel
theorem dX5_reverse_103 : decode cX5_reverse 103 = .ok (.aload_n 0, 1) := by decide +kernel
theorem dX5_reverse_104 : decode cX5_reverse 104 = .ok (.getfield 56, 3) := by decide +kernel
theorem dX5_reverse_107 : decode cX5_reverse 107 = .ok (.iconst 1, 1) := by decide +kernel
theorem dX5_reverse_108 : decode cX5_reverse 108 = .ok (.isub, 1) := by decide +kernel
theorem dX5_reverse_109 : decode cX5_reverse 109 = .ok (.imul, 1) := by decide +kernel
theorem dX5_reverse_110 : decode cX5_reverse 110 = .ok (.iload_n 2, 1) := by decide +kernel
theorem dX5_reverse_111 : decode cX5_reverse 111 = .ok (.iadd, 1) := by decide +kernel
theorem dX5_reverse_112 : decode cX5_reverse 112 = .ok (.iconst 1, 1) := by decide +kernel
theorem dX5_reverse_113 : decode cX5_reverse 113 = .ok (.isub, 1) := by decide +kernel
theorem dX5_reverse_114 : decode cX5_reverse 114 = .ok (.iload 4, 2) := by decide +kernel
theorem dX5_reverse_116 : decode cX5_reverse 116 = .ok (.isub, 1) := by decide +kernel
theorem dX5_reverse_117 : decode cX5_reverse 117 = .ok (.istore 5, 2) := by decide +kernel
theorem dX5_reverse_119 : decode cX5_reverse 119 = .ok (.aload_n 0, 1) := by decide +kernel
theorem dX5_reverse_120 : decode cX5_reverse 120 = .ok (.getfield 13, 3) := by decide +kernel
theorem dX5_reverse_123 : decode cX5_reverse 123 = .ok (.iload 5, 2) := by decide +kernel
theorem dX5_reverse_125 : decode cX5_reverse 125 = .ok (.bipush 21, 2) := by decide +kernel
theorem dX5_reverse_127 : decode cX5_reverse 127 = .ok (.iadd, 1) := by decide +kernel
theorem dX5_reverse_128 : decode cX5_reverse 128 = .ok (.iaload, 1) := by decide +kernel
theorem dX5_reverse_129 : decode cX5_reverse 129 = .ok (.istore 6, 2) := by decide +kernel
theorem dX5_reverse_131 : decode cX5_reverse 131 = .ok (.aload_n 0, 1) := by decide +kernel
theorem dX5_reverse_132 : decode cX5_reverse 132 = .ok (.getfield 7, 3) := by decide +kernel
theorem dX5_reverse_135 : decode cX5_reverse 135 = .ok (.iconst 1, 1) := by decide +kernel
theorem dX5_reverse_136 : decode cX5_reverse 136 = .ok (.iload 4, 2) := by decide +kernel
theorem dX5_reverse_138 : decode cX5_reverse 138 = .ok (.iadd, 1) := by decide +kernel
theorem dX5_reverse_139 : decode cX5_reverse 139 = .ok (.aload_n 0, 1) := by decide +kernel
theorem dX5_reverse_140 : decode cX5_reverse 140 = .ok (.getfield 13, 3) := by decide +kernel
theorem dX5_reverse_143 : decode cX5_reverse 143 = .ok (.iload 5, 2) := by decide +kernel
theorem dX5_reverse_145 : decode cX5_reverse 145 = .ok (.iconst 1, 1) := by decide +kernel
theorem dX5_reverse_146 : decode cX5_reverse 146 = .ok (.iadd, 1) := by decide +kernel
theorem dX5_reverse_147 : decode cX5_reverse 147 = .ok (.iaload, 1) := by decide +kernel
theorem dX5_reverse_148 : decode cX5_reverse 148 = .ok (.invokestatic 116, 3) := by decide +kernel
theorem dX5_reverse_151 : decode cX5_reverse 151 = .ok (.iastore, 1) := by decide +kernel
theorem dX5_reverse_152 : decode cX5_reverse 152 = .ok (.aload_n 0, 1) := by decide +kernel
theorem dX5_reverse_153 : decode cX5_reverse 153 = .ok (.getfield 7, 3) := by decide +kernel
theorem dX5_reverse_156 : decode cX5_reverse 156 = .ok (.bipush 11, 2) := by decide +kernel
theorem dX5_reverse_158 : decode cX5_reverse 158 = .ok (.iload 4, 2) := by decide +kernel
theorem dX5_reverse_160 : decode cX5_reverse 160 = .ok (.iadd, 1) := by decide +kernel
theorem dX5_reverse_161 : decode cX5_reverse 161 = .ok (.aload_n 0, 1) := by decide +kernel
theorem dX5_reverse_162 : decode cX5_reverse 162 = .ok (.getfield 13, 3) := by decide +kernel
theorem dX5_reverse_165 : decode cX5_reverse 165 = .ok (.iload 5, 2) := by decide +kernel
theorem dX5_reverse_167 : decode cX5_reverse 167 = .ok (.bipush 11, 2) := by decide +kernel
theorem dX5_reverse_169 : decode cX5_reverse 169 = .ok (.iadd, 1) := by decide +kernel
theorem dX5_reverse_170 : decode cX5_reverse 170 = .ok (.iaload, 1) := by decide +kernel
theorem dX5_reverse_171 : decode cX5_reverse 171 = .ok (.iastore, 1) := by decide +kernel
theorem dX5_reverse_172 : decode cX5_reverse 172 = .ok (.aload_n 0, 1) := by decide +kernel
theorem dX5_reverse_173 : decode cX5_reverse 173 = .ok (.getfield 7, 3) := by decide +kernel
theorem dX5_reverse_176 : decode cX5_reverse 176 = .ok (.bipush 21, 2) := by decide +kernel
theorem dX5_reverse_178 : decode cX5_reverse 178 = .ok (.iload 4, 2) := by decide +kernel
theorem dX5_reverse_180 : decode cX5_reverse 180 = .ok (.iadd, 1) := by decide +kernel
theorem dX5_reverse_181 : decode cX5_reverse 181 = .ok (.iload 6, 2) := by decide +kernel
theorem dX5_reverse_183 : decode cX5_reverse 183 = .ok (.ldc 25, 2) := by decide +kernel
theorem dX5_reverse_185 : decode cX5_reverse 185 = .ok (.if_icmp .ne 8, 3) := by decide +kernel
theorem dX5_reverse_188 : decode cX5_reverse 188 = .ok (.ldc 25, 2) := by decide +kernel
theorem dX5_reverse_190 : decode cX5_reverse 190 = .ok (.goto 8, 3) := by decide +kernel
theorem dX5_reverse_193 : decode cX5_reverse 193 = .ok (.iload 6, 2) := by decide +kernel
theorem dX5_reverse_195 : decode cX5_reverse 195 = .ok (.invokestatic 116, 3) := by decide +kernel
theorem dX5_reverse_198 : decode cX5_reverse 198 = .ok (.iastore, 1) := by decide +kernel
theorem dX5_reverse_199 : decode cX5_reverse 199 = .ok (.iinc 4 1, 3) := by decide +kernel
theorem dX5_reverse_202 : decode cX5_reverse 202 = .ok (.goto (-108), 3) := by decide +kernel
theorem dX5_reverse_205 : decode cX5_reverse 205 = .ok (.aload_n 0, 1) := by decide +kernel
theorem dX5_reverse_206 : decode cX5_reverse 206 = .ok (.iload_n 1, 1) := by decide +kernel
theorem dX5_reverse_207 : decode cX5_reverse 207 = .ok (.invokevirtual 107, 3) := by decide +kernel
theorem dX5_reverse_210 : decode cX5_reverse 210 = .ok (.istore 4, 2) := by decide +kernel
theorem dX5_reverse_212 : decode cX5_reverse 212 = .ok (.iload_n 3, 1) := by decide +kernel
theorem dX5_reverse_213 : decode cX5_reverse 213 = .ok (.ireturn, 1) := by decide +kernel
theorem dX5_hold_0 : decode cX5_hold 0 = .ok (.aload_n 0, 1) := by decide +kernel
theorem dX5_hold_1 : decode cX5_hold 1 = .ok (.iload_n 1, 1) := by decide +kernel
theorem dX5_hold_2 : decode cX5_hold 2 = .ok (.invokevirtual 64, 3) := by decide +kernel
theorem dX5_hold_5 : decode cX5_hold 5 = .ok (.ifCond .eq 12, 3) := by decide +kernel
theorem dX5_hold_8 : decode cX5_hold 8 = .ok (.iload_n 2, 1) := by decide +kernel
theorem dX5_hold_9 : decode cX5_hold 9 = .ok (.iconst 0, 1) := by decide +kernel
theorem dX5_hold_10 : decode cX5_hold 10 = .ok (.iconst 1, 1) := by decide +kernel
theorem dX5_hold_11 : decode cX5_hold 11 = .ok (.invokestatic 52, 3) := by decide +kernel
theorem dX5_hold_14 : decode cX5_hold 14 = .ok (.ifCond .ne 6, 3) := by decide +kernel
theorem dX5_hold_17 : decode cX5_hold 17 = .ok (.ldc 102, 2) := by decide +kernel
theorem dX5_hold_19 : decode cX5_hold 19 = .ok (.ireturn, 1) := by decide +kernel
theorem dX5_hold_20 : decode cX5_hold 20 = .ok (.aload_n 0, 1) := by decide +kernel
theorem dX5_hold_21 : decode cX5_hold 21 = .ok (.invokevirtual 103, 3) := by decide +kernel
theorem dX5_hold_24 : decode cX5_hold 24 = .ok (.aload_n 0, 1) := by decide +kernel
theorem dX5_hold_25 : decode cX5_hold 25 = .ok (.getfield 7, 3) := by decide +kernel
theorem dX5_hold_28 : decode cX5_hold 28 = .ok (.bipush 11, 2) := by decide +kernel
theorem dX5_hold_30 : decode cX5_hold 30 = .ok (.iload_n 1, 1) := by decide +kernel
theorem dX5_hold_31 : decode cX5_hold 31 = .ok (.iadd, 1) := by decide +kernel
theorem dX5_hold_32 : decode cX5_hold 32 = .ok (.iaload, 1) := by decide +kernel
theorem dX5_hold_33 : decode cX5_hold 33 = .ok (.istore_n 3, 1) := by decide +kernel
theorem dX5_hold_34 : decode cX5_hold 34 = .ok (.aload_n 0, 1) := by decide +kernel
theorem dX5_hold_35 : decode cX5_hold 35 = .ok (.getfield 7, 3) := by decide +kernel
theorem dX5_hold_38 : decode cX5_hold 38 = .ok (.bipush 11, 2) := by decide +kernel
theorem dX5_hold_40 : decode cX5_hold 40 = .ok (.iload_n 1, 1) := by decide +kernel
theorem dX5_hold_41 : decode cX5_hold 41 = .ok (.iadd, 1) := by decide +kernel
theorem dX5_hold_42 : decode cX5_hold 42 = .ok (.iload_n 2, 1) := by decide +kernel
theorem dX5_hold_43 : decode cX5_hold 43 = .ok (.iastore, 1) := by decide +kernel
theorem dX5_hold_44 : decode cX5_hold 44 = .ok (.aload_n 0, 1) := by decide +kernel
theorem dX5_hold_45 : decode cX5_hold 45 = .ok (.invokevirtual 99, 3) := by decide +kernel
theorem dX5_hold_48 : decode cX5_hold 48 = .ok (.istore 4, 2) := by decide +kernel
theorem dX5_hold_50 : decode cX5_hold 50 = .ok (.iload_n 3, 1) := by decide +kernel
theorem dX5_hold_51 : decode cX5_hold 51 = .ok (.ireturn, 1) := by decide +kernel
theorem dX5_isPush_0 : decode cX5_isPush 0 = .ok (.aload_n 0, 1) := by decide +kernel
theorem dX5_isPush_1 : decode cX5_isPush 1 = .ok (.iload_n 1, 1) := by decide +kernel
theorem dX5_isPush_2 : decode cX5_isPush 2 = .ok (.invokevirtual 64, 3) := by decide +kernel
theorem dX5_isPush_5 : decode cX5_isPush 5 = .ok (.ifCond .eq 21, 3) := by decide +kernel
theorem dX5_isPush_8 : decode cX5_isPush 8 = .ok (.iload_n 2, 1) := by decide +kernel
theorem dX5_isPush_9 : decode cX5_isPush 9 = .ok (.bipush (-4), 2) := by decide +kernel
theorem dX5_isPush_11 : decode cX5_isPush 11 = .ok (.iconst 4, 1) := by decide +kernel
theorem dX5_isPush_12 : decode cX5_isPush 12 = .ok (.invokestatic 52, 3) := by decide +kernel
theorem dX5_isPush_15 : decode cX5_isPush 15 = .ok (.ifCond .eq 11, 3) := by decide +kernel
theorem dX5_isPush_18 : decode cX5_isPush 18 = .ok (.iload_n 2, 1) := by decide +kernel
theorem dX5_isPush_19 : decode cX5_isPush 19 = .ok (.ifCond .eq 7, 3) := by decide +kernel
theorem dX5_isPush_22 : decode cX5_isPush 22 = .ok (.iconst 1, 1) := by decide +kernel
theorem dX5_isPush_23 : decode cX5_isPush 23 = .ok (.goto 4, 3) := by decide +kernel
theorem dX5_isPush_26 : decode cX5_isPush 26 = .ok (.iconst 0, 1) := by decide +kernel
theorem dX5_isPush_27 : decode cX5_isPush 27 = .ok (.ireturn, 1) := by decide +kernel
theorem dX5_push_0 : decode cX5_push 0 = .ok (.aload_n 0, 1) := by decide +kernel
theorem dX5_push_1 : decode cX5_push 1 = .ok (.iload_n 1, 1) := by decide +kernel
theorem dX5_push_2 : decode cX5_push 2 = .ok (.iload_n 2, 1) := by decide +kernel
theorem dX5_push_3 : decode cX5_push 3 = .ok (.invokevirtual 119, 3) := by decide +kernel
theorem dX5_push_6 : decode cX5_push 6 = .ok (.ifCond .ne 6, 3) := by decide +kernel
theorem dX5_push_9 : decode cX5_push 9 = .ok (.ldc 102, 2) := by decide +kernel
theorem dX5_push_11 : decode cX5_push 11 = .ok (.ireturn, 1) := by decide +kernel
theorem dX5_push_12 : decode cX5_push 12 = .ok (.aload_n 0, 1) := by decide +kernel
theorem dX5_push_13 : decode cX5_push 13 = .ok (.getfield 7, 3) := by decide +kernel
theorem dX5_push_16 : decode cX5_push 16 = .ok (.bipush 11, 2) := by decide +kernel
theorem dX5_push_18 : decode cX5_push 18 = .ok (.iload_n 1, 1) := by decide +kernel
theorem dX5_push_19 : decode cX5_push 19 = .ok (.iadd, 1) := by decide +kernel
theorem dX5_push_20 : decode cX5_push 20 = .ok (.iaload, 1) := by decide +kernel
theorem dX5_push_21 : decode cX5_push 21 = .ok (.iconst 1, 1) := by decide +kernel
theorem dX5_push_22 : decode cX5_push 22 = .ok (.if_icmp .ne 6, 3) := by decide +kernel
theorem dX5_push_25 : decode cX5_push 25 = .ok (.ldc 59, 2) := by decide +kernel
theorem dX5_push_27 : decode cX5_push 27 = .ok (.ireturn, 1) := by decide +kernel
theorem dX5_push_28 : decode cX5_push 28 = .ok (.aload_n 0, 1) := by decide +kernel
theorem dX5_push_29 : decode cX5_push 29 = .ok (.invokevirtual 103, 3) := by decide +kernel
theorem dX5_push_32 : decode cX5_push 32 = .ok (.aload_n 0, 1) := by decide +kernel
theorem dX5_push_33 : decode cX5_push 33 = .ok (.invokevirtual 95, 3) := by decide +kernel
theorem dX5_push_36 : decode cX5_push 36 = .ok (.istore_n 3, 1) := by decide +kernel
theorem dX5_push_37 : decode cX5_push 37 = .ok (.aload_n 0, 1) := by decide +kernel
theorem dX5_push_38 : decode cX5_push 38 = .ok (.getfield 7, 3) := by decide +kernel
theorem dX5_push_41 : decode cX5_push 41 = .ok (.iconst 1, 1) := by decide +kernel
theorem dX5_push_42 : decode cX5_push 42 = .ok (.iload_n 1, 1) := by decide +kernel
theorem dX5_push_43 : decode cX5_push 43 = .ok (.iadd, 1) := by decide +kernel
theorem dX5_push_44 : decode cX5_push 44 = .ok (.aload_n 0, 1) := by decide +kernel
theorem dX5_push_45 : decode cX5_push 45 = .ok (.iload_n 1, 1) := by decide +kernel
theorem dX5_push_46 : decode cX5_push 46 = .ok (.invokevirtual 68, 3) := by decide +kernel
theorem dX5_push_49 : decode cX5_push 49 = .ok (.iload_n 2, 1) := by decide +kernel
theorem dX5_push_50 : decode cX5_push 50 = .ok (.invokestatic 85, 3) := by decide +kernel
theorem dX5_push_53 : decode cX5_push 53 = .ok (.iastore, 1) := by decide +kernel
theorem dX5_push_54 : decode cX5_push 54 = .ok (.aload_n 0, 1) := by decide +kernel
theorem dX5_push_55 : decode cX5_push 55 = .ok (.getfield 7, 3) := by decide +kernel
theorem dX5_push_58 : decode cX5_push 58 = .ok (.bipush 38, 2) := by decide +kernel
theorem dX5_push_60 : decode cX5_push 60 = .ok (.dup2, 1) := by decide +kernel
theorem dX5_push_61 : decode cX5_push 61 = .ok (.iaload, 1) := by decide +kernel
theorem dX5_push_62 : decode cX5_push 62 = .ok (.iconst 1, 1) := by decide +kernel
theorem dX5_push_63 : decode cX5_push 63 = .ok (.iadd, 1) := by decide +kernel
theorem dX5_push_64 : decode cX5_push 64 = .ok (.iastore, 1) := by decide +kernel
theorem dX5_push_65 : decode cX5_push 65 = .ok (.aload_n 0, 1) := by decide +kernel
theorem dX5_push_66 : decode cX5_push 66 = .ok (.iload_n 3, 1) := by decide +kernel
theorem dX5_push_67 : decode cX5_push 67 = .ok (.invokevirtual 107, 3) := by decide +kernel
theorem dX5_push_70 : decode cX5_push 70 = .ok (.ireturn, 1) := by decide +kernel
theorem dX5_set_0 : decode cX5_set 0 = .ok (.iload_n 1, 1) := by decide +kernel
theorem dX5_set_1 : decode cX5_set 1 = .ok (.iconst 0, 1) := by decide +kernel
theorem dX5_set_2 : decode cX5_set 2 = .ok (.iconst 3, 1) := by decide +kernel
theorem dX5_set_3 : decode cX5_set 3 = .ok (.invokestatic 52, 3) := by decide +kernel
theorem dX5_set_6 : decode cX5_set 6 = .ok (.ifCond .eq 43, 3) := by decide +kernel
theorem dX5_set_9 : decode cX5_set 9 = .ok (.iload_n 2, 1) := by decide +kernel
theorem dX5_set_10 : decode cX5_set 10 = .ok (.iconst 0, 1) := by decide +kernel
theorem dX5_set_11 : decode cX5_set 11 = .ok (.iload_n 1, 1) := by decide +kernel
theorem dX5_set_12 : decode cX5_set 12 = .ok (.ifCond .ne 8, 3) := by decide +kernel
theorem dX5_set_15 : decode cX5_set 15 = .ok (.bipush 20, 2) := by decide +kernel
theorem dX5_set_17 : decode cX5_set 17 = .ok (.goto 26, 3) := by decide +kernel
theorem dX5_set_20 : decode cX5_set 20 = .ok (.iload_n 1, 1) := by decide +kernel
theorem dX5_set_21 : decode cX5_set 21 = .ok (.iconst 1, 1) := by decide +kernel
theorem dX5_set_22 : decode cX5_set 22 = .ok (.if_icmp .ne 9, 3) := by decide +kernel
theorem dX5_set_25 : decode cX5_set 25 = .ok (.sipush 2000, 3) := by decide +kernel
theorem dX5_set_28 : decode cX5_set 28 = .ok (.goto 15, 3) := by decide +kernel
theorem dX5_set_31 : decode cX5_set 31 = .ok (.iload_n 1, 1) := by decide +kernel
theorem dX5_set_32 : decode cX5_set 32 = .ok (.iconst 2, 1) := by decide +kernel
theorem dX5_set_33 : decode cX5_set 33 = .ok (.if_icmp .ne 8, 3) := by decide +kernel
theorem dX5_set_36 : decode cX5_set 36 = .ok (.bipush 100, 2) := by decide +kernel
theorem dX5_set_38 : decode cX5_set 38 = .ok (.goto 5, 3) := by decide +kernel
theorem dX5_set_41 : decode cX5_set 41 = .ok (.bipush 7, 2) := by decide +kernel
theorem dX5_set_43 : decode cX5_set 43 = .ok (.invokestatic 52, 3) := by decide +kernel
theorem dX5_set_46 : decode cX5_set 46 = .ok (.ifCond .ne 6, 3) := by decide +kernel
theorem dX5_set_49 : decode cX5_set 49 = .ok (.ldc 102, 2) := by decide +kernel
theorem dX5_set_51 : decode cX5_set 51 = .ok (.ireturn, 1) := by decide +kernel
theorem dX5_set_52 : decode cX5_set 52 = .ok (.aload_n 0, 1) := by decide +kernel
theorem dX5_set_53 : decode cX5_set 53 = .ok (.invokevirtual 103, 3) := by decide +kernel
theorem dX5_set_56 : decode cX5_set 56 = .ok (.aload_n 0, 1) := by decide +kernel
theorem dX5_set_57 : decode cX5_set 57 = .ok (.invokevirtual 95, 3) := by decide +kernel
theorem dX5_set_60 : decode cX5_set 60 = .ok (.istore_n 3, 1) := by decide +kernel
theorem dX5_set_61 : decode cX5_set 61 = .ok (.aload_n 0, 1) := by decide +kernel
theorem dX5_set_62 : decode cX5_set 62 = .ok (.getfield 7, 3) := by decide +kernel
theorem dX5_set_65 : decode cX5_set 65 = .ok (.bipush 31, 2) := by decide +kernel
theorem dX5_set_67 : decode cX5_set 67 = .ok (.iload_n 1, 1) := by decide +kernel
theorem dX5_set_68 : decode cX5_set 68 = .ok (.iadd, 1) := by decide +kernel
theorem dX5_set_69 : decode cX5_set 69 = .ok (.iload_n 2, 1) := by decide +kernel
theorem dX5_set_70 : decode cX5_set 70 = .ok (.iastore, 1) := by decide +kernel
theorem dX5_set_71 : decode cX5_set 71 = .ok (.aload_n 0, 1) := by decide +kernel
theorem dX5_set_72 : decode cX5_set 72 = .ok (.iload_n 3, 1) := by decide +kernel
theorem dX5_set_73 : decode cX5_set 73 = .ok (.invokevirtual 107, 3) := by decide +kernel
theorem dX5_set_76 : decode cX5_set 76 = .ok (.ireturn, 1) := by decide +kernel
theorem dX5_goal_0 : decode cX5_goal 0 = .ok (.aload_n 0, 1) := by decide +kernel
theorem dX5_goal_1 : decode cX5_goal 1 = .ok (.iload_n 1, 1) := by decide +kernel
theorem dX5_goal_2 : decode cX5_goal 2 = .ok (.invokevirtual 64, 3) := by decide +kernel
theorem dX5_goal_5 : decode cX5_goal 5 = .ok (.ifCond .eq 19, 3) := by decide +kernel
theorem dX5_goal_8 : decode cX5_goal 8 = .ok (.iload_n 2, 1) := by decide +kernel
theorem dX5_goal_9 : decode cX5_goal 9 = .ok (.iconst 0, 1) := by decide +kernel
theorem dX5_goal_10 : decode cX5_goal 10 = .ok (.bipush 7, 2) := by decide +kernel
theorem dX5_goal_12 : decode cX5_goal 12 = .ok (.invokestatic 52, 3) := by decide +kernel
theorem dX5_goal_15 : decode cX5_goal 15 = .ok (.ifCond .ne 12, 3) := by decide +kernel
theorem dX5_goal_18 : decode cX5_goal 18 = .ok (.iload_n 2, 1) := by decide +kernel
theorem dX5_goal_19 : decode cX5_goal 19 = .ok (.ldc 25, 2) := by decide +kernel
theorem dX5_goal_21 : decode cX5_goal 21 = .ok (.if_icmp .eq 6, 3) := by decide +kernel
theorem dX5_goal_24 : decode cX5_goal 24 = .ok (.ldc 102, 2) := by decide +kernel
theorem dX5_goal_26 : decode cX5_goal 26 = .ok (.ireturn, 1) := by decide +kernel
theorem dX5_goal_27 : decode cX5_goal 27 = .ok (.aload_n 0, 1) := by decide +kernel
theorem dX5_goal_28 : decode cX5_goal 28 = .ok (.invokevirtual 103, 3) := by decide +kernel
theorem dX5_goal_31 : decode cX5_goal 31 = .ok (.aload_n 0, 1) := by decide +kernel
theorem dX5_goal_32 : decode cX5_goal 32 = .ok (.getfield 7, 3) := by decide +kernel
theorem dX5_goal_35 : decode cX5_goal 35 = .ok (.bipush 21, 2) := by decide +kernel
theorem dX5_goal_37 : decode cX5_goal 37 = .ok (.iload_n 1, 1) := by decide +kernel
theorem dX5_goal_38 : decode cX5_goal 38 = .ok (.iadd, 1) := by decide +kernel
theorem dX5_goal_39 : decode cX5_goal 39 = .ok (.iaload, 1) := by decide +kernel
theorem dX5_goal_40 : decode cX5_goal 40 = .ok (.istore_n 3, 1) := by decide +kernel
theorem dX5_goal_41 : decode cX5_goal 41 = .ok (.aload_n 0, 1) := by decide +kernel
theorem dX5_goal_42 : decode cX5_goal 42 = .ok (.getfield 7, 3) := by decide +kernel
theorem dX5_goal_45 : decode cX5_goal 45 = .ok (.bipush 21, 2) := by decide +kernel
theorem dX5_goal_47 : decode cX5_goal 47 = .ok (.iload_n 1, 1) := by decide +kernel
theorem dX5_goal_48 : decode cX5_goal 48 = .ok (.iadd, 1) := by decide +kernel
theorem dX5_goal_49 : decode cX5_goal 49 = .ok (.iload_n 2, 1) := by decide +kernel
theorem dX5_goal_50 : decode cX5_goal 50 = .ok (.iastore, 1) := by decide +kernel
theorem dX5_goal_51 : decode cX5_goal 51 = .ok (.aload_n 0, 1) := by decide +kernel
theorem dX5_goal_52 : decode cX5_goal 52 = .ok (.invokevirtual 99, 3) := by decide +kernel
theorem dX5_goal_55 : decode cX5_goal 55 = .ok (.istore 4, 2) := by decide +kernel
theorem dX5_goal_57 : decode cX5_goal 57 = .ok (.iload_n 3, 1) := by decide +kernel
theorem dX5_goal_58 : decode cX5_goal 58 = .ok (.ireturn, 1) := by decide +kernel
theorem dX5_unsolved_0 : decode cX5_unsolved 0 = .ok (.iconst 0, 1) := by decide +kernel
theorem dX5_unsolved_1 : decode cX5_unsolved 1 = .ok (.istore_n 1, 1) := by decide +kernel
theorem dX5_unsolved_2 : decode cX5_unsolved 2 = .ok (.iconst 0, 1) := by decide +kernel
theorem dX5_unsolved_3 : decode cX5_unsolved 3 = .ok (.istore_n 2, 1) := by decide +kernel
theorem dX5_unsolved_4 : decode cX5_unsolved 4 = .ok (.iload_n 2, 1) := by decide +kernel
theorem dX5_unsolved_5 : decode cX5_unsolved 5 = .ok (.aload_n 0, 1) := by decide +kernel
theorem dX5_unsolved_6 : decode cX5_unsolved 6 = .ok (.getfield 7, 3) := by decide +kernel
theorem dX5_unsolved_9 : decode cX5_unsolved 9 = .ok (.iconst 0, 1) := by decide +kernel
end
section
theorem dX5_unsolved_10 : decode cX5_unsolved 10 = .ok (.iaload, 1) := by decide +kernel
theorem dX5_unsolved_11 : decode cX5_unsolved 11 = .ok (.if_icmp .ge 48, 3) := by decide +kernel
theorem dX5_unsolved_14 : decode cX5_unsolved 14 = .ok (.iload_n 1, 1) := by decide +kernel
theorem dX5_unsolved_15 : decode cX5_unsolved 15 = .ok (.aload_n 0, 1) := by decide +kernel
theorem dX5_unsolved_16 : decode cX5_unsolved 16 = .ok (.getfield 7, 3) := by decide +kernel
theorem dX5_unsolved_19 : decode cX5_unsolved 19 = .ok (.bipush 21, 2) := by decide +kernel
theorem dX5_unsolved_21 : decode cX5_unsolved 21 = .ok (.iload_n 2, 1) := by decide +kernel
theorem dX5_unsolved_22 : decode cX5_unsolved 22 = .ok (.iadd, 1) := by decide +kernel
theorem dX5_unsolved_23 : decode cX5_unsolved 23 = .ok (.iaload, 1) := by decide +kernel
theorem dX5_unsolved_24 : decode cX5_unsolved 24 = .ok (.ldc 25, 2) := by decide +kernel
theorem dX5_unsolved_26 : decode cX5_unsolved 26 = .ok (.if_icmp .eq 24, 3) := by decide +kernel
theorem dX5_unsolved_29 : decode cX5_unsolved 29 = .ok (.aload_n 0, 1) := by decide +kernel
theorem dX5_unsolved_30 : decode cX5_unsolved 30 = .ok (.getfield 7, 3) := by decide +kernel
theorem dX5_unsolved_33 : decode cX5_unsolved 33 = .ok (.bipush 21, 2) := by decide +kernel
theorem dX5_unsolved_35 : decode cX5_unsolved 35 = .ok (.iload_n 2, 1) := by decide +kernel
theorem dX5_unsolved_36 : decode cX5_unsolved 36 = .ok (.iadd, 1) := by decide +kernel
theorem dX5_unsolved_37 : decode cX5_unsolved 37 = .ok (.iaload, 1) := by decide +kernel
theorem dX5_unsolved_38 : decode cX5_unsolved 38 = .ok (.aload_n 0, 1) := by decide +kernel
theorem dX5_unsolved_39 : decode cX5_unsolved 39 = .ok (.iload_n 2, 1) := by decide +kernel
theorem dX5_unsolved_40 : decode cX5_unsolved 40 = .ok (.invokevirtual 68, 3) := by decide +kernel
theorem dX5_unsolved_43 : decode cX5_unsolved 43 = .ok (.if_icmp .eq 7, 3) := by decide +kernel
theorem dX5_unsolved_46 : decode cX5_unsolved 46 = .ok (.iconst 1, 1) := by decide +kernel
theorem dX5_unsolved_47 : decode cX5_unsolved 47 = .ok (.goto 4, 3) := by decide +kernel
theorem dX5_unsolved_50 : decode cX5_unsolved 50 = .ok (.iconst 0, 1) := by decide +kernel
theorem dX5_unsolved_51 : decode cX5_unsolved 51 = .ok (.iadd, 1) := by decide +kernel
theorem dX5_unsolved_52 : decode cX5_unsolved 52 = .ok (.istore_n 1, 1) := by decide +kernel
theorem dX5_unsolved_53 : decode cX5_unsolved 53 = .ok (.iinc 2 1, 3) := by decide +kernel
theorem dX5_unsolved_56 : decode cX5_unsolved 56 = .ok (.goto (-52), 3) := by decide +kernel
theorem dX5_unsolved_59 : decode cX5_unsolved 59 = .ok (.iload_n 1, 1) := by decide +kernel
theorem dX5_unsolved_60 : decode cX5_unsolved 60 = .ok (.ireturn, 1) := by decide +kernel
theorem dX5_walls_0 : decode cX5_walls 0 = .ok (.iconst 0, 1) := by decide +kernel
theorem dX5_walls_1 : decode cX5_walls 1 = .ok (.istore_n 1, 1) := by decide +kernel
theorem dX5_walls_2 : decode cX5_walls 2 = .ok (.iconst 1, 1) := by decide +kernel
theorem dX5_walls_3 : decode cX5_walls 3 = .ok (.istore_n 2, 1) := by decide +kernel
theorem dX5_walls_4 : decode cX5_walls 4 = .ok (.iload_n 2, 1) := by decide +kernel
theorem dX5_walls_5 : decode cX5_walls 5 = .ok (.aload_n 0, 1) := by decide +kernel
theorem dX5_walls_6 : decode cX5_walls 6 = .ok (.getfield 7, 3) := by decide +kernel
theorem dX5_walls_9 : decode cX5_walls 9 = .ok (.iconst 0, 1) := by decide +kernel
theorem dX5_walls_10 : decode cX5_walls 10 = .ok (.iaload, 1) := by decide +kernel
theorem dX5_walls_11 : decode cX5_walls 11 = .ok (.if_icmp .ge 32, 3) := by decide +kernel
theorem dX5_walls_14 : decode cX5_walls 14 = .ok (.iload_n 1, 1) := by decide +kernel
theorem dX5_walls_15 : decode cX5_walls 15 = .ok (.aload_n 0, 1) := by decide +kernel
theorem dX5_walls_16 : decode cX5_walls 16 = .ok (.iload_n 2, 1) := by decide +kernel
theorem dX5_walls_17 : decode cX5_walls 17 = .ok (.invokevirtual 68, 3) := by decide +kernel
theorem dX5_walls_20 : decode cX5_walls 20 = .ok (.aload_n 0, 1) := by decide +kernel
theorem dX5_walls_21 : decode cX5_walls 21 = .ok (.iload_n 2, 1) := by decide +kernel
theorem dX5_walls_22 : decode cX5_walls 22 = .ok (.iconst 1, 1) := by decide +kernel
theorem dX5_walls_23 : decode cX5_walls 23 = .ok (.isub, 1) := by decide +kernel
theorem dX5_walls_24 : decode cX5_walls 24 = .ok (.invokevirtual 68, 3) := by decide +kernel
theorem dX5_walls_27 : decode cX5_walls 27 = .ok (.if_icmp .eq 7, 3) := by decide +kernel
theorem dX5_walls_30 : decode cX5_walls 30 = .ok (.iconst 1, 1) := by decide +kernel
theorem dX5_walls_31 : decode cX5_walls 31 = .ok (.goto 4, 3) := by decide +kernel
theorem dX5_walls_34 : decode cX5_walls 34 = .ok (.iconst 0, 1) := by decide +kernel
theorem dX5_walls_35 : decode cX5_walls 35 = .ok (.iadd, 1) := by decide +kernel
theorem dX5_walls_36 : decode cX5_walls 36 = .ok (.istore_n 1, 1) := by decide +kernel
theorem dX5_walls_37 : decode cX5_walls 37 = .ok (.iinc 2 1, 3) := by decide +kernel
theorem dX5_walls_40 : decode cX5_walls 40 = .ok (.goto (-36), 3) := by decide +kernel
theorem dX5_walls_43 : decode cX5_walls 43 = .ok (.iload_n 1, 1) := by decide +kernel
theorem dX5_walls_44 : decode cX5_walls 44 = .ok (.ireturn, 1) := by decide +kernel
theorem dX5_held_0 : decode cX5_held 0 = .ok (.iconst 0, 1) := by decide +kernel
theorem dX5_held_1 : decode cX5_held 1 = .ok (.istore_n 1, 1) := by decide +kernel
theorem dX5_held_2 : decode cX5_held 2 = .ok (.iconst 0, 1) := by decide +kernel
theorem dX5_held_3 : decode cX5_held 3 = .ok (.istore_n 2, 1) := by decide +kernel
theorem dX5_held_4 : decode cX5_held 4 = .ok (.iload_n 2, 1) := by decide +kernel
theorem dX5_held_5 : decode cX5_held 5 = .ok (.aload_n 0, 1) := by decide +kernel
theorem dX5_held_6 : decode cX5_held 6 = .ok (.getfield 7, 3) := by decide +kernel
theorem dX5_held_9 : decode cX5_held 9 = .ok (.iconst 0, 1) := by decide +kernel
theorem dX5_held_10 : decode cX5_held 10 = .ok (.iaload, 1) := by decide +kernel
theorem dX5_held_11 : decode cX5_held 11 = .ok (.if_icmp .ge 21, 3) := by decide +kernel
theorem dX5_held_14 : decode cX5_held 14 = .ok (.iload_n 1, 1) := by decide +kernel
theorem dX5_held_15 : decode cX5_held 15 = .ok (.aload_n 0, 1) := by decide +kernel
theorem dX5_held_16 : decode cX5_held 16 = .ok (.getfield 7, 3) := by decide +kernel
theorem dX5_held_19 : decode cX5_held 19 = .ok (.bipush 11, 2) := by decide +kernel
theorem dX5_held_21 : decode cX5_held 21 = .ok (.iload_n 2, 1) := by decide +kernel
theorem dX5_held_22 : decode cX5_held 22 = .ok (.iadd, 1) := by decide +kernel
theorem dX5_held_23 : decode cX5_held 23 = .ok (.iaload, 1) := by decide +kernel
theorem dX5_held_24 : decode cX5_held 24 = .ok (.iadd, 1) := by decide +kernel
theorem dX5_held_25 : decode cX5_held 25 = .ok (.istore_n 1, 1) := by decide +kernel
theorem dX5_held_26 : decode cX5_held 26 = .ok (.iinc 2 1, 3) := by decide +kernel
theorem dX5_held_29 : decode cX5_held 29 = .ok (.goto (-25), 3) := by decide +kernel
theorem dX5_held_32 : decode cX5_held 32 = .ok (.iload_n 1, 1) := by decide +kernel
theorem dX5_held_33 : decode cX5_held 33 = .ok (.ireturn, 1) := by decide +kernel
theorem dX5_told_0 : decode cX5_told 0 = .ok (.iload_n 1, 1) := by decide +kernel
theorem dX5_told_1 : decode cX5_told 1 = .ok (.tableswitch 188 0 15 #[79, 86, 91, 99, 107, 115, 123, 131, 139, 147, 155, 163, 168, 173, 178, 183], 79) := by decide +kernel
theorem dX5_told_80 : decode cX5_told 80 = .ok (.aload_n 0, 1) := by decide +kernel
theorem dX5_told_81 : decode cX5_told 81 = .ok (.getfield 7, 3) := by decide +kernel
theorem dX5_told_84 : decode cX5_told 84 = .ok (.iconst 0, 1) := by decide +kernel
theorem dX5_told_85 : decode cX5_told 85 = .ok (.iaload, 1) := by decide +kernel
theorem dX5_told_86 : decode cX5_told 86 = .ok (.ireturn, 1) := by decide +kernel
theorem dX5_told_87 : decode cX5_told 87 = .ok (.aload_n 0, 1) := by decide +kernel
theorem dX5_told_88 : decode cX5_told 88 = .ok (.invokevirtual 95, 3) := by decide +kernel
theorem dX5_told_91 : decode cX5_told 91 = .ok (.ireturn, 1) := by decide +kernel
theorem dX5_told_92 : decode cX5_told 92 = .ok (.aload_n 0, 1) := by decide +kernel
theorem dX5_told_93 : decode cX5_told 93 = .ok (.getfield 7, 3) := by decide +kernel
theorem dX5_told_96 : decode cX5_told 96 = .ok (.bipush 35, 2) := by decide +kernel
theorem dX5_told_98 : decode cX5_told 98 = .ok (.iaload, 1) := by decide +kernel
theorem dX5_told_99 : decode cX5_told 99 = .ok (.ireturn, 1) := by decide +kernel
theorem dX5_told_100 : decode cX5_told 100 = .ok (.aload_n 0, 1) := by decide +kernel
theorem dX5_told_101 : decode cX5_told 101 = .ok (.getfield 7, 3) := by decide +kernel
theorem dX5_told_104 : decode cX5_told 104 = .ok (.bipush 36, 2) := by decide +kernel
theorem dX5_told_106 : decode cX5_told 106 = .ok (.iaload, 1) := by decide +kernel
theorem dX5_told_107 : decode cX5_told 107 = .ok (.ireturn, 1) := by decide +kernel
theorem dX5_told_108 : decode cX5_told 108 = .ok (.aload_n 0, 1) := by decide +kernel
theorem dX5_told_109 : decode cX5_told 109 = .ok (.getfield 7, 3) := by decide +kernel
theorem dX5_told_112 : decode cX5_told 112 = .ok (.bipush 31, 2) := by decide +kernel
theorem dX5_told_114 : decode cX5_told 114 = .ok (.iaload, 1) := by decide +kernel
theorem dX5_told_115 : decode cX5_told 115 = .ok (.ireturn, 1) := by decide +kernel
theorem dX5_told_116 : decode cX5_told 116 = .ok (.aload_n 0, 1) := by decide +kernel
theorem dX5_told_117 : decode cX5_told 117 = .ok (.getfield 7, 3) := by decide +kernel
theorem dX5_told_120 : decode cX5_told 120 = .ok (.bipush 32, 2) := by decide +kernel
theorem dX5_told_122 : decode cX5_told 122 = .ok (.iaload, 1) := by decide +kernel
theorem dX5_told_123 : decode cX5_told 123 = .ok (.ireturn, 1) := by decide +kernel
theorem dX5_told_124 : decode cX5_told 124 = .ok (.aload_n 0, 1) := by decide +kernel
theorem dX5_told_125 : decode cX5_told 125 = .ok (.getfield 7, 3) := by decide +kernel
theorem dX5_told_128 : decode cX5_told 128 = .ok (.bipush 33, 2) := by decide +kernel
theorem dX5_told_130 : decode cX5_told 130 = .ok (.iaload, 1) := by decide +kernel
theorem dX5_told_131 : decode cX5_told 131 = .ok (.ireturn, 1) := by decide +kernel
theorem dX5_told_132 : decode cX5_told 132 = .ok (.aload_n 0, 1) := by decide +kernel
theorem dX5_told_133 : decode cX5_told 133 = .ok (.getfield 7, 3) := by decide +kernel
theorem dX5_told_136 : decode cX5_told 136 = .ok (.bipush 34, 2) := by decide +kernel
theorem dX5_told_138 : decode cX5_told 138 = .ok (.iaload, 1) := by decide +kernel
theorem dX5_told_139 : decode cX5_told 139 = .ok (.ireturn, 1) := by decide +kernel
theorem dX5_told_140 : decode cX5_told 140 = .ok (.aload_n 0, 1) := by decide +kernel
theorem dX5_told_141 : decode cX5_told 141 = .ok (.getfield 7, 3) := by decide +kernel
theorem dX5_told_144 : decode cX5_told 144 = .ok (.bipush 37, 2) := by decide +kernel
theorem dX5_told_146 : decode cX5_told 146 = .ok (.iaload, 1) := by decide +kernel
theorem dX5_told_147 : decode cX5_told 147 = .ok (.ireturn, 1) := by decide +kernel
theorem dX5_told_148 : decode cX5_told 148 = .ok (.aload_n 0, 1) := by decide +kernel
theorem dX5_told_149 : decode cX5_told 149 = .ok (.getfield 7, 3) := by decide +kernel
theorem dX5_told_152 : decode cX5_told 152 = .ok (.bipush 38, 2) := by decide +kernel
theorem dX5_told_154 : decode cX5_told 154 = .ok (.iaload, 1) := by decide +kernel
theorem dX5_told_155 : decode cX5_told 155 = .ok (.ireturn, 1) := by decide +kernel
theorem dX5_told_156 : decode cX5_told 156 = .ok (.aload_n 0, 1) := by decide +kernel
theorem dX5_told_157 : decode cX5_told 157 = .ok (.getfield 7, 3) := by decide +kernel
theorem dX5_told_160 : decode cX5_told 160 = .ok (.bipush 39, 2) := by decide +kernel
theorem dX5_told_162 : decode cX5_told 162 = .ok (.iaload, 1) := by decide +kernel
theorem dX5_told_163 : decode cX5_told 163 = .ok (.ireturn, 1) := by decide +kernel
theorem dX5_told_164 : decode cX5_told 164 = .ok (.aload_n 0, 1) := by decide +kernel
theorem dX5_told_165 : decode cX5_told 165 = .ok (.invokevirtual 123, 3) := by decide +kernel
theorem dX5_told_168 : decode cX5_told 168 = .ok (.ireturn, 1) := by decide +kernel
theorem dX5_told_169 : decode cX5_told 169 = .ok (.aload_n 0, 1) := by decide +kernel
theorem dX5_told_170 : decode cX5_told 170 = .ok (.invokevirtual 126, 3) := by decide +kernel
theorem dX5_told_173 : decode cX5_told 173 = .ok (.ireturn, 1) := by decide +kernel
theorem dX5_told_174 : decode cX5_told 174 = .ok (.aload_n 0, 1) := by decide +kernel
theorem dX5_told_175 : decode cX5_told 175 = .ok (.invokevirtual 129, 3) := by decide +kernel
theorem dX5_told_178 : decode cX5_told 178 = .ok (.ireturn, 1) := by decide +kernel
theorem dX5_told_179 : decode cX5_told 179 = .ok (.aload_n 0, 1) := by decide +kernel
theorem dX5_told_180 : decode cX5_told 180 = .ok (.getfield 132, 3) := by decide +kernel
theorem dX5_told_183 : decode cX5_told 183 = .ok (.ireturn, 1) := by decide +kernel
theorem dX5_told_184 : decode cX5_told 184 = .ok (.aload_n 0, 1) := by decide +kernel
theorem dX5_told_185 : decode cX5_told 185 = .ok (.getfield 56, 3) := by decide +kernel
theorem dX5_told_188 : decode cX5_told 188 = .ok (.ireturn, 1) := by decide +kernel
theorem dX5_told_189 : decode cX5_told 189 = .ok (.ldc 102, 2) := by decide +kernel
theorem dX5_told_191 : decode cX5_told 191 = .ok (.ireturn, 1) := by decide +kernel
theorem dX5_magnet_0 : decode cX5_magnet 0 = .ok (.aload_n 0, 1) := by decide +kernel
theorem dX5_magnet_1 : decode cX5_magnet 1 = .ok (.iload_n 1, 1) := by decide +kernel
theorem dX5_magnet_2 : decode cX5_magnet 2 = .ok (.invokevirtual 64, 3) := by decide +kernel
theorem dX5_magnet_5 : decode cX5_magnet 5 = .ok (.ifCond .eq 12, 3) := by decide +kernel
theorem dX5_magnet_8 : decode cX5_magnet 8 = .ok (.iload_n 2, 1) := by decide +kernel
theorem dX5_magnet_9 : decode cX5_magnet 9 = .ok (.iconst 0, 1) := by decide +kernel
theorem dX5_magnet_10 : decode cX5_magnet 10 = .ok (.iconst 5, 1) := by decide +kernel
theorem dX5_magnet_11 : decode cX5_magnet 11 = .ok (.invokestatic 52, 3) := by decide +kernel
theorem dX5_magnet_14 : decode cX5_magnet 14 = .ok (.ifCond .ne 6, 3) := by decide +kernel
theorem dX5_magnet_17 : decode cX5_magnet 17 = .ok (.ldc 102, 2) := by decide +kernel
theorem dX5_magnet_19 : decode cX5_magnet 19 = .ok (.ireturn, 1) := by decide +kernel
theorem dX5_magnet_20 : decode cX5_magnet 20 = .ok (.iload_n 2, 1) := by decide +kernel
theorem dX5_magnet_21 : decode cX5_magnet 21 = .ok (.tableswitch 75 0 4 #[35, 41, 51, 61, 68], 35) := by decide +kernel
theorem dX5_magnet_56 : decode cX5_magnet 56 = .ok (.aload_n 0, 1) := by decide +kernel
theorem dX5_magnet_57 : decode cX5_magnet 57 = .ok (.iload_n 1, 1) := by decide +kernel
theorem dX5_magnet_58 : decode cX5_magnet 58 = .ok (.invokevirtual 68, 3) := by decide +kernel
theorem dX5_magnet_61 : decode cX5_magnet 61 = .ok (.ireturn, 1) := by decide +kernel
theorem dX5_magnet_62 : decode cX5_magnet 62 = .ok (.aload_n 0, 1) := by decide +kernel
theorem dX5_magnet_63 : decode cX5_magnet 63 = .ok (.getfield 7, 3) := by decide +kernel
theorem dX5_magnet_66 : decode cX5_magnet 66 = .ok (.bipush 11, 2) := by decide +kernel
theorem dX5_magnet_68 : decode cX5_magnet 68 = .ok (.iload_n 1, 1) := by decide +kernel
theorem dX5_magnet_69 : decode cX5_magnet 69 = .ok (.iadd, 1) := by decide +kernel
theorem dX5_magnet_70 : decode cX5_magnet 70 = .ok (.iaload, 1) := by decide +kernel
theorem dX5_magnet_71 : decode cX5_magnet 71 = .ok (.ireturn, 1) := by decide +kernel
theorem dX5_magnet_72 : decode cX5_magnet 72 = .ok (.aload_n 0, 1) := by decide +kernel
theorem dX5_magnet_73 : decode cX5_magnet 73 = .ok (.getfield 7, 3) := by decide +kernel
theorem dX5_magnet_76 : decode cX5_magnet 76 = .ok (.bipush 21, 2) := by decide +kernel
theorem dX5_magnet_78 : decode cX5_magnet 78 = .ok (.iload_n 1, 1) := by decide +kernel
theorem dX5_magnet_79 : decode cX5_magnet 79 = .ok (.iadd, 1) := by decide +kernel
theorem dX5_magnet_80 : decode cX5_magnet 80 = .ok (.iaload, 1) := by decide +kernel
theorem dX5_magnet_81 : decode cX5_magnet 81 = .ok (.ireturn, 1) := by decide +kernel
theorem dX5_magnet_82 : decode cX5_magnet 82 = .ok (.aload_n 0, 1) := by decide +kernel
theorem dX5_magnet_83 : decode cX5_magnet 83 = .ok (.iload_n 1, 1) := by decide +kernel
theorem dX5_magnet_84 : decode cX5_magnet 84 = .ok (.iconst 1, 1) := by decide +kernel
theorem dX5_magnet_85 : decode cX5_magnet 85 = .ok (.invokevirtual 88, 3) := by decide +kernel
theorem dX5_magnet_88 : decode cX5_magnet 88 = .ok (.ireturn, 1) := by decide +kernel
theorem dX5_magnet_89 : decode cX5_magnet 89 = .ok (.aload_n 0, 1) := by decide +kernel
theorem dX5_magnet_90 : decode cX5_magnet 90 = .ok (.iload_n 1, 1) := by decide +kernel
theorem dX5_magnet_91 : decode cX5_magnet 91 = .ok (.iconst (-1), 1) := by decide +kernel
theorem dX5_magnet_92 : decode cX5_magnet 92 = .ok (.invokevirtual 88, 3) := by decide +kernel
theorem dX5_magnet_95 : decode cX5_magnet 95 = .ok (.ireturn, 1) := by decide +kernel
theorem dX5_magnet_96 : decode cX5_magnet 96 = .ok (.aload_n 0, 1) := by decide +kernel
theorem dX5_magnet_97 : decode cX5_magnet 97 = .ok (.iload_n 1, 1) := by decide +kernel
theorem dX5_magnet_98 : decode cX5_magnet 98 = .ok (.aload_n 0, 1) := by decide +kernel
theorem dX5_magnet_99 : decode cX5_magnet 99 = .ok (.iload_n 1, 1) := by decide +kernel
theorem dX5_magnet_100 : decode cX5_magnet 100 = .ok (.invokevirtual 68, 3) := by decide +kernel
theorem dX5_magnet_103 : decode cX5_magnet 103 = .ok (.invokevirtual 82, 3) := by decide +kernel
theorem dX5_magnet_106 : decode cX5_magnet 106 = .ok (.ireturn, 1) := by decide +kernel
theorem dX5_log_0 : decode cX5_log 0 = .ok (.iload_n 1, 1) := by decide +kernel
theorem dX5_log_1 : decode cX5_log 1 = .ok (.ifCond .lt 12, 3) := by decide +kernel
theorem dX5_log_4 : decode cX5_log 4 = .ok (.iload_n 2, 1) := by decide +kernel
theorem dX5_log_5 : decode cX5_log 5 = .ok (.iconst 0, 1) := by decide +kernel
theorem dX5_log_6 : decode cX5_log 6 = .ok (.iconst 2, 1) := by decide +kernel
theorem dX5_log_7 : decode cX5_log 7 = .ok (.invokestatic 52, 3) := by decide +kernel
theorem dX5_log_10 : decode cX5_log 10 = .ok (.ifCond .ne 6, 3) := by decide +kernel
theorem dX5_log_13 : decode cX5_log 13 = .ok (.ldc 102, 2) := by decide +kernel
theorem dX5_log_15 : decode cX5_log 15 = .ok (.ireturn, 1) := by decide +kernel
theorem dX5_log_16 : decode cX5_log 16 = .ok (.iload_n 1, 1) := by decide +kernel
theorem dX5_log_17 : decode cX5_log 17 = .ok (.aload_n 0, 1) := by decide +kernel
theorem dX5_log_18 : decode cX5_log 18 = .ok (.getfield 7, 3) := by decide +kernel
theorem dX5_log_21 : decode cX5_log 21 = .ok (.bipush 39, 2) := by decide +kernel
theorem dX5_log_23 : decode cX5_log 23 = .ok (.iaload, 1) := by decide +kernel
theorem dX5_log_24 : decode cX5_log 24 = .ok (.if_icmp .ge 29, 3) := by decide +kernel
theorem dX5_log_27 : decode cX5_log 27 = .ok (.aload_n 0, 1) := by decide +kernel
theorem dX5_log_28 : decode cX5_log 28 = .ok (.getfield 7, 3) := by decide +kernel
theorem dX5_log_31 : decode cX5_log 31 = .ok (.bipush 40, 2) := by decide +kernel
theorem dX5_log_33 : decode cX5_log 33 = .ok (.iconst 3, 1) := by decide +kernel
theorem dX5_log_34 : decode cX5_log 34 = .ok (.aload_n 0, 1) := by decide +kernel
theorem dX5_log_35 : decode cX5_log 35 = .ok (.getfield 7, 3) := by decide +kernel
theorem dX5_log_38 : decode cX5_log 38 = .ok (.bipush 39, 2) := by decide +kernel
theorem dX5_log_40 : decode cX5_log 40 = .ok (.iaload, 1) := by decide +kernel
theorem dX5_log_41 : decode cX5_log 41 = .ok (.iconst 1, 1) := by decide +kernel
theorem dX5_log_42 : decode cX5_log 42 = .ok (.isub, 1) := by decide +kernel
theorem dX5_log_43 : decode cX5_log 43 = .ok (.iload_n 1, 1) := by decide +kernel
theorem dX5_log_44 : decode cX5_log 44 = .ok (.isub, 1) := by decide +kernel
theorem dX5_log_45 : decode cX5_log 45 = .ok (.imul, 1) := by decide +kernel
theorem dX5_log_46 : decode cX5_log 46 = .ok (.iadd, 1) := by decide +kernel
theorem dX5_log_47 : decode cX5_log 47 = .ok (.iload_n 2, 1) := by decide +kernel
theorem dX5_log_48 : decode cX5_log 48 = .ok (.iadd, 1) := by decide +kernel
theorem dX5_log_49 : decode cX5_log 49 = .ok (.iaload, 1) := by decide +kernel
theorem dX5_log_50 : decode cX5_log 50 = .ok (.goto 5, 3) := by decide +kernel
theorem dX5_log_53 : decode cX5_log 53 = .ok (.ldc 25, 2) := by decide +kernel
theorem dX5_log_55 : decode cX5_log 55 = .ok (.ireturn, 1) := by decide +kernel
theorem dX5_pointsTo_0 : decode cX5_pointsTo 0 = .ok (.iconst 0, 1) := by decide +kernel
theorem dX5_pointsTo_1 : decode cX5_pointsTo 1 = .ok (.istore_n 2, 1) := by decide +kernel
theorem dX5_pointsTo_2 : decode cX5_pointsTo 2 = .ok (.iconst 0, 1) := by decide +kernel
theorem dX5_pointsTo_3 : decode cX5_pointsTo 3 = .ok (.istore_n 3, 1) := by decide +kernel
theorem dX5_pointsTo_4 : decode cX5_pointsTo 4 = .ok (.iload_n 3, 1) := by decide +kernel
theorem dX5_pointsTo_5 : decode cX5_pointsTo 5 = .ok (.aload_n 0, 1) := by decide +kernel
theorem dX5_pointsTo_6 : decode cX5_pointsTo 6 = .ok (.getfield 7, 3) := by decide +kernel
theorem dX5_pointsTo_9 : decode cX5_pointsTo 9 = .ok (.iconst 0, 1) := by decide +kernel
theorem dX5_pointsTo_10 : decode cX5_pointsTo 10 = .ok (.iaload, 1) := by decide +kernel
theorem dX5_pointsTo_11 : decode cX5_pointsTo 11 = .ok (.if_icmp .ge 22, 3) := by decide +kernel
theorem dX5_pointsTo_14 : decode cX5_pointsTo 14 = .ok (.iload_n 2, 1) := by decide +kernel
theorem dX5_pointsTo_15 : decode cX5_pointsTo 15 = .ok (.aload_n 0, 1) := by decide +kernel
theorem dX5_pointsTo_16 : decode cX5_pointsTo 16 = .ok (.iload_n 3, 1) := by decide +kernel
theorem dX5_pointsTo_17 : decode cX5_pointsTo 17 = .ok (.invokevirtual 68, 3) := by decide +kernel
theorem dX5_pointsTo_20 : decode cX5_pointsTo 20 = .ok (.iload_n 1, 1) := by decide +kernel
theorem dX5_pointsTo_21 : decode cX5_pointsTo 21 = .ok (.isub, 1) := by decide +kernel
theorem dX5_pointsTo_22 : decode cX5_pointsTo 22 = .ok (.invokestatic 60, 3) := by decide +kernel
theorem dX5_pointsTo_25 : decode cX5_pointsTo 25 = .ok (.iadd, 1) := by decide +kernel
theorem dX5_pointsTo_26 : decode cX5_pointsTo 26 = .ok (.istore_n 2, 1) := by decide +kernel
theorem dX5_pointsTo_27 : decode cX5_pointsTo 27 = .ok (.iinc 3 1, 3) := by decide +kernel
theorem dX5_pointsTo_30 : decode cX5_pointsTo 30 = .ok (.goto (-26), 3) := by decide +kernel
theorem dX5_pointsTo_33 : decode cX5_pointsTo 33 = .ok (.iload_n 2, 1) := by decide +kernel
theorem dX5_pointsTo_34 : decode cX5_pointsTo 34 = .ok (.ireturn, 1) := by decide +kernel
theorem dX5_points_0 : decode cX5_points 0 = .ok (.iload_n 1, 1) := by decide +kernel
theorem dX5_points_1 : decode cX5_points 1 = .ok (.iconst 0, 1) := by decide +kernel
theorem dX5_points_2 : decode cX5_points 2 = .ok (.bipush 7, 2) := by decide +kernel
theorem dX5_points_4 : decode cX5_points 4 = .ok (.invokestatic 52, 3) := by decide +kernel
theorem dX5_points_7 : decode cX5_points 7 = .ok (.ifCond .eq 11, 3) := by decide +kernel
theorem dX5_points_10 : decode cX5_points 10 = .ok (.aload_n 0, 1) := by decide +kernel
theorem dX5_points_11 : decode cX5_points 11 = .ok (.iload_n 1, 1) := by decide +kernel
theorem dX5_points_12 : decode cX5_points 12 = .ok (.invokevirtual 135, 3) := by decide +kernel
theorem dX5_points_15 : decode cX5_points 15 = .ok (.goto 5, 3) := by decide +kernel
theorem dX5_points_18 : decode cX5_points 18 = .ok (.ldc 102, 2) := by decide +kernel
theorem dX5_points_20 : decode cX5_points 20 = .ok (.ireturn, 1) := by decide +kernel
theorem dX5_mean_0 : decode cX5_mean 0 = .ok (.aload_n 0, 1) := by decide +kernel
theorem dX5_mean_1 : decode cX5_mean 1 = .ok (.invokevirtual 95, 3) := by decide +kernel
theorem dX5_mean_4 : decode cX5_mean 4 = .ok (.i2f, 1) := by decide +kernel
theorem dX5_mean_5 : decode cX5_mean 5 = .ok (.aload_n 0, 1) := by decide +kernel
theorem dX5_mean_6 : decode cX5_mean 6 = .ok (.getfield 7, 3) := by decide +kernel
theorem dX5_mean_9 : decode cX5_mean 9 = .ok (.iconst 0, 1) := by decide +kernel
theorem dX5_mean_10 : decode cX5_mean 10 = .ok (.iaload, 1) := by decide +kernel
theorem dX5_mean_11 : decode cX5_mean 11 = .ok (.i2f, 1) := by decide +kernel
theorem dX5_mean_12 : decode cX5_mean 12 = .ok (.fdiv, 1) := by decide +kernel
theorem dX5_mean_13 : decode cX5_mean 13 = .ok (.freturn, 1) := by decide +kernel
theorem dX5_putAside_0 : decode cX5_putAside 0 = .ok (.iconst 0, 1) := by decide +kernel
theorem dX5_putAside_1 : decode cX5_putAside 1 = .ok (.istore_n 1, 1) := by decide +kernel
theorem dX5_putAside_2 : decode cX5_putAside 2 = .ok (.iload_n 1, 1) := by decide +kernel
theorem dX5_putAside_3 : decode cX5_putAside 3 = .ok (.sipush 130, 3) := by decide +kernel
theorem dX5_putAside_6 : decode cX5_putAside 6 = .ok (.if_icmp .ge 21, 3) := by decide +kernel
theorem dX5_putAside_9 : decode cX5_putAside 9 = .ok (.aload_n 0, 1) := by decide +kernel
theorem dX5_putAside_10 : decode cX5_putAside 10 = .ok (.getfield 33, 3) := by decide +kernel
theorem dX5_putAside_13 : decode cX5_putAside 13 = .ok (.iload_n 1, 1) := by decide +kernel
theorem dX5_putAside_14 : decode cX5_putAside 14 = .ok (.aload_n 0, 1) := by decide +kernel
theorem dX5_putAside_15 : decode cX5_putAside 15 = .ok (.getfield 7, 3) := by decide +kernel
theorem dX5_putAside_18 : decode cX5_putAside 18 = .ok (.iload_n 1, 1) := by decide +kernel
theorem dX5_putAside_19 : decode cX5_putAside 19 = .ok (.iaload, 1) := by decide +kernel
theorem dX5_putAside_20 : decode cX5_putAside 20 = .ok (.iastore, 1) := by decide +kernel
theorem dX5_putAside_21 : decode cX5_putAside 21 = .ok (.iinc 1 1, 3) := by decide +kernel
theorem dX5_putAside_24 : decode cX5_putAside 24 = .ok (.goto (-22), 3) := by decide +kernel
theorem dX5_putAside_27 : decode cX5_putAside 27 = .ok (.return_, 1) := by decide +kernel
theorem dX5_putBack_0 : decode cX5_putBack 0 = .ok (.iconst 0, 1) := by decide +kernel
theorem dX5_putBack_1 : decode cX5_putBack 1 = .ok (.istore_n 1, 1) := by decide +kernel
theorem dX5_putBack_2 : decode cX5_putBack 2 = .ok (.iload_n 1, 1) := by decide +kernel
theorem dX5_putBack_3 : decode cX5_putBack 3 = .ok (.sipush 130, 3) := by decide +kernel
theorem dX5_putBack_6 : decode cX5_putBack 6 = .ok (.if_icmp .ge 21, 3) := by decide +kernel
theorem dX5_putBack_9 : decode cX5_putBack 9 = .ok (.aload_n 0, 1) := by decide +kernel
theorem dX5_putBack_10 : decode cX5_putBack 10 = .ok (.getfield 7, 3) := by decide +kernel
theorem dX5_putBack_13 : decode cX5_putBack 13 = .ok (.iload_n 1, 1) := by decide +kernel
theorem dX5_putBack_14 : decode cX5_putBack 14 = .ok (.aload_n 0, 1) := by decide +kernel
theorem dX5_putBack_15 : decode cX5_putBack 15 = .ok (.getfield 33, 3) := by decide +kernel
theorem dX5_putBack_18 : decode cX5_putBack 18 = .ok (.iload_n 1, 1) := by decide +kernel
theorem dX5_putBack_19 : decode cX5_putBack 19 = .ok (.iaload, 1) := by decide +kernel
theorem dX5_putBack_20 : decode cX5_putBack 20 = .ok (.iastore, 1) := by decide +kernel
theorem dX5_putBack_21 : decode cX5_putBack 21 = .ok (.iinc 1 1, 3) := by decide +kernel
theorem dX5_putBack_24 : decode cX5_putBack 24 = .ok (.goto (-22), 3) := by decide +kernel
theorem dX5_putBack_27 : decode cX5_putBack 27 = .ok (.return_, 1) := by decide +kernel
theorem dX5_moved_0 : decode cX5_moved 0 = .ok (.aload_n 0, 1) := by decide +kernel
theorem dX5_moved_1 : decode cX5_moved 1 = .ok (.iload_n 1, 1) := by decide +kernel
theorem dX5_moved_2 : decode cX5_moved 2 = .ok (.iload_n 2, 1) := by decide +kernel
theorem dX5_moved_3 : decode cX5_moved 3 = .ok (.invokevirtual 119, 3) := by decide +kernel
theorem dX5_moved_6 : decode cX5_moved 6 = .ok (.ifCond .ne 6, 3) := by decide +kernel
theorem dX5_moved_9 : decode cX5_moved 9 = .ok (.ldc 102, 2) := by decide +kernel
theorem dX5_moved_11 : decode cX5_moved 11 = .ok (.ireturn, 1) := by decide +kernel
theorem dX5_moved_12 : decode cX5_moved 12 = .ok (.aload_n 0, 1) := by decide +kernel
theorem dX5_moved_13 : decode cX5_moved 13 = .ok (.getfield 7, 3) := by decide +kernel
theorem dX5_moved_16 : decode cX5_moved 16 = .ok (.bipush 11, 2) := by decide +kernel
theorem dX5_moved_18 : decode cX5_moved 18 = .ok (.iload_n 1, 1) := by decide +kernel
theorem dX5_moved_19 : decode cX5_moved 19 = .ok (.iadd, 1) := by decide +kernel
theorem dX5_moved_20 : decode cX5_moved 20 = .ok (.iaload, 1) := by decide +kernel
theorem dX5_moved_21 : decode cX5_moved 21 = .ok (.iconst 1, 1) := by decide +kernel
theorem dX5_moved_22 : decode cX5_moved 22 = .ok (.if_icmp .ne 6, 3) := by decide +kernel
theorem dX5_moved_25 : decode cX5_moved 25 = .ok (.ldc 59, 2) := by decide +kernel
theorem dX5_moved_27 : decode cX5_moved 27 = .ok (.ireturn, 1) := by decide +kernel
theorem dX5_moved_28 : decode cX5_moved 28 = .ok (.aload_n 0, 1) := by decide +kernel
theorem dX5_moved_29 : decode cX5_moved 29 = .ok (.invokevirtual 138, 3) := by decide +kernel
theorem dX5_moved_32 : decode cX5_moved 32 = .ok (.aload_n 0, 1) := by decide +kernel
theorem dX5_moved_33 : decode cX5_moved 33 = .ok (.getfield 7, 3) := by decide +kernel
theorem dX5_moved_36 : decode cX5_moved 36 = .ok (.iconst 1, 1) := by decide +kernel
theorem dX5_moved_37 : decode cX5_moved 37 = .ok (.iload_n 1, 1) := by decide +kernel
theorem dX5_moved_38 : decode cX5_moved 38 = .ok (.iadd, 1) := by decide +kernel
theorem dX5_moved_39 : decode cX5_moved 39 = .ok (.aload_n 0, 1) := by decide +kernel
theorem dX5_moved_40 : decode cX5_moved 40 = .ok (.iload_n 1, 1) := by decide +kernel
theorem dX5_moved_41 : decode cX5_moved 41 = .ok (.invokevirtual 68, 3) := by decide +kernel
theorem dX5_moved_44 : decode cX5_moved 44 = .ok (.iload_n 2, 1) := by decide +kernel
theorem dX5_moved_45 : decode cX5_moved 45 = .ok (.invokestatic 85, 3) := by decide +kernel
theorem dX5_moved_48 : decode cX5_moved 48 = .ok (.iastore, 1) := by decide +kernel
theorem dX5_moved_49 : decode cX5_moved 49 = .ok (.aload_n 0, 1) := by decide +kernel
theorem dX5_moved_50 : decode cX5_moved 50 = .ok (.invokevirtual 99, 3) := by decide +kernel
theorem dX5_moved_53 : decode cX5_moved 53 = .ok (.istore_n 3, 1) := by decide +kernel
theorem dX5_moved_54 : decode cX5_moved 54 = .ok (.aload_n 0, 1) := by decide +kernel
theorem dX5_moved_55 : decode cX5_moved 55 = .ok (.invokevirtual 141, 3) := by decide +kernel
theorem dX5_moved_58 : decode cX5_moved 58 = .ok (.iload_n 3, 1) := by decide +kernel
theorem dX5_moved_59 : decode cX5_moved 59 = .ok (.ireturn, 1) := by decide +kernel
theorem dX5_to_0 : decode cX5_to 0 = .ok (.aload_n 0, 1) := by decide +kernel
theorem dX5_to_1 : decode cX5_to 1 = .ok (.getfield 7, 3) := by decide +kernel
theorem dX5_to_4 : decode cX5_to 4 = .ok (.bipush 33, 2) := by decide +kernel
theorem dX5_to_6 : decode cX5_to 6 = .ok (.iload_n 1, 1) := by decide +kernel
theorem dX5_to_7 : decode cX5_to 7 = .ok (.ifCond .ge 8, 3) := by decide +kernel
theorem dX5_to_10 : decode cX5_to 10 = .ok (.iload_n 1, 1) := by decide +kernel
theorem dX5_to_11 : decode cX5_to 11 = .ok (.ineg, 1) := by decide +kernel
theorem dX5_to_12 : decode cX5_to 12 = .ok (.goto 4, 3) := by decide +kernel
theorem dX5_to_15 : decode cX5_to 15 = .ok (.iload_n 1, 1) := by decide +kernel
theorem dX5_to_16 : decode cX5_to 16 = .ok (.iastore, 1) := by decide +kernel
theorem dX5_to_17 : decode cX5_to 17 = .ok (.aload_n 0, 1) := by decide +kernel
theorem dX5_to_18 : decode cX5_to 18 = .ok (.getfield 7, 3) := by decide +kernel
theorem dX5_to_21 : decode cX5_to 21 = .ok (.bipush 34, 2) := by decide +kernel
theorem dX5_to_23 : decode cX5_to 23 = .ok (.iload_n 1, 1) := by decide +kernel
theorem dX5_to_24 : decode cX5_to 24 = .ok (.ifCond .ge 12, 3) := by decide +kernel
theorem dX5_to_27 : decode cX5_to 27 = .ok (.iload_n 2, 1) := by decide +kernel
theorem dX5_to_28 : decode cX5_to 28 = .ok (.iconst 4, 1) := by decide +kernel
theorem dX5_to_29 : decode cX5_to 29 = .ok (.iadd, 1) := by decide +kernel
theorem dX5_to_30 : decode cX5_to 30 = .ok (.bipush 8, 2) := by decide +kernel
theorem dX5_to_32 : decode cX5_to 32 = .ok (.irem, 1) := by decide +kernel
theorem dX5_to_33 : decode cX5_to 33 = .ok (.goto 4, 3) := by decide +kernel
theorem dX5_to_36 : decode cX5_to 36 = .ok (.iload_n 2, 1) := by decide +kernel
theorem dX5_to_37 : decode cX5_to 37 = .ok (.iastore, 1) := by decide +kernel
theorem dX5_to_38 : decode cX5_to 38 = .ok (.aload_n 0, 1) := by decide +kernel
theorem dX5_to_39 : decode cX5_to 39 = .ok (.dup, 1) := by decide +kernel
theorem dX5_to_40 : decode cX5_to 40 = .ok (.getfield 144, 3) := by decide +kernel
theorem dX5_to_43 : decode cX5_to 43 = .ok (.aload_n 0, 1) := by decide +kernel
theorem dX5_to_44 : decode cX5_to 44 = .ok (.invokevirtual 99, 3) := by decide +kernel
theorem dX5_to_47 : decode cX5_to 47 = .ok (.iadd, 1) := by decide +kernel
theorem dX5_to_48 : decode cX5_to 48 = .ok (.putfield 144, 3) := by decide +kernel
theorem dX5_to_51 : decode cX5_to 51 = .ok (.aload_n 0, 1) := by decide +kernel
theorem dX5_to_52 : decode cX5_to 52 = .ok (.iload_n 2, 1) := by decide +kernel
theorem dX5_to_53 : decode cX5_to 53 = .ok (.invokevirtual 135, 3) := by decide +kernel
theorem dX5_to_56 : decode cX5_to 56 = .ok (.ireturn, 1) := by decide +kernel
theorem dX5_run_0 : decode cX5_run 0 = .ok (.aload_n 0, 1) := by decide +kernel
theorem dX5_run_1 : decode cX5_run 1 = .ok (.iconst 0, 1) := by decide +kernel
theorem dX5_run_2 : decode cX5_run 2 = .ok (.putfield 144, 3) := by decide +kernel
theorem dX5_run_5 : decode cX5_run 5 = .ok (.aload_n 0, 1) := by decide +kernel
theorem dX5_run_6 : decode cX5_run 6 = .ok (.iconst 0, 1) := by decide +kernel
theorem dX5_run_7 : decode cX5_run 7 = .ok (.putfield 147, 3) := by decide +kernel
theorem dX5_run_10 : decode cX5_run 10 = .ok (.aload_n 0, 1) := by decide +kernel
theorem dX5_run_11 : decode cX5_run 11 = .ok (.iconst 0, 1) := by decide +kernel
theorem dX5_run_12 : decode cX5_run 12 = .ok (.putfield 150, 3) := by decide +kernel
theorem dX5_run_15 : decode cX5_run 15 = .ok (.aload_n 0, 1) := by decide +kernel
theorem dX5_run_16 : decode cX5_run 16 = .ok (.ldc 25, 2) := by decide +kernel
theorem dX5_run_18 : decode cX5_run 18 = .ok (.putfield 153, 3) := by decide +kernel
theorem dX5_run_21 : decode cX5_run 21 = .ok (.iconst 0, 1) := by decide +kernel
theorem dX5_run_22 : decode cX5_run 22 = .ok (.istore 4, 2) := by decide +kernel
theorem dX5_run_24 : decode cX5_run 24 = .ok (.iconst 0, 1) := by decide +kernel
theorem dX5_run_25 : decode cX5_run 25 = .ok (.istore 5, 2) := by decide +kernel
theorem dX5_run_27 : decode cX5_run 27 = .ok (.iload 5, 2) := by decide +kernel
theorem dX5_run_29 : decode cX5_run 29 = .ok (.iload_n 1, 1) := by decide +kernel
theorem dX5_run_30 : decode cX5_run 30 = .ok (.if_icmp .gt 21, 3) := by decide +kernel
theorem dX5_run_33 : decode cX5_run 33 = .ok (.aload_n 0, 1) := by decide +kernel
theorem dX5_run_34 : decode cX5_run 34 = .ok (.iload 5, 2) := by decide +kernel
theorem dX5_run_36 : decode cX5_run 36 = .ok (.iload_n 3, 1) := by decide +kernel
theorem dX5_run_37 : decode cX5_run 37 = .ok (.invokevirtual 156, 3) := by decide +kernel
theorem dX5_run_40 : decode cX5_run 40 = .ok (.istore 4, 2) := by decide +kernel
theorem dX5_run_42 : decode cX5_run 42 = .ok (.iload 5, 2) := by decide +kernel
theorem dX5_run_44 : decode cX5_run 44 = .ok (.iload_n 2, 1) := by decide +kernel
theorem dX5_run_45 : decode cX5_run 45 = .ok (.iadd, 1) := by decide +kernel
theorem dX5_run_46 : decode cX5_run 46 = .ok (.istore 5, 2) := by decide +kernel
theorem dX5_run_48 : decode cX5_run 48 = .ok (.goto (-21), 3) := by decide +kernel
theorem dX5_run_51 : decode cX5_run 51 = .ok (.iload_n 1, 1) := by decide +kernel
theorem dX5_run_52 : decode cX5_run 52 = .ok (.iload_n 2, 1) := by decide +kernel
theorem dX5_run_53 : decode cX5_run 53 = .ok (.isub, 1) := by decide +kernel
theorem dX5_run_54 : decode cX5_run 54 = .ok (.istore 5, 2) := by decide +kernel
theorem dX5_run_56 : decode cX5_run 56 = .ok (.iload 5, 2) := by decide +kernel
theorem dX5_run_58 : decode cX5_run 58 = .ok (.iload_n 1, 1) := by decide +kernel
theorem dX5_run_59 : decode cX5_run 59 = .ok (.ineg, 1) := by decide +kernel
theorem dX5_run_60 : decode cX5_run 60 = .ok (.if_icmp .lt 87, 3) := by decide +kernel
theorem dX5_run_63 : decode cX5_run 63 = .ok (.aload_n 0, 1) := by decide +kernel
theorem dX5_run_64 : decode cX5_run 64 = .ok (.iload 5, 2) := by decide +kernel
theorem dX5_run_66 : decode cX5_run 66 = .ok (.iload_n 3, 1) := by decide +kernel
theorem dX5_run_67 : decode cX5_run 67 = .ok (.invokevirtual 156, 3) := by decide +kernel
theorem dX5_run_70 : decode cX5_run 70 = .ok (.istore 6, 2) := by decide +kernel
theorem dX5_run_72 : decode cX5_run 72 = .ok (.aload_n 0, 1) := by decide +kernel
theorem dX5_run_73 : decode cX5_run 73 = .ok (.dup, 1) := by decide +kernel
theorem dX5_run_74 : decode cX5_run 74 = .ok (.getfield 147, 3) := by decide +kernel
theorem dX5_run_77 : decode cX5_run 77 = .ok (.iload 4, 2) := by decide +kernel
theorem dX5_run_79 : decode cX5_run 79 = .ok (.iload 6, 2) := by decide +kernel
theorem dX5_run_81 : decode cX5_run 81 = .ok (.iadd, 1) := by decide +kernel
theorem dX5_run_82 : decode cX5_run 82 = .ok (.iload_n 2, 1) := by decide +kernel
theorem dX5_run_83 : decode cX5_run 83 = .ok (.ineg, 1) := by decide +kernel
theorem dX5_run_84 : decode cX5_run 84 = .ok (.imul, 1) := by decide +kernel
theorem dX5_run_85 : decode cX5_run 85 = .ok (.iadd, 1) := by decide +kernel
theorem dX5_run_86 : decode cX5_run 86 = .ok (.putfield 147, 3) := by decide +kernel
theorem dX5_run_89 : decode cX5_run 89 = .ok (.iload 6, 2) := by decide +kernel
theorem dX5_run_91 : decode cX5_run 91 = .ok (.istore 4, 2) := by decide +kernel
theorem dX5_run_93 : decode cX5_run 93 = .ok (.aload_n 0, 1) := by decide +kernel
theorem dX5_run_94 : decode cX5_run 94 = .ok (.iload 5, 2) := by decide +kernel
theorem dX5_run_96 : decode cX5_run 96 = .ok (.ifCond .ne 8, 3) := by decide +kernel
theorem dX5_run_99 : decode cX5_run 99 = .ok (.iload 4, 2) := by decide +kernel
theorem dX5_run_101 : decode cX5_run 101 = .ok (.goto 7, 3) := by decide +kernel
theorem dX5_run_104 : decode cX5_run 104 = .ok (.aload_n 0, 1) := by decide +kernel
theorem dX5_run_105 : decode cX5_run 105 = .ok (.getfield 150, 3) := by decide +kernel
theorem dX5_run_108 : decode cX5_run 108 = .ok (.putfield 150, 3) := by decide +kernel
theorem dX5_run_111 : decode cX5_run 111 = .ok (.aload_n 0, 1) := by decide +kernel
theorem dX5_run_112 : decode cX5_run 112 = .ok (.aload_n 0, 1) := by decide +kernel
theorem dX5_run_113 : decode cX5_run 113 = .ok (.getfield 153, 3) := by decide +kernel
theorem dX5_run_116 : decode cX5_run 116 = .ok (.ldc 25, 2) := by decide +kernel
theorem dX5_run_118 : decode cX5_run 118 = .ok (.if_icmp .ne 13, 3) := by decide +kernel
theorem dX5_run_121 : decode cX5_run 121 = .ok (.iload 4, 2) := by decide +kernel
theorem dX5_run_123 : decode cX5_run 123 = .ok (.ifCond .gt 8, 3) := by decide +kernel
theorem dX5_run_126 : decode cX5_run 126 = .ok (.iload 5, 2) := by decide +kernel
theorem dX5_run_128 : decode cX5_run 128 = .ok (.goto 7, 3) := by decide +kernel
theorem dX5_run_131 : decode cX5_run 131 = .ok (.aload_n 0, 1) := by decide +kernel
theorem dX5_run_132 : decode cX5_run 132 = .ok (.getfield 153, 3) := by decide +kernel
theorem dX5_run_135 : decode cX5_run 135 = .ok (.putfield 153, 3) := by decide +kernel
theorem dX5_run_138 : decode cX5_run 138 = .ok (.iload 5, 2) := by decide +kernel
theorem dX5_run_140 : decode cX5_run 140 = .ok (.iload_n 2, 1) := by decide +kernel
theorem dX5_run_141 : decode cX5_run 141 = .ok (.isub, 1) := by decide +kernel
theorem dX5_run_142 : decode cX5_run 142 = .ok (.istore 5, 2) := by decide +kernel
theorem dX5_run_144 : decode cX5_run 144 = .ok (.goto (-88), 3) := by decide +kernel
theorem dX5_run_147 : decode cX5_run 147 = .ok (.iload_n 2, 1) := by decide +kernel
theorem dX5_run_148 : decode cX5_run 148 = .ok (.iload_n 1, 1) := by decide +kernel
theorem dX5_run_149 : decode cX5_run 149 = .ok (.isub, 1) := by decide +kernel
theorem dX5_run_150 : decode cX5_run 150 = .ok (.istore 5, 2) := by decide +kernel
theorem dX5_run_152 : decode cX5_run 152 = .ok (.iload 5, 2) := by decide +kernel
theorem dX5_run_154 : decode cX5_run 154 = .ok (.iload_n 1, 1) := by decide +kernel
theorem dX5_run_155 : decode cX5_run 155 = .ok (.if_icmp .gt 41, 3) := by decide +kernel
theorem dX5_run_158 : decode cX5_run 158 = .ok (.aload_n 0, 1) := by decide +kernel
theorem dX5_run_159 : decode cX5_run 159 = .ok (.iload 5, 2) := by decide +kernel
theorem dX5_run_161 : decode cX5_run 161 = .ok (.iload_n 3, 1) := by decide +kernel
theorem dX5_run_162 : decode cX5_run 162 = .ok (.invokevirtual 156, 3) := by decide +kernel
theorem dX5_run_165 : decode cX5_run 165 = .ok (.istore 6, 2) := by decide +kernel
theorem dX5_run_167 : decode cX5_run 167 = .ok (.aload_n 0, 1) := by decide +kernel
theorem dX5_run_168 : decode cX5_run 168 = .ok (.dup, 1) := by decide +kernel
theorem dX5_run_169 : decode cX5_run 169 = .ok (.getfield 147, 3) := by decide +kernel
theorem dX5_run_172 : decode cX5_run 172 = .ok (.iload 4, 2) := by decide +kernel
theorem dX5_run_174 : decode cX5_run 174 = .ok (.iload 6, 2) := by decide +kernel
theorem dX5_run_176 : decode cX5_run 176 = .ok (.iadd, 1) := by decide +kernel
theorem dX5_run_177 : decode cX5_run 177 = .ok (.iload_n 2, 1) := by decide +kernel
theorem dX5_run_178 : decode cX5_run 178 = .ok (.imul, 1) := by decide +kernel
theorem dX5_run_179 : decode cX5_run 179 = .ok (.iadd, 1) := by decide +kernel
theorem dX5_run_180 : decode cX5_run 180 = .ok (.putfield 147, 3) := by decide +kernel
theorem dX5_run_183 : decode cX5_run 183 = .ok (.iload 6, 2) := by decide +kernel
theorem dX5_run_185 : decode cX5_run 185 = .ok (.istore 4, 2) := by decide +kernel
theorem dX5_run_187 : decode cX5_run 187 = .ok (.iload 5, 2) := by decide +kernel
theorem dX5_run_189 : decode cX5_run 189 = .ok (.iload_n 2, 1) := by decide +kernel
theorem dX5_run_190 : decode cX5_run 190 = .ok (.iadd, 1) := by decide +kernel
theorem dX5_run_191 : decode cX5_run 191 = .ok (.istore 5, 2) := by decide +kernel
theorem dX5_run_193 : decode cX5_run 193 = .ok (.goto (-41), 3) := by decide +kernel
theorem dX5_run_196 : decode cX5_run 196 = .ok (.iload 4, 2) := by decide +kernel
theorem dX5_run_198 : decode cX5_run 198 = .ok (.ireturn, 1) := by decide +kernel
theorem dX5_loop_0 : decode cX5_loop 0 = .ok (.iload_n 1, 1) := by decide +kernel
theorem dX5_loop_1 : decode cX5_loop 1 = .ok (.iconst 1, 1) := by decide +kernel
theorem dX5_loop_2 : decode cX5_loop 2 = .ok (.bipush 100, 2) := by decide +kernel
theorem dX5_loop_4 : decode cX5_loop 4 = .ok (.invokestatic 52, 3) := by decide +kernel
theorem dX5_loop_7 : decode cX5_loop 7 = .ok (.ifCond .eq 36, 3) := by decide +kernel
theorem dX5_loop_10 : decode cX5_loop 10 = .ok (.iload_n 2, 1) := by decide +kernel
theorem dX5_loop_11 : decode cX5_loop 11 = .ok (.iconst 1, 1) := by decide +kernel
theorem dX5_loop_12 : decode cX5_loop 12 = .ok (.bipush 100, 2) := by decide +kernel
theorem dX5_loop_14 : decode cX5_loop 14 = .ok (.invokestatic 52, 3) := by decide +kernel
theorem dX5_loop_17 : decode cX5_loop 17 = .ok (.ifCond .eq 26, 3) := by decide +kernel
theorem dX5_loop_20 : decode cX5_loop 20 = .ok (.iload_n 3, 1) := by decide +kernel
theorem dX5_loop_21 : decode cX5_loop 21 = .ok (.iconst 0, 1) := by decide +kernel
theorem dX5_loop_22 : decode cX5_loop 22 = .ok (.iconst 4, 1) := by decide +kernel
theorem dX5_loop_23 : decode cX5_loop 23 = .ok (.invokestatic 52, 3) := by decide +kernel
theorem dX5_loop_26 : decode cX5_loop 26 = .ok (.ifCond .eq 17, 3) := by decide +kernel
theorem dX5_loop_29 : decode cX5_loop 29 = .ok (.iload_n 1, 1) := by decide +kernel
theorem dX5_loop_30 : decode cX5_loop 30 = .ok (.iload_n 2, 1) := by decide +kernel
theorem dX5_loop_31 : decode cX5_loop 31 = .ok (.irem, 1) := by decide +kernel
theorem dX5_loop_32 : decode cX5_loop 32 = .ok (.ifCond .ne 11, 3) := by decide +kernel
theorem dX5_loop_35 : decode cX5_loop 35 = .ok (.bipush 10, 2) := by decide +kernel
theorem dX5_loop_37 : decode cX5_loop 37 = .ok (.iload_n 2, 1) := by decide +kernel
theorem dX5_loop_38 : decode cX5_loop 38 = .ok (.imul, 1) := by decide +kernel
theorem dX5_loop_39 : decode cX5_loop 39 = .ok (.iload_n 1, 1) := by decide +kernel
theorem dX5_loop_40 : decode cX5_loop 40 = .ok (.if_icmp .ge 6, 3) := by decide +kernel
theorem dX5_loop_43 : decode cX5_loop 43 = .ok (.ldc 102, 2) := by decide +kernel
theorem dX5_loop_45 : decode cX5_loop 45 = .ok (.ireturn, 1) := by decide +kernel
theorem dX5_loop_46 : decode cX5_loop 46 = .ok (.aload_n 0, 1) := by decide +kernel
theorem dX5_loop_47 : decode cX5_loop 47 = .ok (.invokevirtual 138, 3) := by decide +kernel
theorem dX5_loop_50 : decode cX5_loop 50 = .ok (.aload_n 0, 1) := by decide +kernel
theorem dX5_loop_51 : decode cX5_loop 51 = .ok (.iload_n 1, 1) := by decide +kernel
theorem dX5_loop_52 : decode cX5_loop 52 = .ok (.iload_n 2, 1) := by decide +kernel
theorem dX5_loop_53 : decode cX5_loop 53 = .ok (.aload_n 0, 1) := by decide +kernel
theorem dX5_loop_54 : decode cX5_loop 54 = .ok (.getfield 7, 3) := by decide +kernel
theorem dX5_loop_57 : decode cX5_loop 57 = .ok (.bipush 34, 2) := by decide +kernel
theorem dX5_loop_59 : decode cX5_loop 59 = .ok (.iaload, 1) := by decide +kernel
theorem dX5_loop_60 : decode cX5_loop 60 = .ok (.invokevirtual 159, 3) := by decide +kernel
theorem dX5_loop_63 : decode cX5_loop 63 = .ok (.istore 4, 2) := by decide +kernel
theorem dX5_loop_65 : decode cX5_loop 65 = .ok (.aload_n 0, 1) := by decide +kernel
theorem dX5_loop_66 : decode cX5_loop 66 = .ok (.invokevirtual 141, 3) := by decide +kernel
theorem dX5_loop_69 : decode cX5_loop 69 = .ok (.iload_n 3, 1) := by decide +kernel
theorem dX5_loop_70 : decode cX5_loop 70 = .ok (.tableswitch 50 0 3 #[30, 35, 40, 45], 30) := by decide +kernel
theorem dX5_loop_100 : decode cX5_loop 100 = .ok (.aload_n 0, 1) := by decide +kernel
theorem dX5_loop_101 : decode cX5_loop 101 = .ok (.getfield 147, 3) := by decide +kernel
theorem dX5_loop_104 : decode cX5_loop 104 = .ok (.ireturn, 1) := by decide +kernel
theorem dX5_loop_105 : decode cX5_loop 105 = .ok (.aload_n 0, 1) := by decide +kernel
theorem dX5_loop_106 : decode cX5_loop 106 = .ok (.getfield 150, 3) := by decide +kernel
theorem dX5_loop_109 : decode cX5_loop 109 = .ok (.ireturn, 1) := by decide +kernel
theorem dX5_loop_110 : decode cX5_loop 110 = .ok (.aload_n 0, 1) := by decide +kernel
theorem dX5_loop_111 : decode cX5_loop 111 = .ok (.getfield 153, 3) := by decide +kernel
theorem dX5_loop_114 : decode cX5_loop 114 = .ok (.ireturn, 1) := by decide +kernel
theorem dX5_loop_115 : decode cX5_loop 115 = .ok (.aload_n 0, 1) := by decide +kernel
theorem dX5_loop_116 : decode cX5_loop 116 = .ok (.getfield 144, 3) := by decide +kernel
theorem dX5_loop_119 : decode cX5_loop 119 = .ok (.ireturn, 1) := by decide +kernel
theorem dX5_loop_120 : decode cX5_loop 120 = .ok (.iload 4, 2) := by decide +kernel
theorem dX5_loop_122 : decode cX5_loop 122 = .ok (.ireturn, 1) := by decide +kernel
theorem dX5_choices_0 : decode cX5_choices 0 = .ok (.iconst 2, 1) := by decide +kernel
theorem dX5_choices_1 : decode cX5_choices 1 = .ok (.aload_n 0, 1) := by decide +kernel
theorem dX5_choices_2 : decode cX5_choices 2 = .ok (.getfield 7, 3) := by decide +kernel
theorem dX5_choices_5 : decode cX5_choices 5 = .ok (.iconst 0, 1) := by decide +kernel
theorem dX5_choices_6 : decode cX5_choices 6 = .ok (.iaload, 1) := by decide +kernel
theorem dX5_choices_7 : decode cX5_choices 7 = .ok (.imul, 1) := by decide +kernel
theorem dX5_choices_8 : decode cX5_choices 8 = .ok (.ireturn, 1) := by decide +kernel
theorem dX5_store_0 : decode cX5_store 0 = .ok (.iconst 0, 1) := by decide +kernel
theorem dX5_store_1 : decode cX5_store 1 = .ok (.istore_n 2, 1) := by decide +kernel
theorem dX5_store_2 : decode cX5_store 2 = .ok (.iload_n 2, 1) := by decide +kernel
theorem dX5_store_3 : decode cX5_store 3 = .ok (.bipush 10, 2) := by decide +kernel
theorem dX5_store_5 : decode cX5_store 5 = .ok (.if_icmp .ge 25, 3) := by decide +kernel
theorem dX5_store_8 : decode cX5_store 8 = .ok (.aload_n 0, 1) := by decide +kernel
theorem dX5_store_9 : decode cX5_store 9 = .ok (.getfield 36, 3) := by decide +kernel
theorem dX5_store_12 : decode cX5_store 12 = .ok (.bipush 10, 2) := by decide +kernel
theorem dX5_store_14 : decode cX5_store 14 = .ok (.iload_n 1, 1) := by decide +kernel
theorem dX5_store_15 : decode cX5_store 15 = .ok (.imul, 1) := by decide +kernel
theorem dX5_store_16 : decode cX5_store 16 = .ok (.iload_n 2, 1) := by decide +kernel
theorem dX5_store_17 : decode cX5_store 17 = .ok (.iadd, 1) := by decide +kernel
theorem dX5_store_18 : decode cX5_store 18 = .ok (.aload_n 0, 1) := by decide +kernel
theorem dX5_store_19 : decode cX5_store 19 = .ok (.iload_n 2, 1) := by decide +kernel
theorem dX5_store_20 : decode cX5_store 20 = .ok (.invokevirtual 68, 3) := by decide +kernel
theorem dX5_store_23 : decode cX5_store 23 = .ok (.iastore, 1) := by decide +kernel
theorem dX5_store_24 : decode cX5_store 24 = .ok (.iinc 2 1, 3) := by decide +kernel
theorem dX5_store_27 : decode cX5_store 27 = .ok (.goto (-25), 3) := by decide +kernel
theorem dX5_store_30 : decode cX5_store 30 = .ok (.return_, 1) := by decide +kernel
theorem dX5_restore_0 : decode cX5_restore 0 = .ok (.iconst 0, 1) := by decide +kernel
theorem dX5_restore_1 : decode cX5_restore 1 = .ok (.istore_n 2, 1) := by decide +kernel
theorem dX5_restore_2 : decode cX5_restore 2 = .ok (.iload_n 2, 1) := by decide +kernel
theorem dX5_restore_3 : decode cX5_restore 3 = .ok (.bipush 10, 2) := by decide +kernel
theorem dX5_restore_5 : decode cX5_restore 5 = .ok (.if_icmp .ge 28, 3) := by decide +kernel
theorem dX5_restore_8 : decode cX5_restore 8 = .ok (.aload_n 0, 1) := by decide +kernel
theorem dX5_restore_9 : decode cX5_restore 9 = .ok (.getfield 7, 3) := by decide +kernel
theorem dX5_restore_12 : decode cX5_restore 12 = .ok (.iconst 1, 1) := by decide +kernel
theorem dX5_restore_13 : decode cX5_restore 13 = .ok (.iload_n 2, 1) := by decide +kernel
theorem dX5_restore_14 : decode cX5_restore 14 = .ok (.iadd, 1) := by decide +kernel
theorem dX5_restore_15 : decode cX5_restore 15 = .ok (.aload_n 0, 1) := by decide +kernel
theorem dX5_restore_16 : decode cX5_restore 16 = .ok (.getfield 36, 3) := by decide +kernel
theorem dX5_restore_19 : decode cX5_restore 19 = .ok (.bipush 10, 2) := by decide +kernel
theorem dX5_restore_21 : decode cX5_restore 21 = .ok (.iload_n 1, 1) := by decide +kernel
theorem dX5_restore_22 : decode cX5_restore 22 = .ok (.imul, 1) := by decide +kernel
theorem dX5_restore_23 : decode cX5_restore 23 = .ok (.iload_n 2, 1) := by decide +kernel
theorem dX5_restore_24 : decode cX5_restore 24 = .ok (.iadd, 1) := by decide +kernel
theorem dX5_restore_25 : decode cX5_restore 25 = .ok (.iaload, 1) := by decide +kernel
theorem dX5_restore_26 : decode cX5_restore 26 = .ok (.iastore, 1) := by decide +kernel
theorem dX5_restore_27 : decode cX5_restore 27 = .ok (.iinc 2 1, 3) := by decide +kernel
theorem dX5_restore_30 : decode cX5_restore 30 = .ok (.goto (-28), 3) := by decide +kernel
theorem dX5_restore_33 : decode cX5_restore 33 = .ok (.return_, 1) := by decide +kernel
theorem dX5_search_0 : decode cX5_search 0 = .ok (.iconst 0, 1) := by decide +kernel
theorem dX5_search_1 : decode cX5_search 1 = .ok (.istore_n 2, 1) := by decide +kernel
theorem dX5_search_2 : decode cX5_search 2 = .ok (.aload_n 0, 1) := by decide +kernel
theorem dX5_search_3 : decode cX5_search 3 = .ok (.getfield 39, 3) := by decide +kernel
theorem dX5_search_6 : decode cX5_search 6 = .ok (.iconst 0, 1) := by decide +kernel
theorem dX5_search_7 : decode cX5_search 7 = .ok (.iconst 0, 1) := by decide +kernel
theorem dX5_search_8 : decode cX5_search 8 = .ok (.iastore, 1) := by decide +kernel
theorem dX5_search_9 : decode cX5_search 9 = .ok (.aload_n 0, 1) := by decide +kernel
theorem dX5_search_10 : decode cX5_search 10 = .ok (.iconst 0, 1) := by decide +kernel
theorem dX5_search_11 : decode cX5_search 11 = .ok (.invokevirtual 162, 3) := by decide +kernel
theorem dX5_search_14 : decode cX5_search 14 = .ok (.iload_n 2, 1) := by decide +kernel
theorem dX5_search_15 : decode cX5_search 15 = .ok (.ifCond .lt 174, 3) := by decide +kernel
theorem dX5_search_18 : decode cX5_search 18 = .ok (.aload_n 0, 1) := by decide +kernel
theorem dX5_search_19 : decode cX5_search 19 = .ok (.getfield 39, 3) := by decide +kernel
theorem dX5_search_22 : decode cX5_search 22 = .ok (.iload_n 2, 1) := by decide +kernel
theorem dX5_search_23 : decode cX5_search 23 = .ok (.iaload, 1) := by decide +kernel
theorem dX5_search_24 : decode cX5_search 24 = .ok (.istore_n 3, 1) := by decide +kernel
theorem dX5_search_25 : decode cX5_search 25 = .ok (.iload_n 3, 1) := by decide +kernel
theorem dX5_search_26 : decode cX5_search 26 = .ok (.aload_n 0, 1) := by decide +kernel
theorem dX5_search_27 : decode cX5_search 27 = .ok (.invokevirtual 165, 3) := by decide +kernel
theorem dX5_search_30 : decode cX5_search 30 = .ok (.if_icmp .ne 35, 3) := by decide +kernel
theorem dX5_search_33 : decode cX5_search 33 = .ok (.iinc 2 (-1), 3) := by decide +kernel
theorem dX5_search_36 : decode cX5_search 36 = .ok (.aload_n 0, 1) := by decide +kernel
theorem dX5_search_37 : decode cX5_search 37 = .ok (.getfield 39, 3) := by decide +kernel
theorem dX5_search_40 : decode cX5_search 40 = .ok (.iload_n 2, 1) := by decide +kernel
theorem dX5_search_41 : decode cX5_search 41 = .ok (.ifCond .ge 7, 3) := by decide +kernel
theorem dX5_search_44 : decode cX5_search 44 = .ok (.iconst 0, 1) := by decide +kernel
theorem dX5_search_45 : decode cX5_search 45 = .ok (.goto 4, 3) := by decide +kernel
theorem dX5_search_48 : decode cX5_search 48 = .ok (.iload_n 2, 1) := by decide +kernel
theorem dX5_search_49 : decode cX5_search 49 = .ok (.dup2, 1) := by decide +kernel
theorem dX5_search_50 : decode cX5_search 50 = .ok (.iaload, 1) := by decide +kernel
theorem dX5_search_51 : decode cX5_search 51 = .ok (.iload_n 2, 1) := by decide +kernel
theorem dX5_search_52 : decode cX5_search 52 = .ok (.ifCond .ge 7, 3) := by decide +kernel
theorem dX5_search_55 : decode cX5_search 55 = .ok (.iconst 0, 1) := by decide +kernel
theorem dX5_search_56 : decode cX5_search 56 = .ok (.goto 4, 3) := by decide +kernel
theorem dX5_search_59 : decode cX5_search 59 = .ok (.iconst 1, 1) := by decide +kernel
theorem dX5_search_60 : decode cX5_search 60 = .ok (.iadd, 1) := by decide +kernel
theorem dX5_search_61 : decode cX5_search 61 = .ok (.iastore, 1) := by decide +kernel
theorem dX5_search_62 : decode cX5_search 62 = .ok (.goto 124, 3) := by decide +kernel
theorem dX5_search_65 : decode cX5_search 65 = .ok (.aload_n 0, 1) := by decide +kernel
theorem dX5_search_66 : decode cX5_search 66 = .ok (.getfield 7, 3) := by decide +kernel
theorem dX5_search_69 : decode cX5_search 69 = .ok (.bipush 11, 2) := by decide +kernel
theorem dX5_search_71 : decode cX5_search 71 = .ok (.iload_n 3, 1) := by decide +kernel
theorem dX5_search_72 : decode cX5_search 72 = .ok (.iconst 2, 1) := by decide +kernel
theorem dX5_search_73 : decode cX5_search 73 = .ok (.idiv, 1) := by decide +kernel
theorem dX5_search_74 : decode cX5_search 74 = .ok (.iadd, 1) := by decide +kernel
theorem dX5_search_75 : decode cX5_search 75 = .ok (.iaload, 1) := by decide +kernel
theorem dX5_search_76 : decode cX5_search 76 = .ok (.iconst 1, 1) := by decide +kernel
theorem dX5_search_77 : decode cX5_search 77 = .ok (.if_icmp .ne 16, 3) := by decide +kernel
theorem dX5_search_80 : decode cX5_search 80 = .ok (.aload_n 0, 1) := by decide +kernel
theorem dX5_search_81 : decode cX5_search 81 = .ok (.getfield 39, 3) := by decide +kernel
theorem dX5_search_84 : decode cX5_search 84 = .ok (.iload_n 2, 1) := by decide +kernel
theorem dX5_search_85 : decode cX5_search 85 = .ok (.dup2, 1) := by decide +kernel
theorem dX5_search_86 : decode cX5_search 86 = .ok (.iaload, 1) := by decide +kernel
theorem dX5_search_87 : decode cX5_search 87 = .ok (.iconst 1, 1) := by decide +kernel
theorem dX5_search_88 : decode cX5_search 88 = .ok (.iadd, 1) := by decide +kernel
theorem dX5_search_89 : decode cX5_search 89 = .ok (.iastore, 1) := by decide +kernel
theorem dX5_search_90 : decode cX5_search 90 = .ok (.goto 96, 3) := by decide +kernel
theorem dX5_search_93 : decode cX5_search 93 = .ok (.aload_n 0, 1) := by decide +kernel
theorem dX5_search_94 : decode cX5_search 94 = .ok (.iload_n 2, 1) := by decide +kernel
theorem dX5_search_95 : decode cX5_search 95 = .ok (.invokevirtual 168, 3) := by decide +kernel
theorem dX5_search_98 : decode cX5_search 98 = .ok (.aload_n 0, 1) := by decide +kernel
theorem dX5_search_99 : decode cX5_search 99 = .ok (.getfield 7, 3) := by decide +kernel
theorem dX5_search_102 : decode cX5_search 102 = .ok (.iconst 1, 1) := by decide +kernel
theorem dX5_search_103 : decode cX5_search 103 = .ok (.iload_n 3, 1) := by decide +kernel
theorem dX5_search_104 : decode cX5_search 104 = .ok (.iconst 2, 1) := by decide +kernel
theorem dX5_search_105 : decode cX5_search 105 = .ok (.idiv, 1) := by decide +kernel
theorem dX5_search_106 : decode cX5_search 106 = .ok (.iadd, 1) := by decide +kernel
theorem dX5_search_107 : decode cX5_search 107 = .ok (.aload_n 0, 1) := by decide +kernel
theorem dX5_search_108 : decode cX5_search 108 = .ok (.iload_n 3, 1) := by decide +kernel
theorem dX5_search_109 : decode cX5_search 109 = .ok (.iconst 2, 1) := by decide +kernel
theorem dX5_search_110 : decode cX5_search 110 = .ok (.idiv, 1) := by decide +kernel
theorem dX5_search_111 : decode cX5_search 111 = .ok (.invokevirtual 68, 3) := by decide +kernel
theorem dX5_search_114 : decode cX5_search 114 = .ok (.iload_n 3, 1) := by decide +kernel
theorem dX5_search_115 : decode cX5_search 115 = .ok (.iconst 2, 1) := by decide +kernel
theorem dX5_search_116 : decode cX5_search 116 = .ok (.irem, 1) := by decide +kernel
theorem dX5_search_117 : decode cX5_search 117 = .ok (.ifCond .ne 7, 3) := by decide +kernel
theorem dX5_search_120 : decode cX5_search 120 = .ok (.iconst 1, 1) := by decide +kernel
theorem dX5_search_121 : decode cX5_search 121 = .ok (.goto 4, 3) := by decide +kernel
theorem dX5_search_124 : decode cX5_search 124 = .ok (.iconst (-1), 1) := by decide +kernel
theorem dX5_search_125 : decode cX5_search 125 = .ok (.invokestatic 85, 3) := by decide +kernel
theorem dX5_search_128 : decode cX5_search 128 = .ok (.iastore, 1) := by decide +kernel
theorem dX5_search_129 : decode cX5_search 129 = .ok (.aload_n 0, 1) := by decide +kernel
theorem dX5_search_130 : decode cX5_search 130 = .ok (.invokevirtual 99, 3) := by decide +kernel
theorem dX5_search_133 : decode cX5_search 133 = .ok (.istore 4, 2) := by decide +kernel
theorem dX5_search_135 : decode cX5_search 135 = .ok (.iload_n 2, 1) := by decide +kernel
theorem dX5_search_136 : decode cX5_search 136 = .ok (.iload_n 1, 1) := by decide +kernel
theorem dX5_search_137 : decode cX5_search 137 = .ok (.iconst 1, 1) := by decide +kernel
theorem dX5_search_138 : decode cX5_search 138 = .ok (.isub, 1) := by decide +kernel
theorem dX5_search_139 : decode cX5_search 139 = .ok (.if_icmp .ne 12, 3) := by decide +kernel
theorem dX5_search_142 : decode cX5_search 142 = .ok (.aload_n 0, 1) := by decide +kernel
theorem dX5_search_143 : decode cX5_search 143 = .ok (.invokevirtual 126, 3) := by decide +kernel
theorem dX5_search_146 : decode cX5_search 146 = .ok (.ifCond .ne 5, 3) := by decide +kernel
theorem dX5_search_149 : decode cX5_search 149 = .ok (.iconst 1, 1) := by decide +kernel
theorem dX5_search_150 : decode cX5_search 150 = .ok (.ireturn, 1) := by decide +kernel
theorem dX5_search_151 : decode cX5_search 151 = .ok (.iload_n 2, 1) := by decide +kernel
theorem dX5_search_152 : decode cX5_search 152 = .ok (.iload_n 1, 1) := by decide +kernel
theorem dX5_search_153 : decode cX5_search 153 = .ok (.iconst 1, 1) := by decide +kernel
theorem dX5_search_154 : decode cX5_search 154 = .ok (.isub, 1) := by decide +kernel
theorem dX5_search_155 : decode cX5_search 155 = .ok (.if_icmp .ne 16, 3) := by decide +kernel
theorem dX5_search_158 : decode cX5_search 158 = .ok (.aload_n 0, 1) := by decide +kernel
theorem dX5_search_159 : decode cX5_search 159 = .ok (.getfield 39, 3) := by decide +kernel
end
section
theorem dX5_search_162 : decode cX5_search 162 = .ok (.iload_n 2, 1) := by decide +kernel
theorem dX5_search_163 : decode cX5_search 163 = .ok (.dup2, 1) := by decide +kernel
theorem dX5_search_164 : decode cX5_search 164 = .ok (.iaload, 1) := by decide +kernel
theorem dX5_search_165 : decode cX5_search 165 = .ok (.iconst 1, 1) := by decide +kernel
theorem dX5_search_166 : decode cX5_search 166 = .ok (.iadd, 1) := by decide +kernel
theorem dX5_search_167 : decode cX5_search 167 = .ok (.iastore, 1) := by decide +kernel
theorem dX5_search_168 : decode cX5_search 168 = .ok (.goto 18, 3) := by decide +kernel
theorem dX5_search_171 : decode cX5_search 171 = .ok (.iinc 2 1, 3) := by decide +kernel
theorem dX5_search_174 : decode cX5_search 174 = .ok (.aload_n 0, 1) := by decide +kernel
theorem dX5_search_175 : decode cX5_search 175 = .ok (.getfield 39, 3) := by decide +kernel
theorem dX5_search_178 : decode cX5_search 178 = .ok (.iload_n 2, 1) := by decide +kernel
theorem dX5_search_179 : decode cX5_search 179 = .ok (.iconst 0, 1) := by decide +kernel
theorem dX5_search_180 : decode cX5_search 180 = .ok (.iastore, 1) := by decide +kernel
theorem dX5_search_181 : decode cX5_search 181 = .ok (.aload_n 0, 1) := by decide +kernel
theorem dX5_search_182 : decode cX5_search 182 = .ok (.iload_n 2, 1) := by decide +kernel
theorem dX5_search_183 : decode cX5_search 183 = .ok (.invokevirtual 162, 3) := by decide +kernel
theorem dX5_search_186 : decode cX5_search 186 = .ok (.goto (-172), 3) := by decide +kernel
theorem dX5_search_189 : decode cX5_search 189 = .ok (.iconst 0, 1) := by decide +kernel
theorem dX5_search_190 : decode cX5_search 190 = .ok (.ireturn, 1) := by decide +kernel
theorem dX5_isSolvedBy_0 : decode cX5_isSolvedBy 0 = .ok (.iload_n 1, 1) := by decide +kernel
theorem dX5_isSolvedBy_1 : decode cX5_isSolvedBy 1 = .ok (.ifCond .ne 16, 3) := by decide +kernel
theorem dX5_isSolvedBy_4 : decode cX5_isSolvedBy 4 = .ok (.aload_n 0, 1) := by decide +kernel
theorem dX5_isSolvedBy_5 : decode cX5_isSolvedBy 5 = .ok (.invokevirtual 126, 3) := by decide +kernel
theorem dX5_isSolvedBy_8 : decode cX5_isSolvedBy 8 = .ok (.ifCond .ne 7, 3) := by decide +kernel
theorem dX5_isSolvedBy_11 : decode cX5_isSolvedBy 11 = .ok (.iconst 1, 1) := by decide +kernel
theorem dX5_isSolvedBy_12 : decode cX5_isSolvedBy 12 = .ok (.goto 4, 3) := by decide +kernel
theorem dX5_isSolvedBy_15 : decode cX5_isSolvedBy 15 = .ok (.iconst 0, 1) := by decide +kernel
theorem dX5_isSolvedBy_16 : decode cX5_isSolvedBy 16 = .ok (.ireturn, 1) := by decide +kernel
theorem dX5_isSolvedBy_17 : decode cX5_isSolvedBy 17 = .ok (.aload_n 0, 1) := by decide +kernel
theorem dX5_isSolvedBy_18 : decode cX5_isSolvedBy 18 = .ok (.invokevirtual 138, 3) := by decide +kernel
theorem dX5_isSolvedBy_21 : decode cX5_isSolvedBy 21 = .ok (.aload_n 0, 1) := by decide +kernel
theorem dX5_isSolvedBy_22 : decode cX5_isSolvedBy 22 = .ok (.iload_n 1, 1) := by decide +kernel
theorem dX5_isSolvedBy_23 : decode cX5_isSolvedBy 23 = .ok (.invokevirtual 171, 3) := by decide +kernel
theorem dX5_isSolvedBy_26 : decode cX5_isSolvedBy 26 = .ok (.istore_n 2, 1) := by decide +kernel
theorem dX5_isSolvedBy_27 : decode cX5_isSolvedBy 27 = .ok (.aload_n 0, 1) := by decide +kernel
theorem dX5_isSolvedBy_28 : decode cX5_isSolvedBy 28 = .ok (.invokevirtual 141, 3) := by decide +kernel
theorem dX5_isSolvedBy_31 : decode cX5_isSolvedBy 31 = .ok (.iload_n 2, 1) := by decide +kernel
theorem dX5_isSolvedBy_32 : decode cX5_isSolvedBy 32 = .ok (.ireturn, 1) := by decide +kernel
theorem dX5_solve_0 : decode cX5_solve 0 = .ok (.iload_n 1, 1) := by decide +kernel
theorem dX5_solve_1 : decode cX5_solve 1 = .ok (.iconst 0, 1) := by decide +kernel
theorem dX5_solve_2 : decode cX5_solve 2 = .ok (.iconst 3, 1) := by decide +kernel
theorem dX5_solve_3 : decode cX5_solve 3 = .ok (.invokestatic 52, 3) := by decide +kernel
theorem dX5_solve_6 : decode cX5_solve 6 = .ok (.ifCond .eq 12, 3) := by decide +kernel
theorem dX5_solve_9 : decode cX5_solve 9 = .ok (.iload_n 2, 1) := by decide +kernel
theorem dX5_solve_10 : decode cX5_solve 10 = .ok (.iconst 0, 1) := by decide +kernel
theorem dX5_solve_11 : decode cX5_solve 11 = .ok (.iconst 2, 1) := by decide +kernel
theorem dX5_solve_12 : decode cX5_solve 12 = .ok (.invokestatic 52, 3) := by decide +kernel
theorem dX5_solve_15 : decode cX5_solve 15 = .ok (.ifCond .ne 6, 3) := by decide +kernel
theorem dX5_solve_18 : decode cX5_solve 18 = .ok (.ldc 102, 2) := by decide +kernel
theorem dX5_solve_20 : decode cX5_solve 20 = .ok (.ireturn, 1) := by decide +kernel
theorem dX5_solve_21 : decode cX5_solve 21 = .ok (.iconst 0, 1) := by decide +kernel
theorem dX5_solve_22 : decode cX5_solve 22 = .ok (.istore_n 3, 1) := by decide +kernel
theorem dX5_solve_23 : decode cX5_solve 23 = .ok (.iload_n 3, 1) := by decide +kernel
theorem dX5_solve_24 : decode cX5_solve 24 = .ok (.iload_n 1, 1) := by decide +kernel
theorem dX5_solve_25 : decode cX5_solve 25 = .ok (.if_icmp .gt 67, 3) := by decide +kernel
theorem dX5_solve_28 : decode cX5_solve 28 = .ok (.aload_n 0, 1) := by decide +kernel
theorem dX5_solve_29 : decode cX5_solve 29 = .ok (.iload_n 3, 1) := by decide +kernel
theorem dX5_solve_30 : decode cX5_solve 30 = .ok (.invokevirtual 174, 3) := by decide +kernel
theorem dX5_solve_33 : decode cX5_solve 33 = .ok (.ifCond .eq 53, 3) := by decide +kernel
theorem dX5_solve_36 : decode cX5_solve 36 = .ok (.aload_n 0, 1) := by decide +kernel
theorem dX5_solve_37 : decode cX5_solve 37 = .ok (.getfield 39, 3) := by decide +kernel
theorem dX5_solve_40 : decode cX5_solve 40 = .ok (.iconst 0, 1) := by decide +kernel
theorem dX5_solve_41 : decode cX5_solve 41 = .ok (.iaload, 1) := by decide +kernel
theorem dX5_solve_42 : decode cX5_solve 42 = .ok (.istore 4, 2) := by decide +kernel
theorem dX5_solve_44 : decode cX5_solve 44 = .ok (.iload_n 2, 1) := by decide +kernel
theorem dX5_solve_45 : decode cX5_solve 45 = .ok (.ifCond .ne 7, 3) := by decide +kernel
theorem dX5_solve_48 : decode cX5_solve 48 = .ok (.iload_n 3, 1) := by decide +kernel
theorem dX5_solve_49 : decode cX5_solve 49 = .ok (.goto 36, 3) := by decide +kernel
theorem dX5_solve_52 : decode cX5_solve 52 = .ok (.iload_n 3, 1) := by decide +kernel
theorem dX5_solve_53 : decode cX5_solve 53 = .ok (.ifCond .ne 8, 3) := by decide +kernel
theorem dX5_solve_56 : decode cX5_solve 56 = .ok (.ldc 25, 2) := by decide +kernel
theorem dX5_solve_58 : decode cX5_solve 58 = .ok (.goto 27, 3) := by decide +kernel
theorem dX5_solve_61 : decode cX5_solve 61 = .ok (.iload_n 2, 1) := by decide +kernel
theorem dX5_solve_62 : decode cX5_solve 62 = .ok (.iconst 1, 1) := by decide +kernel
theorem dX5_solve_63 : decode cX5_solve 63 = .ok (.if_icmp .ne 10, 3) := by decide +kernel
theorem dX5_solve_66 : decode cX5_solve 66 = .ok (.iload 4, 2) := by decide +kernel
theorem dX5_solve_68 : decode cX5_solve 68 = .ok (.iconst 2, 1) := by decide +kernel
theorem dX5_solve_69 : decode cX5_solve 69 = .ok (.idiv, 1) := by decide +kernel
theorem dX5_solve_70 : decode cX5_solve 70 = .ok (.goto 15, 3) := by decide +kernel
theorem dX5_solve_73 : decode cX5_solve 73 = .ok (.iload 4, 2) := by decide +kernel
theorem dX5_solve_75 : decode cX5_solve 75 = .ok (.iconst 2, 1) := by decide +kernel
theorem dX5_solve_76 : decode cX5_solve 76 = .ok (.irem, 1) := by decide +kernel
theorem dX5_solve_77 : decode cX5_solve 77 = .ok (.ifCond .ne 7, 3) := by decide +kernel
theorem dX5_solve_80 : decode cX5_solve 80 = .ok (.iconst 1, 1) := by decide +kernel
theorem dX5_solve_81 : decode cX5_solve 81 = .ok (.goto 4, 3) := by decide +kernel
theorem dX5_solve_84 : decode cX5_solve 84 = .ok (.iconst (-1), 1) := by decide +kernel
theorem dX5_solve_85 : decode cX5_solve 85 = .ok (.ireturn, 1) := by decide +kernel
theorem dX5_solve_86 : decode cX5_solve 86 = .ok (.iinc 3 1, 3) := by decide +kernel
theorem dX5_solve_89 : decode cX5_solve 89 = .ok (.goto (-66), 3) := by decide +kernel
theorem dX5_solve_92 : decode cX5_solve 92 = .ok (.ldc 25, 2) := by decide +kernel
theorem dX5_solve_94 : decode cX5_solve 94 = .ok (.ireturn, 1) := by decide +kernel
theorem dX5_write_0 : decode cX5_write 0 = .ok (.iload_n 1, 1) := by decide +kernel
theorem dX5_write_1 : decode cX5_write 1 = .ok (.bipush 32, 2) := by decide +kernel
theorem dX5_write_3 : decode cX5_write 3 = .ok (.bipush 126, 2) := by decide +kernel
theorem dX5_write_5 : decode cX5_write 5 = .ok (.invokestatic 52, 3) := by decide +kernel
theorem dX5_write_8 : decode cX5_write 8 = .ok (.ifCond .ne 6, 3) := by decide +kernel
theorem dX5_write_11 : decode cX5_write 11 = .ok (.ldc 102, 2) := by decide +kernel
theorem dX5_write_13 : decode cX5_write 13 = .ok (.ireturn, 1) := by decide +kernel
theorem dX5_write_14 : decode cX5_write 14 = .ok (.aload_n 0, 1) := by decide +kernel
theorem dX5_write_15 : decode cX5_write 15 = .ok (.getfield 132, 3) := by decide +kernel
theorem dX5_write_18 : decode cX5_write 18 = .ok (.bipush 40, 2) := by decide +kernel
theorem dX5_write_20 : decode cX5_write 20 = .ok (.if_icmp .ne 6, 3) := by decide +kernel
theorem dX5_write_23 : decode cX5_write 23 = .ok (.ldc 106, 2) := by decide +kernel
theorem dX5_write_25 : decode cX5_write 25 = .ok (.ireturn, 1) := by decide +kernel
theorem dX5_write_26 : decode cX5_write 26 = .ok (.aload_n 0, 1) := by decide +kernel
theorem dX5_write_27 : decode cX5_write 27 = .ok (.getfield 22, 3) := by decide +kernel
theorem dX5_write_30 : decode cX5_write 30 = .ok (.aload_n 0, 1) := by decide +kernel
theorem dX5_write_31 : decode cX5_write 31 = .ok (.getfield 132, 3) := by decide +kernel
theorem dX5_write_34 : decode cX5_write 34 = .ok (.iload_n 1, 1) := by decide +kernel
theorem dX5_write_35 : decode cX5_write 35 = .ok (.iastore, 1) := by decide +kernel
theorem dX5_write_36 : decode cX5_write 36 = .ok (.aload_n 0, 1) := by decide +kernel
theorem dX5_write_37 : decode cX5_write 37 = .ok (.dup, 1) := by decide +kernel
theorem dX5_write_38 : decode cX5_write 38 = .ok (.getfield 132, 3) := by decide +kernel
theorem dX5_write_41 : decode cX5_write 41 = .ok (.iconst 1, 1) := by decide +kernel
theorem dX5_write_42 : decode cX5_write 42 = .ok (.iadd, 1) := by decide +kernel
theorem dX5_write_43 : decode cX5_write 43 = .ok (.putfield 132, 3) := by decide +kernel
theorem dX5_write_46 : decode cX5_write 46 = .ok (.aload_n 0, 1) := by decide +kernel
theorem dX5_write_47 : decode cX5_write 47 = .ok (.getfield 132, 3) := by decide +kernel
theorem dX5_write_50 : decode cX5_write 50 = .ok (.ireturn, 1) := by decide +kernel
theorem dX5_wipe_0 : decode cX5_wipe 0 = .ok (.aload_n 0, 1) := by decide +kernel
theorem dX5_wipe_1 : decode cX5_wipe 1 = .ok (.getfield 132, 3) := by decide +kernel
theorem dX5_wipe_4 : decode cX5_wipe 4 = .ok (.istore_n 1, 1) := by decide +kernel
theorem dX5_wipe_5 : decode cX5_wipe 5 = .ok (.aload_n 0, 1) := by decide +kernel
theorem dX5_wipe_6 : decode cX5_wipe 6 = .ok (.iconst 0, 1) := by decide +kernel
theorem dX5_wipe_7 : decode cX5_wipe 7 = .ok (.putfield 132, 3) := by decide +kernel
theorem dX5_wipe_10 : decode cX5_wipe 10 = .ok (.iload_n 1, 1) := by decide +kernel
theorem dX5_wipe_11 : decode cX5_wipe 11 = .ok (.ireturn, 1) := by decide +kernel
theorem dX5_fails_0 : decode cX5_fails 0 = .ok (.aload_n 0, 1) := by decide +kernel
theorem dX5_fails_1 : decode cX5_fails 1 = .ok (.iload_n 1, 1) := by decide +kernel
theorem dX5_fails_2 : decode cX5_fails 2 = .ok (.putfield 177, 3) := by decide +kernel
theorem dX5_fails_5 : decode cX5_fails 5 = .ok (.aload_n 0, 1) := by decide +kernel
theorem dX5_fails_6 : decode cX5_fails 6 = .ok (.iload_n 2, 1) := by decide +kernel
theorem dX5_fails_7 : decode cX5_fails 7 = .ok (.putfield 180, 3) := by decide +kernel
theorem dX5_fails_10 : decode cX5_fails 10 = .ok (.return_, 1) := by decide +kernel
theorem dX5_readByte_0 : decode cX5_readByte 0 = .ok (.aload_n 0, 1) := by decide +kernel
theorem dX5_readByte_1 : decode cX5_readByte 1 = .ok (.getfield 22, 3) := by decide +kernel
theorem dX5_readByte_4 : decode cX5_readByte 4 = .ok (.iload_n 1, 1) := by decide +kernel
theorem dX5_readByte_5 : decode cX5_readByte 5 = .ok (.iaload, 1) := by decide +kernel
theorem dX5_readByte_6 : decode cX5_readByte 6 = .ok (.istore_n 2, 1) := by decide +kernel
theorem dX5_readByte_7 : decode cX5_readByte 7 = .ok (.iload_n 1, 1) := by decide +kernel
theorem dX5_readByte_8 : decode cX5_readByte 8 = .ok (.ifCond .le 25, 3) := by decide +kernel
theorem dX5_readByte_11 : decode cX5_readByte 11 = .ok (.aload_n 0, 1) := by decide +kernel
theorem dX5_readByte_12 : decode cX5_readByte 12 = .ok (.getfield 22, 3) := by decide +kernel
theorem dX5_readByte_15 : decode cX5_readByte 15 = .ok (.iload_n 1, 1) := by decide +kernel
theorem dX5_readByte_16 : decode cX5_readByte 16 = .ok (.iconst 1, 1) := by decide +kernel
theorem dX5_readByte_17 : decode cX5_readByte 17 = .ok (.isub, 1) := by decide +kernel
theorem dX5_readByte_18 : decode cX5_readByte 18 = .ok (.iaload, 1) := by decide +kernel
theorem dX5_readByte_19 : decode cX5_readByte 19 = .ok (.bipush 48, 2) := by decide +kernel
theorem dX5_readByte_21 : decode cX5_readByte 21 = .ok (.bipush 55, 2) := by decide +kernel
theorem dX5_readByte_23 : decode cX5_readByte 23 = .ok (.invokestatic 52, 3) := by decide +kernel
theorem dX5_readByte_26 : decode cX5_readByte 26 = .ok (.ifCond .eq 7, 3) := by decide +kernel
theorem dX5_readByte_29 : decode cX5_readByte 29 = .ok (.iconst 1, 1) := by decide +kernel
theorem dX5_readByte_30 : decode cX5_readByte 30 = .ok (.goto 4, 3) := by decide +kernel
theorem dX5_readByte_33 : decode cX5_readByte 33 = .ok (.iconst 0, 1) := by decide +kernel
theorem dX5_readByte_34 : decode cX5_readByte 34 = .ok (.istore_n 3, 1) := by decide +kernel
theorem dX5_readByte_35 : decode cX5_readByte 35 = .ok (.iload_n 2, 1) := by decide +kernel
theorem dX5_readByte_36 : decode cX5_readByte 36 = .ok (.bipush 48, 2) := by decide +kernel
theorem dX5_readByte_38 : decode cX5_readByte 38 = .ok (.bipush 55, 2) := by decide +kernel
theorem dX5_readByte_40 : decode cX5_readByte 40 = .ok (.invokestatic 52, 3) := by decide +kernel
theorem dX5_readByte_43 : decode cX5_readByte 43 = .ok (.ifCond .eq 55, 3) := by decide +kernel
theorem dX5_readByte_46 : decode cX5_readByte 46 = .ok (.aload_n 0, 1) := by decide +kernel
theorem dX5_readByte_47 : decode cX5_readByte 47 = .ok (.getfield 183, 3) := by decide +kernel
theorem dX5_readByte_50 : decode cX5_readByte 50 = .ok (.bipush 10, 2) := by decide +kernel
theorem dX5_readByte_52 : decode cX5_readByte 52 = .ok (.if_icmp .ne 10, 3) := by decide +kernel
theorem dX5_readByte_55 : decode cX5_readByte 55 = .ok (.aload_n 0, 1) := by decide +kernel
theorem dX5_readByte_56 : decode cX5_readByte 56 = .ok (.iconst 2, 1) := by decide +kernel
theorem dX5_readByte_57 : decode cX5_readByte 57 = .ok (.iload_n 1, 1) := by decide +kernel
theorem dX5_readByte_58 : decode cX5_readByte 58 = .ok (.invokevirtual 186, 3) := by decide +kernel
theorem dX5_readByte_61 : decode cX5_readByte 61 = .ok (.return_, 1) := by decide +kernel
theorem dX5_readByte_62 : decode cX5_readByte 62 = .ok (.aload_n 0, 1) := by decide +kernel
theorem dX5_readByte_63 : decode cX5_readByte 63 = .ok (.getfield 42, 3) := by decide +kernel
theorem dX5_readByte_66 : decode cX5_readByte 66 = .ok (.aload_n 0, 1) := by decide +kernel
theorem dX5_readByte_67 : decode cX5_readByte 67 = .ok (.getfield 183, 3) := by decide +kernel
theorem dX5_readByte_70 : decode cX5_readByte 70 = .ok (.iload_n 2, 1) := by decide +kernel
theorem dX5_readByte_71 : decode cX5_readByte 71 = .ok (.bipush 48, 2) := by decide +kernel
theorem dX5_readByte_73 : decode cX5_readByte 73 = .ok (.isub, 1) := by decide +kernel
theorem dX5_readByte_74 : decode cX5_readByte 74 = .ok (.iastore, 1) := by decide +kernel
theorem dX5_readByte_75 : decode cX5_readByte 75 = .ok (.aload_n 0, 1) := by decide +kernel
theorem dX5_readByte_76 : decode cX5_readByte 76 = .ok (.getfield 45, 3) := by decide +kernel
theorem dX5_readByte_79 : decode cX5_readByte 79 = .ok (.aload_n 0, 1) := by decide +kernel
theorem dX5_readByte_80 : decode cX5_readByte 80 = .ok (.getfield 183, 3) := by decide +kernel
theorem dX5_readByte_83 : decode cX5_readByte 83 = .ok (.iconst 0, 1) := by decide +kernel
theorem dX5_readByte_84 : decode cX5_readByte 84 = .ok (.iastore, 1) := by decide +kernel
theorem dX5_readByte_85 : decode cX5_readByte 85 = .ok (.aload_n 0, 1) := by decide +kernel
theorem dX5_readByte_86 : decode cX5_readByte 86 = .ok (.dup, 1) := by decide +kernel
theorem dX5_readByte_87 : decode cX5_readByte 87 = .ok (.getfield 183, 3) := by decide +kernel
theorem dX5_readByte_90 : decode cX5_readByte 90 = .ok (.iconst 1, 1) := by decide +kernel
theorem dX5_readByte_91 : decode cX5_readByte 91 = .ok (.iadd, 1) := by decide +kernel
theorem dX5_readByte_92 : decode cX5_readByte 92 = .ok (.putfield 183, 3) := by decide +kernel
theorem dX5_readByte_95 : decode cX5_readByte 95 = .ok (.goto 40, 3) := by decide +kernel
theorem dX5_readByte_98 : decode cX5_readByte 98 = .ok (.iload_n 2, 1) := by decide +kernel
theorem dX5_readByte_99 : decode cX5_readByte 99 = .ok (.bipush 33, 2) := by decide +kernel
theorem dX5_readByte_101 : decode cX5_readByte 101 = .ok (.if_icmp .ne 22, 3) := by decide +kernel
theorem dX5_readByte_104 : decode cX5_readByte 104 = .ok (.iload_n 3, 1) := by decide +kernel
theorem dX5_readByte_105 : decode cX5_readByte 105 = .ok (.ifCond .eq 18, 3) := by decide +kernel
theorem dX5_readByte_108 : decode cX5_readByte 108 = .ok (.aload_n 0, 1) := by decide +kernel
theorem dX5_readByte_109 : decode cX5_readByte 109 = .ok (.getfield 45, 3) := by decide +kernel
theorem dX5_readByte_112 : decode cX5_readByte 112 = .ok (.aload_n 0, 1) := by decide +kernel
theorem dX5_readByte_113 : decode cX5_readByte 113 = .ok (.getfield 183, 3) := by decide +kernel
theorem dX5_readByte_116 : decode cX5_readByte 116 = .ok (.iconst 1, 1) := by decide +kernel
theorem dX5_readByte_117 : decode cX5_readByte 117 = .ok (.isub, 1) := by decide +kernel
theorem dX5_readByte_118 : decode cX5_readByte 118 = .ok (.iconst 1, 1) := by decide +kernel
theorem dX5_readByte_119 : decode cX5_readByte 119 = .ok (.iastore, 1) := by decide +kernel
theorem dX5_readByte_120 : decode cX5_readByte 120 = .ok (.goto 15, 3) := by decide +kernel
theorem dX5_readByte_123 : decode cX5_readByte 123 = .ok (.iload_n 2, 1) := by decide +kernel
theorem dX5_readByte_124 : decode cX5_readByte 124 = .ok (.bipush 32, 2) := by decide +kernel
theorem dX5_readByte_126 : decode cX5_readByte 126 = .ok (.if_icmp .eq 9, 3) := by decide +kernel
theorem dX5_readByte_129 : decode cX5_readByte 129 = .ok (.aload_n 0, 1) := by decide +kernel
theorem dX5_readByte_130 : decode cX5_readByte 130 = .ok (.iconst 1, 1) := by decide +kernel
theorem dX5_readByte_131 : decode cX5_readByte 131 = .ok (.iload_n 1, 1) := by decide +kernel
theorem dX5_readByte_132 : decode cX5_readByte 132 = .ok (.invokevirtual 186, 3) := by decide +kernel
theorem dX5_readByte_135 : decode cX5_readByte 135 = .ok (.return_, 1) := by decide +kernel
theorem dX5_readAll_0 : decode cX5_readAll 0 = .ok (.aload_n 0, 1) := by decide +kernel
theorem dX5_readAll_1 : decode cX5_readAll 1 = .ok (.iconst 0, 1) := by decide +kernel
theorem dX5_readAll_2 : decode cX5_readAll 2 = .ok (.putfield 183, 3) := by decide +kernel
theorem dX5_readAll_5 : decode cX5_readAll 5 = .ok (.aload_n 0, 1) := by decide +kernel
theorem dX5_readAll_6 : decode cX5_readAll 6 = .ok (.ldc 25, 2) := by decide +kernel
theorem dX5_readAll_8 : decode cX5_readAll 8 = .ok (.ldc 25, 2) := by decide +kernel
theorem dX5_readAll_10 : decode cX5_readAll 10 = .ok (.invokevirtual 186, 3) := by decide +kernel
theorem dX5_readAll_13 : decode cX5_readAll 13 = .ok (.iconst 0, 1) := by decide +kernel
theorem dX5_readAll_14 : decode cX5_readAll 14 = .ok (.istore_n 1, 1) := by decide +kernel
theorem dX5_readAll_15 : decode cX5_readAll 15 = .ok (.iload_n 1, 1) := by decide +kernel
theorem dX5_readAll_16 : decode cX5_readAll 16 = .ok (.aload_n 0, 1) := by decide +kernel
theorem dX5_readAll_17 : decode cX5_readAll 17 = .ok (.getfield 132, 3) := by decide +kernel
theorem dX5_readAll_20 : decode cX5_readAll 20 = .ok (.if_icmp .ge 23, 3) := by decide +kernel
theorem dX5_readAll_23 : decode cX5_readAll 23 = .ok (.aload_n 0, 1) := by decide +kernel
theorem dX5_readAll_24 : decode cX5_readAll 24 = .ok (.getfield 177, 3) := by decide +kernel
theorem dX5_readAll_27 : decode cX5_readAll 27 = .ok (.ldc 25, 2) := by decide +kernel
theorem dX5_readAll_29 : decode cX5_readAll 29 = .ok (.if_icmp .ne 14, 3) := by decide +kernel
theorem dX5_readAll_32 : decode cX5_readAll 32 = .ok (.aload_n 0, 1) := by decide +kernel
theorem dX5_readAll_33 : decode cX5_readAll 33 = .ok (.iload_n 1, 1) := by decide +kernel
theorem dX5_readAll_34 : decode cX5_readAll 34 = .ok (.invokevirtual 190, 3) := by decide +kernel
theorem dX5_readAll_37 : decode cX5_readAll 37 = .ok (.iinc 1 1, 3) := by decide +kernel
theorem dX5_readAll_40 : decode cX5_readAll 40 = .ok (.goto (-25), 3) := by decide +kernel
theorem dX5_readAll_43 : decode cX5_readAll 43 = .ok (.aload_n 0, 1) := by decide +kernel
theorem dX5_readAll_44 : decode cX5_readAll 44 = .ok (.getfield 177, 3) := by decide +kernel
theorem dX5_readAll_47 : decode cX5_readAll 47 = .ok (.ldc 25, 2) := by decide +kernel
theorem dX5_readAll_49 : decode cX5_readAll 49 = .ok (.if_icmp .ne 19, 3) := by decide +kernel
theorem dX5_readAll_52 : decode cX5_readAll 52 = .ok (.aload_n 0, 1) := by decide +kernel
theorem dX5_readAll_53 : decode cX5_readAll 53 = .ok (.getfield 183, 3) := by decide +kernel
theorem dX5_readAll_56 : decode cX5_readAll 56 = .ok (.ifCond .ne 12, 3) := by decide +kernel
theorem dX5_readAll_59 : decode cX5_readAll 59 = .ok (.aload_n 0, 1) := by decide +kernel
theorem dX5_readAll_60 : decode cX5_readAll 60 = .ok (.iconst 3, 1) := by decide +kernel
theorem dX5_readAll_61 : decode cX5_readAll 61 = .ok (.aload_n 0, 1) := by decide +kernel
theorem dX5_readAll_62 : decode cX5_readAll 62 = .ok (.getfield 132, 3) := by decide +kernel
theorem dX5_readAll_65 : decode cX5_readAll 65 = .ok (.invokevirtual 186, 3) := by decide +kernel
theorem dX5_readAll_68 : decode cX5_readAll 68 = .ok (.return_, 1) := by decide +kernel
theorem dX5_load_0 : decode cX5_load 0 = .ok (.aload_n 0, 1) := by decide +kernel
theorem dX5_load_1 : decode cX5_load 1 = .ok (.invokevirtual 193, 3) := by decide +kernel
theorem dX5_load_4 : decode cX5_load 4 = .ok (.aload_n 0, 1) := by decide +kernel
theorem dX5_load_5 : decode cX5_load 5 = .ok (.getfield 177, 3) := by decide +kernel
theorem dX5_load_8 : decode cX5_load 8 = .ok (.ldc 25, 2) := by decide +kernel
theorem dX5_load_10 : decode cX5_load 10 = .ok (.if_icmp .eq 22, 3) := by decide +kernel
theorem dX5_load_13 : decode cX5_load 13 = .ok (.aload_n 0, 1) := by decide +kernel
theorem dX5_load_14 : decode cX5_load 14 = .ok (.aload_n 0, 1) := by decide +kernel
theorem dX5_load_15 : decode cX5_load 15 = .ok (.getfield 177, 3) := by decide +kernel
theorem dX5_load_18 : decode cX5_load 18 = .ok (.putfield 26, 3) := by decide +kernel
theorem dX5_load_21 : decode cX5_load 21 = .ok (.aload_n 0, 1) := by decide +kernel
theorem dX5_load_22 : decode cX5_load 22 = .ok (.aload_n 0, 1) := by decide +kernel
theorem dX5_load_23 : decode cX5_load 23 = .ok (.getfield 180, 3) := by decide +kernel
theorem dX5_load_26 : decode cX5_load 26 = .ok (.putfield 30, 3) := by decide +kernel
theorem dX5_load_29 : decode cX5_load 29 = .ok (.ldc 59, 2) := by decide +kernel
theorem dX5_load_31 : decode cX5_load 31 = .ok (.ireturn, 1) := by decide +kernel
theorem dX5_load_32 : decode cX5_load 32 = .ok (.aload_n 0, 1) := by decide +kernel
theorem dX5_load_33 : decode cX5_load 33 = .ok (.invokevirtual 103, 3) := by decide +kernel
theorem dX5_load_36 : decode cX5_load 36 = .ok (.aload_n 0, 1) := by decide +kernel
theorem dX5_load_37 : decode cX5_load 37 = .ok (.invokevirtual 95, 3) := by decide +kernel
theorem dX5_load_40 : decode cX5_load 40 = .ok (.istore_n 1, 1) := by decide +kernel
theorem dX5_load_41 : decode cX5_load 41 = .ok (.aload_n 0, 1) := by decide +kernel
theorem dX5_load_42 : decode cX5_load 42 = .ok (.aload_n 0, 1) := by decide +kernel
theorem dX5_load_43 : decode cX5_load 43 = .ok (.getfield 183, 3) := by decide +kernel
theorem dX5_load_46 : decode cX5_load 46 = .ok (.invokevirtual 48, 3) := by decide +kernel
theorem dX5_load_49 : decode cX5_load 49 = .ok (.iconst 0, 1) := by decide +kernel
theorem dX5_load_50 : decode cX5_load 50 = .ok (.istore_n 2, 1) := by decide +kernel
theorem dX5_load_51 : decode cX5_load 51 = .ok (.iload_n 2, 1) := by decide +kernel
theorem dX5_load_52 : decode cX5_load 52 = .ok (.aload_n 0, 1) := by decide +kernel
theorem dX5_load_53 : decode cX5_load 53 = .ok (.getfield 183, 3) := by decide +kernel
theorem dX5_load_56 : decode cX5_load 56 = .ok (.if_icmp .ge 38, 3) := by decide +kernel
theorem dX5_load_59 : decode cX5_load 59 = .ok (.aload_n 0, 1) := by decide +kernel
theorem dX5_load_60 : decode cX5_load 60 = .ok (.getfield 7, 3) := by decide +kernel
theorem dX5_load_63 : decode cX5_load 63 = .ok (.iconst 1, 1) := by decide +kernel
theorem dX5_load_64 : decode cX5_load 64 = .ok (.iload_n 2, 1) := by decide +kernel
theorem dX5_load_65 : decode cX5_load 65 = .ok (.iadd, 1) := by decide +kernel
theorem dX5_load_66 : decode cX5_load 66 = .ok (.aload_n 0, 1) := by decide +kernel
theorem dX5_load_67 : decode cX5_load 67 = .ok (.getfield 42, 3) := by decide +kernel
theorem dX5_load_70 : decode cX5_load 70 = .ok (.iload_n 2, 1) := by decide +kernel
theorem dX5_load_71 : decode cX5_load 71 = .ok (.iaload, 1) := by decide +kernel
theorem dX5_load_72 : decode cX5_load 72 = .ok (.iastore, 1) := by decide +kernel
theorem dX5_load_73 : decode cX5_load 73 = .ok (.aload_n 0, 1) := by decide +kernel
theorem dX5_load_74 : decode cX5_load 74 = .ok (.getfield 7, 3) := by decide +kernel
theorem dX5_load_77 : decode cX5_load 77 = .ok (.bipush 11, 2) := by decide +kernel
theorem dX5_load_79 : decode cX5_load 79 = .ok (.iload_n 2, 1) := by decide +kernel
theorem dX5_load_80 : decode cX5_load 80 = .ok (.iadd, 1) := by decide +kernel
theorem dX5_load_81 : decode cX5_load 81 = .ok (.aload_n 0, 1) := by decide +kernel
theorem dX5_load_82 : decode cX5_load 82 = .ok (.getfield 45, 3) := by decide +kernel
theorem dX5_load_85 : decode cX5_load 85 = .ok (.iload_n 2, 1) := by decide +kernel
theorem dX5_load_86 : decode cX5_load 86 = .ok (.iaload, 1) := by decide +kernel
theorem dX5_load_87 : decode cX5_load 87 = .ok (.iastore, 1) := by decide +kernel
theorem dX5_load_88 : decode cX5_load 88 = .ok (.iinc 2 1, 3) := by decide +kernel
theorem dX5_load_91 : decode cX5_load 91 = .ok (.goto (-40), 3) := by decide +kernel
theorem dX5_load_94 : decode cX5_load 94 = .ok (.aload_n 0, 1) := by decide +kernel
theorem dX5_load_95 : decode cX5_load 95 = .ok (.iload_n 1, 1) := by decide +kernel
theorem dX5_load_96 : decode cX5_load 96 = .ok (.invokevirtual 107, 3) := by decide +kernel
theorem dX5_load_99 : decode cX5_load 99 = .ok (.istore_n 2, 1) := by decide +kernel
theorem dX5_load_100 : decode cX5_load 100 = .ok (.aload_n 0, 1) := by decide +kernel
theorem dX5_load_101 : decode cX5_load 101 = .ok (.getfield 7, 3) := by decide +kernel
theorem dX5_load_104 : decode cX5_load 104 = .ok (.iconst 0, 1) := by decide +kernel
theorem dX5_load_105 : decode cX5_load 105 = .ok (.iaload, 1) := by decide +kernel
theorem dX5_load_106 : decode cX5_load 106 = .ok (.ireturn, 1) := by decide +kernel
theorem dX5_fault_0 : decode cX5_fault 0 = .ok (.iload_n 1, 1) := by decide +kernel
theorem dX5_fault_1 : decode cX5_fault 1 = .ok (.iconst 0, 1) := by decide +kernel
theorem dX5_fault_2 : decode cX5_fault 2 = .ok (.iconst 1, 1) := by decide +kernel
theorem dX5_fault_3 : decode cX5_fault 3 = .ok (.invokestatic 52, 3) := by decide +kernel
theorem dX5_fault_6 : decode cX5_fault 6 = .ok (.ifCond .ne 8, 3) := by decide +kernel
theorem dX5_fault_9 : decode cX5_fault 9 = .ok (.ldc 102, 2) := by decide +kernel
theorem dX5_fault_11 : decode cX5_fault 11 = .ok (.goto 18, 3) := by decide +kernel
theorem dX5_fault_14 : decode cX5_fault 14 = .ok (.iload_n 1, 1) := by decide +kernel
theorem dX5_fault_15 : decode cX5_fault 15 = .ok (.ifCond .ne 10, 3) := by decide +kernel
theorem dX5_fault_18 : decode cX5_fault 18 = .ok (.aload_n 0, 1) := by decide +kernel
theorem dX5_fault_19 : decode cX5_fault 19 = .ok (.getfield 26, 3) := by decide +kernel
theorem dX5_fault_22 : decode cX5_fault 22 = .ok (.goto 7, 3) := by decide +kernel
theorem dX5_fault_25 : decode cX5_fault 25 = .ok (.aload_n 0, 1) := by decide +kernel
theorem dX5_fault_26 : decode cX5_fault 26 = .ok (.getfield 30, 3) := by decide +kernel
theorem dX5_fault_29 : decode cX5_fault 29 = .ok (.ireturn, 1) := by decide +kernel
theorem dX5_isImage_0 : decode cX5_isImage 0 = .ok (.iload_n 0, 1) := by decide +kernel
theorem dX5_isImage_1 : decode cX5_isImage 1 = .ok (.iconst 0, 1) := by decide +kernel
theorem dX5_isImage_2 : decode cX5_isImage 2 = .ok (.iconst 1, 1) := by decide +kernel
theorem dX5_isImage_3 : decode cX5_isImage 3 = .ok (.invokestatic 52, 3) := by decide +kernel
theorem dX5_isImage_6 : decode cX5_isImage 6 = .ok (.ireturn, 1) := by decide +kernel
theorem dX5_keep_0 : decode cX5_keep 0 = .ok (.iload_n 1, 1) := by decide +kernel
theorem dX5_keep_1 : decode cX5_keep 1 = .ok (.invokestatic 196, 3) := by decide +kernel
theorem dX5_keep_4 : decode cX5_keep 4 = .ok (.ifCond .ne 6, 3) := by decide +kernel
theorem dX5_keep_7 : decode cX5_keep 7 = .ok (.ldc 102, 2) := by decide +kernel
theorem dX5_keep_9 : decode cX5_keep 9 = .ok (.ireturn, 1) := by decide +kernel
theorem dX5_keep_10 : decode cX5_keep 10 = .ok (.iconst 0, 1) := by decide +kernel
theorem dX5_keep_11 : decode cX5_keep 11 = .ok (.istore_n 2, 1) := by decide +kernel
theorem dX5_keep_12 : decode cX5_keep 12 = .ok (.iload_n 2, 1) := by decide +kernel
theorem dX5_keep_13 : decode cX5_keep 13 = .ok (.sipush 130, 3) := by decide +kernel
theorem dX5_keep_16 : decode cX5_keep 16 = .ok (.if_icmp .ge 27, 3) := by decide +kernel
theorem dX5_keep_19 : decode cX5_keep 19 = .ok (.aload_n 0, 1) := by decide +kernel
theorem dX5_keep_20 : decode cX5_keep 20 = .ok (.getfield 16, 3) := by decide +kernel
theorem dX5_keep_23 : decode cX5_keep 23 = .ok (.sipush 130, 3) := by decide +kernel
theorem dX5_keep_26 : decode cX5_keep 26 = .ok (.iload_n 1, 1) := by decide +kernel
theorem dX5_keep_27 : decode cX5_keep 27 = .ok (.imul, 1) := by decide +kernel
theorem dX5_keep_28 : decode cX5_keep 28 = .ok (.iload_n 2, 1) := by decide +kernel
theorem dX5_keep_29 : decode cX5_keep 29 = .ok (.iadd, 1) := by decide +kernel
theorem dX5_keep_30 : decode cX5_keep 30 = .ok (.aload_n 0, 1) := by decide +kernel
theorem dX5_keep_31 : decode cX5_keep 31 = .ok (.getfield 7, 3) := by decide +kernel
theorem dX5_keep_34 : decode cX5_keep 34 = .ok (.iload_n 2, 1) := by decide +kernel
theorem dX5_keep_35 : decode cX5_keep 35 = .ok (.iaload, 1) := by decide +kernel
theorem dX5_keep_36 : decode cX5_keep 36 = .ok (.iastore, 1) := by decide +kernel
theorem dX5_keep_37 : decode cX5_keep 37 = .ok (.iinc 2 1, 3) := by decide +kernel
theorem dX5_keep_40 : decode cX5_keep 40 = .ok (.goto (-28), 3) := by decide +kernel
theorem dX5_keep_43 : decode cX5_keep 43 = .ok (.aload_n 0, 1) := by decide +kernel
theorem dX5_keep_44 : decode cX5_keep 44 = .ok (.getfield 19, 3) := by decide +kernel
theorem dX5_keep_47 : decode cX5_keep 47 = .ok (.iload_n 1, 1) := by decide +kernel
theorem dX5_keep_48 : decode cX5_keep 48 = .ok (.iconst 1, 1) := by decide +kernel
theorem dX5_keep_49 : decode cX5_keep 49 = .ok (.iastore, 1) := by decide +kernel
theorem dX5_keep_50 : decode cX5_keep 50 = .ok (.aload_n 0, 1) := by decide +kernel
theorem dX5_keep_51 : decode cX5_keep 51 = .ok (.getfield 7, 3) := by decide +kernel
theorem dX5_keep_54 : decode cX5_keep 54 = .ok (.iconst 0, 1) := by decide +kernel
theorem dX5_keep_55 : decode cX5_keep 55 = .ok (.iaload, 1) := by decide +kernel
theorem dX5_keep_56 : decode cX5_keep 56 = .ok (.ireturn, 1) := by decide +kernel
theorem dX5_back_0 : decode cX5_back 0 = .ok (.iload_n 1, 1) := by decide +kernel
theorem dX5_back_1 : decode cX5_back 1 = .ok (.invokestatic 196, 3) := by decide +kernel
theorem dX5_back_4 : decode cX5_back 4 = .ok (.ifCond .ne 6, 3) := by decide +kernel
theorem dX5_back_7 : decode cX5_back 7 = .ok (.ldc 102, 2) := by decide +kernel
theorem dX5_back_9 : decode cX5_back 9 = .ok (.ireturn, 1) := by decide +kernel
theorem dX5_back_10 : decode cX5_back 10 = .ok (.aload_n 0, 1) := by decide +kernel
theorem dX5_back_11 : decode cX5_back 11 = .ok (.getfield 19, 3) := by decide +kernel
theorem dX5_back_14 : decode cX5_back 14 = .ok (.iload_n 1, 1) := by decide +kernel
theorem dX5_back_15 : decode cX5_back 15 = .ok (.iaload, 1) := by decide +kernel
theorem dX5_back_16 : decode cX5_back 16 = .ok (.ifCond .ne 6, 3) := by decide +kernel
theorem dX5_back_19 : decode cX5_back 19 = .ok (.ldc 59, 2) := by decide +kernel
theorem dX5_back_21 : decode cX5_back 21 = .ok (.ireturn, 1) := by decide +kernel
theorem dX5_back_22 : decode cX5_back 22 = .ok (.aload_n 0, 1) := by decide +kernel
theorem dX5_back_23 : decode cX5_back 23 = .ok (.invokevirtual 103, 3) := by decide +kernel
theorem dX5_back_26 : decode cX5_back 26 = .ok (.iconst 0, 1) := by decide +kernel
theorem dX5_back_27 : decode cX5_back 27 = .ok (.istore_n 2, 1) := by decide +kernel
theorem dX5_back_28 : decode cX5_back 28 = .ok (.iload_n 2, 1) := by decide +kernel
theorem dX5_back_29 : decode cX5_back 29 = .ok (.sipush 130, 3) := by decide +kernel
theorem dX5_back_32 : decode cX5_back 32 = .ok (.if_icmp .ge 27, 3) := by decide +kernel
theorem dX5_back_35 : decode cX5_back 35 = .ok (.aload_n 0, 1) := by decide +kernel
theorem dX5_back_36 : decode cX5_back 36 = .ok (.getfield 7, 3) := by decide +kernel
theorem dX5_back_39 : decode cX5_back 39 = .ok (.iload_n 2, 1) := by decide +kernel
theorem dX5_back_40 : decode cX5_back 40 = .ok (.aload_n 0, 1) := by decide +kernel
theorem dX5_back_41 : decode cX5_back 41 = .ok (.getfield 16, 3) := by decide +kernel
theorem dX5_back_44 : decode cX5_back 44 = .ok (.sipush 130, 3) := by decide +kernel
theorem dX5_back_47 : decode cX5_back 47 = .ok (.iload_n 1, 1) := by decide +kernel
theorem dX5_back_48 : decode cX5_back 48 = .ok (.imul, 1) := by decide +kernel
theorem dX5_back_49 : decode cX5_back 49 = .ok (.iload_n 2, 1) := by decide +kernel
theorem dX5_back_50 : decode cX5_back 50 = .ok (.iadd, 1) := by decide +kernel
theorem dX5_back_51 : decode cX5_back 51 = .ok (.iaload, 1) := by decide +kernel
theorem dX5_back_52 : decode cX5_back 52 = .ok (.iastore, 1) := by decide +kernel
theorem dX5_back_53 : decode cX5_back 53 = .ok (.iinc 2 1, 3) := by decide +kernel
theorem dX5_back_56 : decode cX5_back 56 = .ok (.goto (-28), 3) := by decide +kernel
theorem dX5_back_59 : decode cX5_back 59 = .ok (.aload_n 0, 1) := by decide +kernel
theorem dX5_back_60 : decode cX5_back 60 = .ok (.getfield 7, 3) := by decide +kernel
theorem dX5_back_63 : decode cX5_back 63 = .ok (.iconst 0, 1) := by decide +kernel
theorem dX5_back_64 : decode cX5_back 64 = .ok (.iaload, 1) := by decide +kernel
theorem dX5_back_65 : decode cX5_back 65 = .ok (.ireturn, 1) := by decide +kernel
theorem dJ9_max_7cf53_0 : decode cJ9_max_7cf53 0 = .ok (.iload_n 0, 1) := by decide +kernel
theorem dJ9_max_7cf53_1 : decode cJ9_max_7cf53 1 = .ok (.iload_n 1, 1) := by decide +kernel
theorem dJ9_max_7cf53_2 : decode cJ9_max_7cf53 2 = .ok (.if_icmp .lt 7, 3) := by decide +kernel
theorem dJ9_max_7cf53_5 : decode cJ9_max_7cf53 5 = .ok (.iload_n 0, 1) := by decide +kernel
theorem dJ9_max_7cf53_6 : decode cJ9_max_7cf53 6 = .ok (.goto 4, 3) := by decide +kernel
theorem dJ9_max_7cf53_9 : decode cJ9_max_7cf53 9 = .ok (.iload_n 1, 1) := by decide +kernel
theorem dJ9_max_7cf53_10 : decode cJ9_max_7cf53 10 = .ok (.ireturn, 1) := by decide +kernel
theorem dJ7_fill_53178_0 : decode cJ7_fill_53178 0 = .ok (.iconst 0, 1) := by decide +kernel
theorem dJ7_fill_53178_1 : decode cJ7_fill_53178 1 = .ok (.istore_n 2, 1) := by decide +kernel
theorem dJ7_fill_53178_2 : decode cJ7_fill_53178 2 = .ok (.aload_n 0, 1) := by decide +kernel
theorem dJ7_fill_53178_3 : decode cJ7_fill_53178 3 = .ok (.arraylength, 1) := by decide +kernel
theorem dJ7_fill_53178_4 : decode cJ7_fill_53178 4 = .ok (.istore_n 3, 1) := by decide +kernel
theorem dJ7_fill_53178_5 : decode cJ7_fill_53178 5 = .ok (.iload_n 2, 1) := by decide +kernel
theorem dJ7_fill_53178_6 : decode cJ7_fill_53178 6 = .ok (.iload_n 3, 1) := by decide +kernel
theorem dJ7_fill_53178_7 : decode cJ7_fill_53178 7 = .ok (.if_icmp .ge 13, 3) := by decide +kernel
theorem dJ7_fill_53178_10 : decode cJ7_fill_53178 10 = .ok (.aload_n 0, 1) := by decide +kernel
theorem dJ7_fill_53178_11 : decode cJ7_fill_53178 11 = .ok (.iload_n 2, 1) := by decide +kernel
theorem dJ7_fill_53178_12 : decode cJ7_fill_53178 12 = .ok (.iload_n 1, 1) := by decide +kernel
theorem dJ7_fill_53178_13 : decode cJ7_fill_53178 13 = .ok (.iastore, 1) := by decide +kernel
theorem dJ7_fill_53178_14 : decode cJ7_fill_53178 14 = .ok (.iinc 2 1, 3) := by decide +kernel
theorem dJ7_fill_53178_17 : decode cJ7_fill_53178 17 = .ok (.goto (-12), 3) := by decide +kernel
theorem dJ7_fill_53178_20 : decode cJ7_fill_53178 20 = .ok (.return_, 1) := by decide +kernel
theorem dL_law_0 : decode cL_law 0 = .ok (.new 7, 3) := by decide +kernel
theorem dL_law_3 : decode cL_law 3 = .ok (.dup, 1) := by decide +kernel
theorem dL_law_4 : decode cL_law 4 = .ok (.invokespecial 9, 3) := by decide +kernel
theorem dL_law_7 : decode cL_law 7 = .ok (.astore_n 1, 1) := by decide +kernel
theorem dL_law_8 : decode cL_law 8 = .ok (.new 10, 3) := by decide +kernel
theorem dL_law_11 : decode cL_law 11 = .ok (.dup, 1) := by decide +kernel
theorem dL_law_12 : decode cL_law 12 = .ok (.invokespecial 12, 3) := by decide +kernel
theorem dL_law_15 : decode cL_law 15 = .ok (.astore_n 2, 1) := by decide +kernel
theorem dL_law_16 : decode cL_law 16 = .ok (.iconst 0, 1) := by decide +kernel
theorem dL_law_17 : decode cL_law 17 = .ok (.istore_n 3, 1) := by decide +kernel
theorem dL_law_18 : decode cL_law 18 = .ok (.iload_n 3, 1) := by decide +kernel
theorem dL_law_19 : decode cL_law 19 = .ok (.aload_n 0, 1) := by decide +kernel
theorem dL_law_20 : decode cL_law 20 = .ok (.arraylength, 1) := by decide +kernel
theorem dL_law_21 : decode cL_law 21 = .ok (.iconst 4, 1) := by decide +kernel
theorem dL_law_22 : decode cL_law 22 = .ok (.isub, 1) := by decide +kernel
theorem dL_law_23 : decode cL_law 23 = .ok (.if_icmp .gt 759, 3) := by decide +kernel
theorem dL_law_26 : decode cL_law 26 = .ok (.aload_n 0, 1) := by decide +kernel
theorem dL_law_27 : decode cL_law 27 = .ok (.iload_n 3, 1) := by decide +kernel
theorem dL_law_28 : decode cL_law 28 = .ok (.iaload, 1) := by decide +kernel
theorem dL_law_29 : decode cL_law 29 = .ok (.bipush 31, 2) := by decide +kernel
theorem dL_law_31 : decode cL_law 31 = .ok (.iand, 1) := by decide +kernel
theorem dL_law_32 : decode cL_law 32 = .ok (.tableswitch 744 0 23 #[112, 135, 168, 191, 204, 217, 250, 283, 316, 349, 362, 385, 418, 451, 474, 517, 550, 593, 626, 649, 662, 675, 698, 721], 112) := by decide +kernel
theorem dL_law_144 : decode cL_law 144 = .ok (.aload_n 1, 1) := by decide +kernel
theorem dL_law_145 : decode cL_law 145 = .ok (.aload_n 0, 1) := by decide +kernel
theorem dL_law_146 : decode cL_law 146 = .ok (.iload_n 3, 1) := by decide +kernel
theorem dL_law_147 : decode cL_law 147 = .ok (.iconst 1, 1) := by decide +kernel
theorem dL_law_148 : decode cL_law 148 = .ok (.iadd, 1) := by decide +kernel
theorem dL_law_149 : decode cL_law 149 = .ok (.iaload, 1) := by decide +kernel
theorem dL_law_150 : decode cL_law 150 = .ok (.invokevirtual 13, 3) := by decide +kernel
theorem dL_law_153 : decode cL_law 153 = .ok (.aload_n 2, 1) := by decide +kernel
theorem dL_law_154 : decode cL_law 154 = .ok (.aload_n 0, 1) := by decide +kernel
theorem dL_law_155 : decode cL_law 155 = .ok (.iload_n 3, 1) := by decide +kernel
theorem dL_law_156 : decode cL_law 156 = .ok (.iconst 1, 1) := by decide +kernel
theorem dL_law_157 : decode cL_law 157 = .ok (.iadd, 1) := by decide +kernel
theorem dL_law_158 : decode cL_law 158 = .ok (.iaload, 1) := by decide +kernel
theorem dL_law_159 : decode cL_law 159 = .ok (.invokevirtual 17, 3) := by decide +kernel
theorem dL_law_162 : decode cL_law 162 = .ok (.if_icmp .eq 614, 3) := by decide +kernel
theorem dL_law_165 : decode cL_law 165 = .ok (.iconst 0, 1) := by decide +kernel
theorem dL_law_166 : decode cL_law 166 = .ok (.ireturn, 1) := by decide +kernel
theorem dL_law_167 : decode cL_law 167 = .ok (.aload_n 1, 1) := by decide +kernel
theorem dL_law_168 : decode cL_law 168 = .ok (.aload_n 0, 1) := by decide +kernel
theorem dL_law_169 : decode cL_law 169 = .ok (.iload_n 3, 1) := by decide +kernel
theorem dL_law_170 : decode cL_law 170 = .ok (.iconst 1, 1) := by decide +kernel
theorem dL_law_171 : decode cL_law 171 = .ok (.iadd, 1) := by decide +kernel
theorem dL_law_172 : decode cL_law 172 = .ok (.iaload, 1) := by decide +kernel
theorem dL_law_173 : decode cL_law 173 = .ok (.aload_n 0, 1) := by decide +kernel
theorem dL_law_174 : decode cL_law 174 = .ok (.iload_n 3, 1) := by decide +kernel
theorem dL_law_175 : decode cL_law 175 = .ok (.iconst 2, 1) := by decide +kernel
theorem dL_law_176 : decode cL_law 176 = .ok (.iadd, 1) := by decide +kernel
theorem dL_law_177 : decode cL_law 177 = .ok (.iaload, 1) := by decide +kernel
theorem dL_law_178 : decode cL_law 178 = .ok (.invokevirtual 18, 3) := by decide +kernel
theorem dL_law_181 : decode cL_law 181 = .ok (.aload_n 2, 1) := by decide +kernel
theorem dL_law_182 : decode cL_law 182 = .ok (.aload_n 0, 1) := by decide +kernel
theorem dL_law_183 : decode cL_law 183 = .ok (.iload_n 3, 1) := by decide +kernel
theorem dL_law_184 : decode cL_law 184 = .ok (.iconst 1, 1) := by decide +kernel
theorem dL_law_185 : decode cL_law 185 = .ok (.iadd, 1) := by decide +kernel
theorem dL_law_186 : decode cL_law 186 = .ok (.iaload, 1) := by decide +kernel
theorem dL_law_187 : decode cL_law 187 = .ok (.aload_n 0, 1) := by decide +kernel
theorem dL_law_188 : decode cL_law 188 = .ok (.iload_n 3, 1) := by decide +kernel
theorem dL_law_189 : decode cL_law 189 = .ok (.iconst 2, 1) := by decide +kernel
theorem dL_law_190 : decode cL_law 190 = .ok (.iadd, 1) := by decide +kernel
theorem dL_law_191 : decode cL_law 191 = .ok (.iaload, 1) := by decide +kernel
theorem dL_law_192 : decode cL_law 192 = .ok (.invokevirtual 22, 3) := by decide +kernel
theorem dL_law_195 : decode cL_law 195 = .ok (.if_icmp .eq 581, 3) := by decide +kernel
theorem dL_law_198 : decode cL_law 198 = .ok (.iconst 0, 1) := by decide +kernel
theorem dL_law_199 : decode cL_law 199 = .ok (.ireturn, 1) := by decide +kernel
theorem dL_law_200 : decode cL_law 200 = .ok (.aload_n 1, 1) := by decide +kernel
theorem dL_law_201 : decode cL_law 201 = .ok (.aload_n 0, 1) := by decide +kernel
theorem dL_law_202 : decode cL_law 202 = .ok (.iload_n 3, 1) := by decide +kernel
theorem dL_law_203 : decode cL_law 203 = .ok (.iconst 1, 1) := by decide +kernel
theorem dL_law_204 : decode cL_law 204 = .ok (.iadd, 1) := by decide +kernel
theorem dL_law_205 : decode cL_law 205 = .ok (.iaload, 1) := by decide +kernel
theorem dL_law_206 : decode cL_law 206 = .ok (.invokevirtual 23, 3) := by decide +kernel
theorem dL_law_209 : decode cL_law 209 = .ok (.aload_n 2, 1) := by decide +kernel
theorem dL_law_210 : decode cL_law 210 = .ok (.aload_n 0, 1) := by decide +kernel
theorem dL_law_211 : decode cL_law 211 = .ok (.iload_n 3, 1) := by decide +kernel
theorem dL_law_212 : decode cL_law 212 = .ok (.iconst 1, 1) := by decide +kernel
theorem dL_law_213 : decode cL_law 213 = .ok (.iadd, 1) := by decide +kernel
theorem dL_law_214 : decode cL_law 214 = .ok (.iaload, 1) := by decide +kernel
theorem dL_law_215 : decode cL_law 215 = .ok (.invokevirtual 26, 3) := by decide +kernel
theorem dL_law_218 : decode cL_law 218 = .ok (.if_icmp .eq 558, 3) := by decide +kernel
theorem dL_law_221 : decode cL_law 221 = .ok (.iconst 0, 1) := by decide +kernel
theorem dL_law_222 : decode cL_law 222 = .ok (.ireturn, 1) := by decide +kernel
theorem dL_law_223 : decode cL_law 223 = .ok (.aload_n 1, 1) := by decide +kernel
theorem dL_law_224 : decode cL_law 224 = .ok (.invokevirtual 27, 3) := by decide +kernel
theorem dL_law_227 : decode cL_law 227 = .ok (.aload_n 2, 1) := by decide +kernel
theorem dL_law_228 : decode cL_law 228 = .ok (.invokevirtual 31, 3) := by decide +kernel
theorem dL_law_231 : decode cL_law 231 = .ok (.if_icmp .eq 545, 3) := by decide +kernel
theorem dL_law_234 : decode cL_law 234 = .ok (.iconst 0, 1) := by decide +kernel
theorem dL_law_235 : decode cL_law 235 = .ok (.ireturn, 1) := by decide +kernel
theorem dL_law_236 : decode cL_law 236 = .ok (.aload_n 1, 1) := by decide +kernel
theorem dL_law_237 : decode cL_law 237 = .ok (.invokevirtual 32, 3) := by decide +kernel
theorem dL_law_240 : decode cL_law 240 = .ok (.aload_n 2, 1) := by decide +kernel
theorem dL_law_241 : decode cL_law 241 = .ok (.invokevirtual 35, 3) := by decide +kernel
theorem dL_law_244 : decode cL_law 244 = .ok (.if_icmp .eq 532, 3) := by decide +kernel
theorem dL_law_247 : decode cL_law 247 = .ok (.iconst 0, 1) := by decide +kernel
theorem dL_law_248 : decode cL_law 248 = .ok (.ireturn, 1) := by decide +kernel
theorem dL_law_249 : decode cL_law 249 = .ok (.aload_n 1, 1) := by decide +kernel
theorem dL_law_250 : decode cL_law 250 = .ok (.aload_n 0, 1) := by decide +kernel
theorem dL_law_251 : decode cL_law 251 = .ok (.iload_n 3, 1) := by decide +kernel
theorem dL_law_252 : decode cL_law 252 = .ok (.iconst 1, 1) := by decide +kernel
theorem dL_law_253 : decode cL_law 253 = .ok (.iadd, 1) := by decide +kernel
theorem dL_law_254 : decode cL_law 254 = .ok (.iaload, 1) := by decide +kernel
theorem dL_law_255 : decode cL_law 255 = .ok (.aload_n 0, 1) := by decide +kernel
theorem dL_law_256 : decode cL_law 256 = .ok (.iload_n 3, 1) := by decide +kernel
theorem dL_law_257 : decode cL_law 257 = .ok (.iconst 2, 1) := by decide +kernel
theorem dL_law_258 : decode cL_law 258 = .ok (.iadd, 1) := by decide +kernel
theorem dL_law_259 : decode cL_law 259 = .ok (.iaload, 1) := by decide +kernel
theorem dL_law_260 : decode cL_law 260 = .ok (.invokevirtual 36, 3) := by decide +kernel
theorem dL_law_263 : decode cL_law 263 = .ok (.aload_n 2, 1) := by decide +kernel
theorem dL_law_264 : decode cL_law 264 = .ok (.aload_n 0, 1) := by decide +kernel
theorem dL_law_265 : decode cL_law 265 = .ok (.iload_n 3, 1) := by decide +kernel
theorem dL_law_266 : decode cL_law 266 = .ok (.iconst 1, 1) := by decide +kernel
theorem dL_law_267 : decode cL_law 267 = .ok (.iadd, 1) := by decide +kernel
theorem dL_law_268 : decode cL_law 268 = .ok (.iaload, 1) := by decide +kernel
theorem dL_law_269 : decode cL_law 269 = .ok (.aload_n 0, 1) := by decide +kernel
theorem dL_law_270 : decode cL_law 270 = .ok (.iload_n 3, 1) := by decide +kernel
theorem dL_law_271 : decode cL_law 271 = .ok (.iconst 2, 1) := by decide +kernel
theorem dL_law_272 : decode cL_law 272 = .ok (.iadd, 1) := by decide +kernel
theorem dL_law_273 : decode cL_law 273 = .ok (.iaload, 1) := by decide +kernel
theorem dL_law_274 : decode cL_law 274 = .ok (.invokevirtual 39, 3) := by decide +kernel
theorem dL_law_277 : decode cL_law 277 = .ok (.if_icmp .eq 499, 3) := by decide +kernel
theorem dL_law_280 : decode cL_law 280 = .ok (.iconst 0, 1) := by decide +kernel
theorem dL_law_281 : decode cL_law 281 = .ok (.ireturn, 1) := by decide +kernel
theorem dL_law_282 : decode cL_law 282 = .ok (.aload_n 1, 1) := by decide +kernel
theorem dL_law_283 : decode cL_law 283 = .ok (.aload_n 0, 1) := by decide +kernel
theorem dL_law_284 : decode cL_law 284 = .ok (.iload_n 3, 1) := by decide +kernel
theorem dL_law_285 : decode cL_law 285 = .ok (.iconst 1, 1) := by decide +kernel
theorem dL_law_286 : decode cL_law 286 = .ok (.iadd, 1) := by decide +kernel
theorem dL_law_287 : decode cL_law 287 = .ok (.iaload, 1) := by decide +kernel
theorem dL_law_288 : decode cL_law 288 = .ok (.aload_n 0, 1) := by decide +kernel
theorem dL_law_289 : decode cL_law 289 = .ok (.iload_n 3, 1) := by decide +kernel
theorem dL_law_290 : decode cL_law 290 = .ok (.iconst 2, 1) := by decide +kernel
theorem dL_law_291 : decode cL_law 291 = .ok (.iadd, 1) := by decide +kernel
theorem dL_law_292 : decode cL_law 292 = .ok (.iaload, 1) := by decide +kernel
theorem dL_law_293 : decode cL_law 293 = .ok (.invokevirtual 40, 3) := by decide +kernel
theorem dL_law_296 : decode cL_law 296 = .ok (.aload_n 2, 1) := by decide +kernel
theorem dL_law_297 : decode cL_law 297 = .ok (.aload_n 0, 1) := by decide +kernel
theorem dL_law_298 : decode cL_law 298 = .ok (.iload_n 3, 1) := by decide +kernel
theorem dL_law_299 : decode cL_law 299 = .ok (.iconst 1, 1) := by decide +kernel
theorem dL_law_300 : decode cL_law 300 = .ok (.iadd, 1) := by decide +kernel
theorem dL_law_301 : decode cL_law 301 = .ok (.iaload, 1) := by decide +kernel
theorem dL_law_302 : decode cL_law 302 = .ok (.aload_n 0, 1) := by decide +kernel
theorem dL_law_303 : decode cL_law 303 = .ok (.iload_n 3, 1) := by decide +kernel
theorem dL_law_304 : decode cL_law 304 = .ok (.iconst 2, 1) := by decide +kernel
theorem dL_law_305 : decode cL_law 305 = .ok (.iadd, 1) := by decide +kernel
theorem dL_law_306 : decode cL_law 306 = .ok (.iaload, 1) := by decide +kernel
theorem dL_law_307 : decode cL_law 307 = .ok (.invokevirtual 43, 3) := by decide +kernel
theorem dL_law_310 : decode cL_law 310 = .ok (.if_icmp .eq 466, 3) := by decide +kernel
theorem dL_law_313 : decode cL_law 313 = .ok (.iconst 0, 1) := by decide +kernel
theorem dL_law_314 : decode cL_law 314 = .ok (.ireturn, 1) := by decide +kernel
theorem dL_law_315 : decode cL_law 315 = .ok (.aload_n 1, 1) := by decide +kernel
theorem dL_law_316 : decode cL_law 316 = .ok (.aload_n 0, 1) := by decide +kernel
theorem dL_law_317 : decode cL_law 317 = .ok (.iload_n 3, 1) := by decide +kernel
theorem dL_law_318 : decode cL_law 318 = .ok (.iconst 1, 1) := by decide +kernel
theorem dL_law_319 : decode cL_law 319 = .ok (.iadd, 1) := by decide +kernel
theorem dL_law_320 : decode cL_law 320 = .ok (.iaload, 1) := by decide +kernel
theorem dL_law_321 : decode cL_law 321 = .ok (.aload_n 0, 1) := by decide +kernel
theorem dL_law_322 : decode cL_law 322 = .ok (.iload_n 3, 1) := by decide +kernel
theorem dL_law_323 : decode cL_law 323 = .ok (.iconst 2, 1) := by decide +kernel
theorem dL_law_324 : decode cL_law 324 = .ok (.iadd, 1) := by decide +kernel
theorem dL_law_325 : decode cL_law 325 = .ok (.iaload, 1) := by decide +kernel
theorem dL_law_326 : decode cL_law 326 = .ok (.invokevirtual 44, 3) := by decide +kernel
theorem dL_law_329 : decode cL_law 329 = .ok (.aload_n 2, 1) := by decide +kernel
theorem dL_law_330 : decode cL_law 330 = .ok (.aload_n 0, 1) := by decide +kernel
theorem dL_law_331 : decode cL_law 331 = .ok (.iload_n 3, 1) := by decide +kernel
theorem dL_law_332 : decode cL_law 332 = .ok (.iconst 1, 1) := by decide +kernel
theorem dL_law_333 : decode cL_law 333 = .ok (.iadd, 1) := by decide +kernel
theorem dL_law_334 : decode cL_law 334 = .ok (.iaload, 1) := by decide +kernel
theorem dL_law_335 : decode cL_law 335 = .ok (.aload_n 0, 1) := by decide +kernel
theorem dL_law_336 : decode cL_law 336 = .ok (.iload_n 3, 1) := by decide +kernel
theorem dL_law_337 : decode cL_law 337 = .ok (.iconst 2, 1) := by decide +kernel
theorem dL_law_338 : decode cL_law 338 = .ok (.iadd, 1) := by decide +kernel
theorem dL_law_339 : decode cL_law 339 = .ok (.iaload, 1) := by decide +kernel
theorem dL_law_340 : decode cL_law 340 = .ok (.invokevirtual 47, 3) := by decide +kernel
theorem dL_law_343 : decode cL_law 343 = .ok (.if_icmp .eq 433, 3) := by decide +kernel
theorem dL_law_346 : decode cL_law 346 = .ok (.iconst 0, 1) := by decide +kernel
theorem dL_law_347 : decode cL_law 347 = .ok (.ireturn, 1) := by decide +kernel
theorem dL_law_348 : decode cL_law 348 = .ok (.aload_n 1, 1) := by decide +kernel
theorem dL_law_349 : decode cL_law 349 = .ok (.aload_n 0, 1) := by decide +kernel
theorem dL_law_350 : decode cL_law 350 = .ok (.iload_n 3, 1) := by decide +kernel
theorem dL_law_351 : decode cL_law 351 = .ok (.iconst 1, 1) := by decide +kernel
theorem dL_law_352 : decode cL_law 352 = .ok (.iadd, 1) := by decide +kernel
theorem dL_law_353 : decode cL_law 353 = .ok (.iaload, 1) := by decide +kernel
theorem dL_law_354 : decode cL_law 354 = .ok (.aload_n 0, 1) := by decide +kernel
theorem dL_law_355 : decode cL_law 355 = .ok (.iload_n 3, 1) := by decide +kernel
theorem dL_law_356 : decode cL_law 356 = .ok (.iconst 2, 1) := by decide +kernel
theorem dL_law_357 : decode cL_law 357 = .ok (.iadd, 1) := by decide +kernel
theorem dL_law_358 : decode cL_law 358 = .ok (.iaload, 1) := by decide +kernel
theorem dL_law_359 : decode cL_law 359 = .ok (.invokevirtual 48, 3) := by decide +kernel
theorem dL_law_362 : decode cL_law 362 = .ok (.aload_n 2, 1) := by decide +kernel
theorem dL_law_363 : decode cL_law 363 = .ok (.aload_n 0, 1) := by decide +kernel
theorem dL_law_364 : decode cL_law 364 = .ok (.iload_n 3, 1) := by decide +kernel
theorem dL_law_365 : decode cL_law 365 = .ok (.iconst 1, 1) := by decide +kernel
theorem dL_law_366 : decode cL_law 366 = .ok (.iadd, 1) := by decide +kernel
theorem dL_law_367 : decode cL_law 367 = .ok (.iaload, 1) := by decide +kernel
theorem dL_law_368 : decode cL_law 368 = .ok (.aload_n 0, 1) := by decide +kernel
theorem dL_law_369 : decode cL_law 369 = .ok (.iload_n 3, 1) := by decide +kernel
theorem dL_law_370 : decode cL_law 370 = .ok (.iconst 2, 1) := by decide +kernel
theorem dL_law_371 : decode cL_law 371 = .ok (.iadd, 1) := by decide +kernel
theorem dL_law_372 : decode cL_law 372 = .ok (.iaload, 1) := by decide +kernel
theorem dL_law_373 : decode cL_law 373 = .ok (.invokevirtual 51, 3) := by decide +kernel
theorem dL_law_376 : decode cL_law 376 = .ok (.if_icmp .eq 400, 3) := by decide +kernel
theorem dL_law_379 : decode cL_law 379 = .ok (.iconst 0, 1) := by decide +kernel
theorem dL_law_380 : decode cL_law 380 = .ok (.ireturn, 1) := by decide +kernel
theorem dL_law_381 : decode cL_law 381 = .ok (.aload_n 1, 1) := by decide +kernel
theorem dL_law_382 : decode cL_law 382 = .ok (.invokevirtual 52, 3) := by decide +kernel
theorem dL_law_385 : decode cL_law 385 = .ok (.aload_n 2, 1) := by decide +kernel
theorem dL_law_386 : decode cL_law 386 = .ok (.invokevirtual 55, 3) := by decide +kernel
theorem dL_law_389 : decode cL_law 389 = .ok (.if_icmp .eq 387, 3) := by decide +kernel
theorem dL_law_392 : decode cL_law 392 = .ok (.iconst 0, 1) := by decide +kernel
theorem dL_law_393 : decode cL_law 393 = .ok (.ireturn, 1) := by decide +kernel
theorem dL_law_394 : decode cL_law 394 = .ok (.aload_n 1, 1) := by decide +kernel
theorem dL_law_395 : decode cL_law 395 = .ok (.aload_n 0, 1) := by decide +kernel
theorem dL_law_396 : decode cL_law 396 = .ok (.iload_n 3, 1) := by decide +kernel
theorem dL_law_397 : decode cL_law 397 = .ok (.iconst 1, 1) := by decide +kernel
theorem dL_law_398 : decode cL_law 398 = .ok (.iadd, 1) := by decide +kernel
theorem dL_law_399 : decode cL_law 399 = .ok (.iaload, 1) := by decide +kernel
theorem dL_law_400 : decode cL_law 400 = .ok (.invokevirtual 56, 3) := by decide +kernel
theorem dL_law_403 : decode cL_law 403 = .ok (.aload_n 2, 1) := by decide +kernel
theorem dL_law_404 : decode cL_law 404 = .ok (.aload_n 0, 1) := by decide +kernel
theorem dL_law_405 : decode cL_law 405 = .ok (.iload_n 3, 1) := by decide +kernel
theorem dL_law_406 : decode cL_law 406 = .ok (.iconst 1, 1) := by decide +kernel
theorem dL_law_407 : decode cL_law 407 = .ok (.iadd, 1) := by decide +kernel
theorem dL_law_408 : decode cL_law 408 = .ok (.iaload, 1) := by decide +kernel
theorem dL_law_409 : decode cL_law 409 = .ok (.invokevirtual 59, 3) := by decide +kernel
theorem dL_law_412 : decode cL_law 412 = .ok (.if_icmp .eq 364, 3) := by decide +kernel
theorem dL_law_415 : decode cL_law 415 = .ok (.iconst 0, 1) := by decide +kernel
theorem dL_law_416 : decode cL_law 416 = .ok (.ireturn, 1) := by decide +kernel
theorem dL_law_417 : decode cL_law 417 = .ok (.aload_n 1, 1) := by decide +kernel
theorem dL_law_418 : decode cL_law 418 = .ok (.aload_n 0, 1) := by decide +kernel
theorem dL_law_419 : decode cL_law 419 = .ok (.iload_n 3, 1) := by decide +kernel
theorem dL_law_420 : decode cL_law 420 = .ok (.iconst 1, 1) := by decide +kernel
theorem dL_law_421 : decode cL_law 421 = .ok (.iadd, 1) := by decide +kernel
theorem dL_law_422 : decode cL_law 422 = .ok (.iaload, 1) := by decide +kernel
theorem dL_law_423 : decode cL_law 423 = .ok (.aload_n 0, 1) := by decide +kernel
theorem dL_law_424 : decode cL_law 424 = .ok (.iload_n 3, 1) := by decide +kernel
theorem dL_law_425 : decode cL_law 425 = .ok (.iconst 2, 1) := by decide +kernel
theorem dL_law_426 : decode cL_law 426 = .ok (.iadd, 1) := by decide +kernel
theorem dL_law_427 : decode cL_law 427 = .ok (.iaload, 1) := by decide +kernel
theorem dL_law_428 : decode cL_law 428 = .ok (.invokevirtual 60, 3) := by decide +kernel
theorem dL_law_431 : decode cL_law 431 = .ok (.aload_n 2, 1) := by decide +kernel
theorem dL_law_432 : decode cL_law 432 = .ok (.aload_n 0, 1) := by decide +kernel
theorem dL_law_433 : decode cL_law 433 = .ok (.iload_n 3, 1) := by decide +kernel
theorem dL_law_434 : decode cL_law 434 = .ok (.iconst 1, 1) := by decide +kernel
theorem dL_law_435 : decode cL_law 435 = .ok (.iadd, 1) := by decide +kernel
theorem dL_law_436 : decode cL_law 436 = .ok (.iaload, 1) := by decide +kernel
theorem dL_law_437 : decode cL_law 437 = .ok (.aload_n 0, 1) := by decide +kernel
theorem dL_law_438 : decode cL_law 438 = .ok (.iload_n 3, 1) := by decide +kernel
theorem dL_law_439 : decode cL_law 439 = .ok (.iconst 2, 1) := by decide +kernel
theorem dL_law_440 : decode cL_law 440 = .ok (.iadd, 1) := by decide +kernel
theorem dL_law_441 : decode cL_law 441 = .ok (.iaload, 1) := by decide +kernel
theorem dL_law_442 : decode cL_law 442 = .ok (.invokevirtual 63, 3) := by decide +kernel
theorem dL_law_445 : decode cL_law 445 = .ok (.if_icmp .eq 331, 3) := by decide +kernel
theorem dL_law_448 : decode cL_law 448 = .ok (.iconst 0, 1) := by decide +kernel
theorem dL_law_449 : decode cL_law 449 = .ok (.ireturn, 1) := by decide +kernel
theorem dL_law_450 : decode cL_law 450 = .ok (.aload_n 1, 1) := by decide +kernel
theorem dL_law_451 : decode cL_law 451 = .ok (.aload_n 0, 1) := by decide +kernel
theorem dL_law_452 : decode cL_law 452 = .ok (.iload_n 3, 1) := by decide +kernel
theorem dL_law_453 : decode cL_law 453 = .ok (.iconst 1, 1) := by decide +kernel
theorem dL_law_454 : decode cL_law 454 = .ok (.iadd, 1) := by decide +kernel
theorem dL_law_455 : decode cL_law 455 = .ok (.iaload, 1) := by decide +kernel
theorem dL_law_456 : decode cL_law 456 = .ok (.aload_n 0, 1) := by decide +kernel
theorem dL_law_457 : decode cL_law 457 = .ok (.iload_n 3, 1) := by decide +kernel
theorem dL_law_458 : decode cL_law 458 = .ok (.iconst 2, 1) := by decide +kernel
theorem dL_law_459 : decode cL_law 459 = .ok (.iadd, 1) := by decide +kernel
theorem dL_law_460 : decode cL_law 460 = .ok (.iaload, 1) := by decide +kernel
theorem dL_law_461 : decode cL_law 461 = .ok (.invokevirtual 64, 3) := by decide +kernel
theorem dL_law_464 : decode cL_law 464 = .ok (.aload_n 2, 1) := by decide +kernel
theorem dL_law_465 : decode cL_law 465 = .ok (.aload_n 0, 1) := by decide +kernel
theorem dL_law_466 : decode cL_law 466 = .ok (.iload_n 3, 1) := by decide +kernel
theorem dL_law_467 : decode cL_law 467 = .ok (.iconst 1, 1) := by decide +kernel
theorem dL_law_468 : decode cL_law 468 = .ok (.iadd, 1) := by decide +kernel
theorem dL_law_469 : decode cL_law 469 = .ok (.iaload, 1) := by decide +kernel
theorem dL_law_470 : decode cL_law 470 = .ok (.aload_n 0, 1) := by decide +kernel
theorem dL_law_471 : decode cL_law 471 = .ok (.iload_n 3, 1) := by decide +kernel
theorem dL_law_472 : decode cL_law 472 = .ok (.iconst 2, 1) := by decide +kernel
end
section
theorem dL_law_473 : decode cL_law 473 = .ok (.iadd, 1) := by decide +kernel
theorem dL_law_474 : decode cL_law 474 = .ok (.iaload, 1) := by decide +kernel
theorem dL_law_475 : decode cL_law 475 = .ok (.invokevirtual 67, 3) := by decide +kernel
theorem dL_law_478 : decode cL_law 478 = .ok (.if_icmp .eq 298, 3) := by decide +kernel
theorem dL_law_481 : decode cL_law 481 = .ok (.iconst 0, 1) := by decide +kernel
theorem dL_law_482 : decode cL_law 482 = .ok (.ireturn, 1) := by decide +kernel
theorem dL_law_483 : decode cL_law 483 = .ok (.aload_n 1, 1) := by decide +kernel
theorem dL_law_484 : decode cL_law 484 = .ok (.aload_n 0, 1) := by decide +kernel
theorem dL_law_485 : decode cL_law 485 = .ok (.iload_n 3, 1) := by decide +kernel
theorem dL_law_486 : decode cL_law 486 = .ok (.iconst 1, 1) := by decide +kernel
theorem dL_law_487 : decode cL_law 487 = .ok (.iadd, 1) := by decide +kernel
theorem dL_law_488 : decode cL_law 488 = .ok (.iaload, 1) := by decide +kernel
theorem dL_law_489 : decode cL_law 489 = .ok (.invokevirtual 68, 3) := by decide +kernel
theorem dL_law_492 : decode cL_law 492 = .ok (.aload_n 2, 1) := by decide +kernel
theorem dL_law_493 : decode cL_law 493 = .ok (.aload_n 0, 1) := by decide +kernel
theorem dL_law_494 : decode cL_law 494 = .ok (.iload_n 3, 1) := by decide +kernel
theorem dL_law_495 : decode cL_law 495 = .ok (.iconst 1, 1) := by decide +kernel
theorem dL_law_496 : decode cL_law 496 = .ok (.iadd, 1) := by decide +kernel
theorem dL_law_497 : decode cL_law 497 = .ok (.iaload, 1) := by decide +kernel
theorem dL_law_498 : decode cL_law 498 = .ok (.invokevirtual 71, 3) := by decide +kernel
theorem dL_law_501 : decode cL_law 501 = .ok (.if_icmp .eq 275, 3) := by decide +kernel
theorem dL_law_504 : decode cL_law 504 = .ok (.iconst 0, 1) := by decide +kernel
theorem dL_law_505 : decode cL_law 505 = .ok (.ireturn, 1) := by decide +kernel
theorem dL_law_506 : decode cL_law 506 = .ok (.aload_n 1, 1) := by decide +kernel
theorem dL_law_507 : decode cL_law 507 = .ok (.invokevirtual 72, 3) := by decide +kernel
theorem dL_law_510 : decode cL_law 510 = .ok (.f2d, 1) := by decide +kernel
theorem dL_law_511 : decode cL_law 511 = .ok (.dstore 4, 2) := by decide +kernel
theorem dL_law_513 : decode cL_law 513 = .ok (.aload_n 2, 1) := by decide +kernel
theorem dL_law_514 : decode cL_law 514 = .ok (.invokevirtual 76, 3) := by decide +kernel
theorem dL_law_517 : decode cL_law 517 = .ok (.f2d, 1) := by decide +kernel
theorem dL_law_518 : decode cL_law 518 = .ok (.dstore 6, 2) := by decide +kernel
theorem dL_law_520 : decode cL_law 520 = .ok (.dload 4, 2) := by decide +kernel
theorem dL_law_522 : decode cL_law 522 = .ok (.dload 6, 2) := by decide +kernel
theorem dL_law_524 : decode cL_law 524 = .ok (.dcmp .l, 1) := by decide +kernel
theorem dL_law_525 : decode cL_law 525 = .ok (.ifCond .eq 21, 3) := by decide +kernel
theorem dL_law_528 : decode cL_law 528 = .ok (.dload 4, 2) := by decide +kernel
theorem dL_law_530 : decode cL_law 530 = .ok (.dload 4, 2) := by decide +kernel
theorem dL_law_532 : decode cL_law 532 = .ok (.dcmp .l, 1) := by decide +kernel
theorem dL_law_533 : decode cL_law 533 = .ok (.ifCond .eq 11, 3) := by decide +kernel
theorem dL_law_536 : decode cL_law 536 = .ok (.dload 6, 2) := by decide +kernel
theorem dL_law_538 : decode cL_law 538 = .ok (.dload 6, 2) := by decide +kernel
theorem dL_law_540 : decode cL_law 540 = .ok (.dcmp .l, 1) := by decide +kernel
theorem dL_law_541 : decode cL_law 541 = .ok (.ifCond .ne 5, 3) := by decide +kernel
theorem dL_law_544 : decode cL_law 544 = .ok (.iconst 0, 1) := by decide +kernel
theorem dL_law_545 : decode cL_law 545 = .ok (.ireturn, 1) := by decide +kernel
theorem dL_law_546 : decode cL_law 546 = .ok (.goto 230, 3) := by decide +kernel
theorem dL_law_549 : decode cL_law 549 = .ok (.aload_n 1, 1) := by decide +kernel
theorem dL_law_550 : decode cL_law 550 = .ok (.aload_n 0, 1) := by decide +kernel
theorem dL_law_551 : decode cL_law 551 = .ok (.iload_n 3, 1) := by decide +kernel
theorem dL_law_552 : decode cL_law 552 = .ok (.iconst 1, 1) := by decide +kernel
theorem dL_law_553 : decode cL_law 553 = .ok (.iadd, 1) := by decide +kernel
theorem dL_law_554 : decode cL_law 554 = .ok (.iaload, 1) := by decide +kernel
theorem dL_law_555 : decode cL_law 555 = .ok (.aload_n 0, 1) := by decide +kernel
theorem dL_law_556 : decode cL_law 556 = .ok (.iload_n 3, 1) := by decide +kernel
theorem dL_law_557 : decode cL_law 557 = .ok (.iconst 2, 1) := by decide +kernel
theorem dL_law_558 : decode cL_law 558 = .ok (.iadd, 1) := by decide +kernel
theorem dL_law_559 : decode cL_law 559 = .ok (.iaload, 1) := by decide +kernel
theorem dL_law_560 : decode cL_law 560 = .ok (.invokevirtual 77, 3) := by decide +kernel
theorem dL_law_563 : decode cL_law 563 = .ok (.aload_n 2, 1) := by decide +kernel
theorem dL_law_564 : decode cL_law 564 = .ok (.aload_n 0, 1) := by decide +kernel
theorem dL_law_565 : decode cL_law 565 = .ok (.iload_n 3, 1) := by decide +kernel
theorem dL_law_566 : decode cL_law 566 = .ok (.iconst 1, 1) := by decide +kernel
theorem dL_law_567 : decode cL_law 567 = .ok (.iadd, 1) := by decide +kernel
theorem dL_law_568 : decode cL_law 568 = .ok (.iaload, 1) := by decide +kernel
theorem dL_law_569 : decode cL_law 569 = .ok (.aload_n 0, 1) := by decide +kernel
theorem dL_law_570 : decode cL_law 570 = .ok (.iload_n 3, 1) := by decide +kernel
theorem dL_law_571 : decode cL_law 571 = .ok (.iconst 2, 1) := by decide +kernel
theorem dL_law_572 : decode cL_law 572 = .ok (.iadd, 1) := by decide +kernel
theorem dL_law_573 : decode cL_law 573 = .ok (.iaload, 1) := by decide +kernel
theorem dL_law_574 : decode cL_law 574 = .ok (.invokevirtual 80, 3) := by decide +kernel
theorem dL_law_577 : decode cL_law 577 = .ok (.if_icmp .eq 199, 3) := by decide +kernel
theorem dL_law_580 : decode cL_law 580 = .ok (.iconst 0, 1) := by decide +kernel
theorem dL_law_581 : decode cL_law 581 = .ok (.ireturn, 1) := by decide +kernel
theorem dL_law_582 : decode cL_law 582 = .ok (.aload_n 1, 1) := by decide +kernel
theorem dL_law_583 : decode cL_law 583 = .ok (.aload_n 0, 1) := by decide +kernel
theorem dL_law_584 : decode cL_law 584 = .ok (.iload_n 3, 1) := by decide +kernel
theorem dL_law_585 : decode cL_law 585 = .ok (.iconst 1, 1) := by decide +kernel
theorem dL_law_586 : decode cL_law 586 = .ok (.iadd, 1) := by decide +kernel
theorem dL_law_587 : decode cL_law 587 = .ok (.iaload, 1) := by decide +kernel
theorem dL_law_588 : decode cL_law 588 = .ok (.aload_n 0, 1) := by decide +kernel
theorem dL_law_589 : decode cL_law 589 = .ok (.iload_n 3, 1) := by decide +kernel
theorem dL_law_590 : decode cL_law 590 = .ok (.iconst 2, 1) := by decide +kernel
theorem dL_law_591 : decode cL_law 591 = .ok (.iadd, 1) := by decide +kernel
theorem dL_law_592 : decode cL_law 592 = .ok (.iaload, 1) := by decide +kernel
theorem dL_law_593 : decode cL_law 593 = .ok (.aload_n 0, 1) := by decide +kernel
theorem dL_law_594 : decode cL_law 594 = .ok (.iload_n 3, 1) := by decide +kernel
theorem dL_law_595 : decode cL_law 595 = .ok (.iconst 3, 1) := by decide +kernel
theorem dL_law_596 : decode cL_law 596 = .ok (.iadd, 1) := by decide +kernel
theorem dL_law_597 : decode cL_law 597 = .ok (.iaload, 1) := by decide +kernel
theorem dL_law_598 : decode cL_law 598 = .ok (.invokevirtual 81, 3) := by decide +kernel
theorem dL_law_601 : decode cL_law 601 = .ok (.aload_n 2, 1) := by decide +kernel
theorem dL_law_602 : decode cL_law 602 = .ok (.aload_n 0, 1) := by decide +kernel
theorem dL_law_603 : decode cL_law 603 = .ok (.iload_n 3, 1) := by decide +kernel
theorem dL_law_604 : decode cL_law 604 = .ok (.iconst 1, 1) := by decide +kernel
theorem dL_law_605 : decode cL_law 605 = .ok (.iadd, 1) := by decide +kernel
theorem dL_law_606 : decode cL_law 606 = .ok (.iaload, 1) := by decide +kernel
theorem dL_law_607 : decode cL_law 607 = .ok (.aload_n 0, 1) := by decide +kernel
theorem dL_law_608 : decode cL_law 608 = .ok (.iload_n 3, 1) := by decide +kernel
theorem dL_law_609 : decode cL_law 609 = .ok (.iconst 2, 1) := by decide +kernel
theorem dL_law_610 : decode cL_law 610 = .ok (.iadd, 1) := by decide +kernel
theorem dL_law_611 : decode cL_law 611 = .ok (.iaload, 1) := by decide +kernel
theorem dL_law_612 : decode cL_law 612 = .ok (.aload_n 0, 1) := by decide +kernel
theorem dL_law_613 : decode cL_law 613 = .ok (.iload_n 3, 1) := by decide +kernel
theorem dL_law_614 : decode cL_law 614 = .ok (.iconst 3, 1) := by decide +kernel
theorem dL_law_615 : decode cL_law 615 = .ok (.iadd, 1) := by decide +kernel
theorem dL_law_616 : decode cL_law 616 = .ok (.iaload, 1) := by decide +kernel
theorem dL_law_617 : decode cL_law 617 = .ok (.invokevirtual 85, 3) := by decide +kernel
theorem dL_law_620 : decode cL_law 620 = .ok (.if_icmp .eq 156, 3) := by decide +kernel
theorem dL_law_623 : decode cL_law 623 = .ok (.iconst 0, 1) := by decide +kernel
theorem dL_law_624 : decode cL_law 624 = .ok (.ireturn, 1) := by decide +kernel
theorem dL_law_625 : decode cL_law 625 = .ok (.aload_n 1, 1) := by decide +kernel
theorem dL_law_626 : decode cL_law 626 = .ok (.aload_n 0, 1) := by decide +kernel
theorem dL_law_627 : decode cL_law 627 = .ok (.iload_n 3, 1) := by decide +kernel
theorem dL_law_628 : decode cL_law 628 = .ok (.iconst 1, 1) := by decide +kernel
theorem dL_law_629 : decode cL_law 629 = .ok (.iadd, 1) := by decide +kernel
theorem dL_law_630 : decode cL_law 630 = .ok (.iaload, 1) := by decide +kernel
theorem dL_law_631 : decode cL_law 631 = .ok (.aload_n 0, 1) := by decide +kernel
theorem dL_law_632 : decode cL_law 632 = .ok (.iload_n 3, 1) := by decide +kernel
theorem dL_law_633 : decode cL_law 633 = .ok (.iconst 2, 1) := by decide +kernel
theorem dL_law_634 : decode cL_law 634 = .ok (.iadd, 1) := by decide +kernel
theorem dL_law_635 : decode cL_law 635 = .ok (.iaload, 1) := by decide +kernel
theorem dL_law_636 : decode cL_law 636 = .ok (.invokevirtual 86, 3) := by decide +kernel
theorem dL_law_639 : decode cL_law 639 = .ok (.aload_n 2, 1) := by decide +kernel
theorem dL_law_640 : decode cL_law 640 = .ok (.aload_n 0, 1) := by decide +kernel
theorem dL_law_641 : decode cL_law 641 = .ok (.iload_n 3, 1) := by decide +kernel
theorem dL_law_642 : decode cL_law 642 = .ok (.iconst 1, 1) := by decide +kernel
theorem dL_law_643 : decode cL_law 643 = .ok (.iadd, 1) := by decide +kernel
theorem dL_law_644 : decode cL_law 644 = .ok (.iaload, 1) := by decide +kernel
theorem dL_law_645 : decode cL_law 645 = .ok (.aload_n 0, 1) := by decide +kernel
theorem dL_law_646 : decode cL_law 646 = .ok (.iload_n 3, 1) := by decide +kernel
theorem dL_law_647 : decode cL_law 647 = .ok (.iconst 2, 1) := by decide +kernel
theorem dL_law_648 : decode cL_law 648 = .ok (.iadd, 1) := by decide +kernel
theorem dL_law_649 : decode cL_law 649 = .ok (.iaload, 1) := by decide +kernel
theorem dL_law_650 : decode cL_law 650 = .ok (.invokevirtual 89, 3) := by decide +kernel
theorem dL_law_653 : decode cL_law 653 = .ok (.if_icmp .eq 123, 3) := by decide +kernel
theorem dL_law_656 : decode cL_law 656 = .ok (.iconst 0, 1) := by decide +kernel
theorem dL_law_657 : decode cL_law 657 = .ok (.ireturn, 1) := by decide +kernel
theorem dL_law_658 : decode cL_law 658 = .ok (.aload_n 1, 1) := by decide +kernel
theorem dL_law_659 : decode cL_law 659 = .ok (.aload_n 0, 1) := by decide +kernel
theorem dL_law_660 : decode cL_law 660 = .ok (.iload_n 3, 1) := by decide +kernel
theorem dL_law_661 : decode cL_law 661 = .ok (.iconst 1, 1) := by decide +kernel
theorem dL_law_662 : decode cL_law 662 = .ok (.iadd, 1) := by decide +kernel
theorem dL_law_663 : decode cL_law 663 = .ok (.iaload, 1) := by decide +kernel
theorem dL_law_664 : decode cL_law 664 = .ok (.invokevirtual 90, 3) := by decide +kernel
theorem dL_law_667 : decode cL_law 667 = .ok (.aload_n 2, 1) := by decide +kernel
theorem dL_law_668 : decode cL_law 668 = .ok (.aload_n 0, 1) := by decide +kernel
theorem dL_law_669 : decode cL_law 669 = .ok (.iload_n 3, 1) := by decide +kernel
theorem dL_law_670 : decode cL_law 670 = .ok (.iconst 1, 1) := by decide +kernel
theorem dL_law_671 : decode cL_law 671 = .ok (.iadd, 1) := by decide +kernel
theorem dL_law_672 : decode cL_law 672 = .ok (.iaload, 1) := by decide +kernel
theorem dL_law_673 : decode cL_law 673 = .ok (.invokevirtual 93, 3) := by decide +kernel
theorem dL_law_676 : decode cL_law 676 = .ok (.if_icmp .eq 100, 3) := by decide +kernel
theorem dL_law_679 : decode cL_law 679 = .ok (.iconst 0, 1) := by decide +kernel
theorem dL_law_680 : decode cL_law 680 = .ok (.ireturn, 1) := by decide +kernel
theorem dL_law_681 : decode cL_law 681 = .ok (.aload_n 1, 1) := by decide +kernel
theorem dL_law_682 : decode cL_law 682 = .ok (.invokevirtual 94, 3) := by decide +kernel
theorem dL_law_685 : decode cL_law 685 = .ok (.aload_n 2, 1) := by decide +kernel
theorem dL_law_686 : decode cL_law 686 = .ok (.invokevirtual 97, 3) := by decide +kernel
theorem dL_law_689 : decode cL_law 689 = .ok (.if_icmp .eq 87, 3) := by decide +kernel
theorem dL_law_692 : decode cL_law 692 = .ok (.iconst 0, 1) := by decide +kernel
theorem dL_law_693 : decode cL_law 693 = .ok (.ireturn, 1) := by decide +kernel
theorem dL_law_694 : decode cL_law 694 = .ok (.aload_n 1, 1) := by decide +kernel
theorem dL_law_695 : decode cL_law 695 = .ok (.invokevirtual 98, 3) := by decide +kernel
theorem dL_law_698 : decode cL_law 698 = .ok (.aload_n 2, 1) := by decide +kernel
theorem dL_law_699 : decode cL_law 699 = .ok (.invokevirtual 101, 3) := by decide +kernel
theorem dL_law_702 : decode cL_law 702 = .ok (.if_icmp .eq 74, 3) := by decide +kernel
theorem dL_law_705 : decode cL_law 705 = .ok (.iconst 0, 1) := by decide +kernel
theorem dL_law_706 : decode cL_law 706 = .ok (.ireturn, 1) := by decide +kernel
theorem dL_law_707 : decode cL_law 707 = .ok (.aload_n 1, 1) := by decide +kernel
theorem dL_law_708 : decode cL_law 708 = .ok (.aload_n 0, 1) := by decide +kernel
theorem dL_law_709 : decode cL_law 709 = .ok (.iload_n 3, 1) := by decide +kernel
theorem dL_law_710 : decode cL_law 710 = .ok (.iconst 1, 1) := by decide +kernel
theorem dL_law_711 : decode cL_law 711 = .ok (.iadd, 1) := by decide +kernel
theorem dL_law_712 : decode cL_law 712 = .ok (.iaload, 1) := by decide +kernel
theorem dL_law_713 : decode cL_law 713 = .ok (.invokevirtual 102, 3) := by decide +kernel
theorem dL_law_716 : decode cL_law 716 = .ok (.aload_n 2, 1) := by decide +kernel
theorem dL_law_717 : decode cL_law 717 = .ok (.aload_n 0, 1) := by decide +kernel
theorem dL_law_718 : decode cL_law 718 = .ok (.iload_n 3, 1) := by decide +kernel
theorem dL_law_719 : decode cL_law 719 = .ok (.iconst 1, 1) := by decide +kernel
theorem dL_law_720 : decode cL_law 720 = .ok (.iadd, 1) := by decide +kernel
theorem dL_law_721 : decode cL_law 721 = .ok (.iaload, 1) := by decide +kernel
theorem dL_law_722 : decode cL_law 722 = .ok (.invokevirtual 105, 3) := by decide +kernel
theorem dL_law_725 : decode cL_law 725 = .ok (.if_icmp .eq 51, 3) := by decide +kernel
theorem dL_law_728 : decode cL_law 728 = .ok (.iconst 0, 1) := by decide +kernel
theorem dL_law_729 : decode cL_law 729 = .ok (.ireturn, 1) := by decide +kernel
theorem dL_law_730 : decode cL_law 730 = .ok (.aload_n 1, 1) := by decide +kernel
theorem dL_law_731 : decode cL_law 731 = .ok (.aload_n 0, 1) := by decide +kernel
theorem dL_law_732 : decode cL_law 732 = .ok (.iload_n 3, 1) := by decide +kernel
theorem dL_law_733 : decode cL_law 733 = .ok (.iconst 1, 1) := by decide +kernel
theorem dL_law_734 : decode cL_law 734 = .ok (.iadd, 1) := by decide +kernel
theorem dL_law_735 : decode cL_law 735 = .ok (.iaload, 1) := by decide +kernel
theorem dL_law_736 : decode cL_law 736 = .ok (.invokevirtual 106, 3) := by decide +kernel
theorem dL_law_739 : decode cL_law 739 = .ok (.aload_n 2, 1) := by decide +kernel
theorem dL_law_740 : decode cL_law 740 = .ok (.aload_n 0, 1) := by decide +kernel
theorem dL_law_741 : decode cL_law 741 = .ok (.iload_n 3, 1) := by decide +kernel
theorem dL_law_742 : decode cL_law 742 = .ok (.iconst 1, 1) := by decide +kernel
theorem dL_law_743 : decode cL_law 743 = .ok (.iadd, 1) := by decide +kernel
theorem dL_law_744 : decode cL_law 744 = .ok (.iaload, 1) := by decide +kernel
theorem dL_law_745 : decode cL_law 745 = .ok (.invokevirtual 109, 3) := by decide +kernel
theorem dL_law_748 : decode cL_law 748 = .ok (.if_icmp .eq 28, 3) := by decide +kernel
theorem dL_law_751 : decode cL_law 751 = .ok (.iconst 0, 1) := by decide +kernel
theorem dL_law_752 : decode cL_law 752 = .ok (.ireturn, 1) := by decide +kernel
theorem dL_law_753 : decode cL_law 753 = .ok (.aload_n 1, 1) := by decide +kernel
theorem dL_law_754 : decode cL_law 754 = .ok (.aload_n 0, 1) := by decide +kernel
theorem dL_law_755 : decode cL_law 755 = .ok (.iload_n 3, 1) := by decide +kernel
theorem dL_law_756 : decode cL_law 756 = .ok (.iconst 1, 1) := by decide +kernel
theorem dL_law_757 : decode cL_law 757 = .ok (.iadd, 1) := by decide +kernel
theorem dL_law_758 : decode cL_law 758 = .ok (.iaload, 1) := by decide +kernel
theorem dL_law_759 : decode cL_law 759 = .ok (.invokevirtual 110, 3) := by decide +kernel
theorem dL_law_762 : decode cL_law 762 = .ok (.aload_n 2, 1) := by decide +kernel
theorem dL_law_763 : decode cL_law 763 = .ok (.aload_n 0, 1) := by decide +kernel
theorem dL_law_764 : decode cL_law 764 = .ok (.iload_n 3, 1) := by decide +kernel
theorem dL_law_765 : decode cL_law 765 = .ok (.iconst 1, 1) := by decide +kernel
theorem dL_law_766 : decode cL_law 766 = .ok (.iadd, 1) := by decide +kernel
theorem dL_law_767 : decode cL_law 767 = .ok (.iaload, 1) := by decide +kernel
theorem dL_law_768 : decode cL_law 768 = .ok (.invokevirtual 113, 3) := by decide +kernel
theorem dL_law_771 : decode cL_law 771 = .ok (.if_icmp .eq 5, 3) := by decide +kernel
theorem dL_law_774 : decode cL_law 774 = .ok (.iconst 0, 1) := by decide +kernel
theorem dL_law_775 : decode cL_law 775 = .ok (.ireturn, 1) := by decide +kernel
theorem dL_law_776 : decode cL_law 776 = .ok (.iinc 3 4, 3) := by decide +kernel
theorem dL_law_779 : decode cL_law 779 = .ok (.goto (-761), 3) := by decide +kernel
theorem dL_law_782 : decode cL_law 782 = .ok (.iconst 1, 1) := by decide +kernel
theorem dL_law_783 : decode cL_law 783 = .ok (.ireturn, 1) := by decide +kernel
end
section
theorem fl_X0_15 : FL RX0 15 0 1 := ⟨by decide +kernel, by decide, by decide⟩
theorem fl_X0_18 : FL RX0 18 0 2 := ⟨by decide +kernel, by decide, by decide⟩
theorem fl_X0_21 : FL RX0 21 0 3 := ⟨by decide +kernel, by decide, by decide⟩
theorem fl_X0_24 : FL RX0 24 0 4 := ⟨by decide +kernel, by decide, by decide⟩
theorem fl_X0_27 : FL RX0 27 0 5 := ⟨by decide +kernel, by decide, by decide⟩
theorem fl_X0_31 : FL RX0 31 0 6 := ⟨by decide +kernel, by decide, by decide⟩
theorem fl_X0_34 : FL RX0 34 0 7 := ⟨by decide +kernel, by decide, by decide⟩
theorem fl_X0_9 : FL RX0 9 0 0 := ⟨by decide +kernel, by decide, by decide⟩
theorem fl_X1_15 : FL RX1 15 1 1 := ⟨by decide +kernel, by decide, by decide⟩
theorem fl_X1_19 : FL RX1 19 1 2 := ⟨by decide +kernel, by decide, by decide⟩
theorem fl_X1_22 : FL RX1 22 1 3 := ⟨by decide +kernel, by decide, by decide⟩
theorem fl_X1_25 : FL RX1 25 1 4 := ⟨by decide +kernel, by decide, by decide⟩
theorem fl_X1_28 : FL RX1 28 1 5 := ⟨by decide +kernel, by decide, by decide⟩
theorem fl_X1_31 : FL RX1 31 1 6 := ⟨by decide +kernel, by decide, by decide⟩
theorem fl_X1_34 : FL RX1 34 1 7 := ⟨by decide +kernel, by decide, by decide⟩
theorem fl_X1_9 : FL RX1 9 1 0 := ⟨by decide +kernel, by decide, by decide⟩
theorem fl_X2_10 : FL RX2 10 2 0 := ⟨by decide +kernel, by decide, by decide⟩
theorem fl_X2_19 : FL RX2 19 2 1 := ⟨by decide +kernel, by decide, by decide⟩
theorem fl_X3_15 : FL RX3 15 3 1 := ⟨by decide +kernel, by decide, by decide⟩
theorem fl_X3_20 : FL RX3 20 3 2 := ⟨by decide +kernel, by decide, by decide⟩
theorem fl_X3_23 : FL RX3 23 3 3 := ⟨by decide +kernel, by decide, by decide⟩
theorem fl_X3_26 : FL RX3 26 1 0 := ⟨by decide +kernel, by decide, by decide⟩
theorem fl_X3_43 : FL RX3 43 1 2 := ⟨by decide +kernel, by decide, by decide⟩
theorem fl_X3_9 : FL RX3 9 3 0 := ⟨by decide +kernel, by decide, by decide⟩
theorem fl_X4_10 : FL RX4 10 4 0 := ⟨by decide +kernel, by decide, by decide⟩
theorem fl_X4_105 : FL RX4 105 1 2 := ⟨by decide +kernel, by decide, by decide⟩
theorem fl_X4_132 : FL RX4 132 0 3 := ⟨by decide +kernel, by decide, by decide⟩
theorem fl_X4_139 : FL RX4 139 1 4 := ⟨by decide +kernel, by decide, by decide⟩
theorem fl_X4_142 : FL RX4 142 1 5 := ⟨by decide +kernel, by decide, by decide⟩
theorem fl_X4_145 : FL RX4 145 1 6 := ⟨by decide +kernel, by decide, by decide⟩
theorem fl_X4_148 : FL RX4 148 1 7 := ⟨by decide +kernel, by decide, by decide⟩
theorem fl_X4_152 : FL RX4 152 1 3 := ⟨by decide +kernel, by decide, by decide⟩
theorem fl_X4_16 : FL RX4 16 4 1 := ⟨by decide +kernel, by decide, by decide⟩
theorem fl_X4_162 : FL RX4 162 0 0 := ⟨by decide +kernel, by decide, by decide⟩
theorem fl_X4_165 : FL RX4 165 0 1 := ⟨by decide +kernel, by decide, by decide⟩
theorem fl_X4_168 : FL RX4 168 0 2 := ⟨by decide +kernel, by decide, by decide⟩
theorem fl_X4_171 : FL RX4 171 0 4 := ⟨by decide +kernel, by decide, by decide⟩
theorem fl_X4_183 : FL RX4 183 3 1 := ⟨by decide +kernel, by decide, by decide⟩
theorem fl_X4_193 : FL RX4 193 0 5 := ⟨by decide +kernel, by decide, by decide⟩
theorem fl_X4_196 : FL RX4 196 0 6 := ⟨by decide +kernel, by decide, by decide⟩
theorem fl_X4_199 : FL RX4 199 0 7 := ⟨by decide +kernel, by decide, by decide⟩
theorem fl_X4_20 : FL RX4 20 4 2 := ⟨by decide +kernel, by decide, by decide⟩
theorem fl_X4_229 : FL RX4 229 3 2 := ⟨by decide +kernel, by decide, by decide⟩
theorem fl_X4_232 : FL RX4 232 3 3 := ⟨by decide +kernel, by decide, by decide⟩
theorem fl_X4_24 : FL RX4 24 4 3 := ⟨by decide +kernel, by decide, by decide⟩
theorem fl_X4_27 : FL RX4 27 4 4 := ⟨by decide +kernel, by decide, by decide⟩
theorem fl_X4_34 : FL RX4 34 4 5 := ⟨by decide +kernel, by decide, by decide⟩
theorem fl_X4_40 : FL RX4 40 4 6 := ⟨by decide +kernel, by decide, by decide⟩
theorem fl_X4_50 : FL RX4 50 2 0 := ⟨by decide +kernel, by decide, by decide⟩
theorem fl_X4_54 : FL RX4 54 1 0 := ⟨by decide +kernel, by decide, by decide⟩
theorem fl_X4_64 : FL RX4 64 2 1 := ⟨by decide +kernel, by decide, by decide⟩
theorem fl_X4_98 : FL RX4 98 1 1 := ⟨by decide +kernel, by decide, by decide⟩
theorem fl_X5_13 : FL RX5 13 5 1 := ⟨by decide +kernel, by decide, by decide⟩
theorem fl_X5_132 : FL RX5 132 5 6 := ⟨by decide +kernel, by decide, by decide⟩
theorem fl_X5_144 : FL RX5 144 5 10 := ⟨by decide +kernel, by decide, by decide⟩
theorem fl_X5_147 : FL RX5 147 5 11 := ⟨by decide +kernel, by decide, by decide⟩
theorem fl_X5_150 : FL RX5 150 5 12 := ⟨by decide +kernel, by decide, by decide⟩
theorem fl_X5_153 : FL RX5 153 5 13 := ⟨by decide +kernel, by decide, by decide⟩
theorem fl_X5_16 : FL RX5 16 5 3 := ⟨by decide +kernel, by decide, by decide⟩
theorem fl_X5_177 : FL RX5 177 5 19 := ⟨by decide +kernel, by decide, by decide⟩
theorem fl_X5_180 : FL RX5 180 5 20 := ⟨by decide +kernel, by decide, by decide⟩
theorem fl_X5_183 : FL RX5 183 5 18 := ⟨by decide +kernel, by decide, by decide⟩
theorem fl_X5_19 : FL RX5 19 5 4 := ⟨by decide +kernel, by decide, by decide⟩
theorem fl_X5_22 : FL RX5 22 5 5 := ⟨by decide +kernel, by decide, by decide⟩
theorem fl_X5_26 : FL RX5 26 5 7 := ⟨by decide +kernel, by decide, by decide⟩
theorem fl_X5_30 : FL RX5 30 5 8 := ⟨by decide +kernel, by decide, by decide⟩
theorem fl_X5_33 : FL RX5 33 5 9 := ⟨by decide +kernel, by decide, by decide⟩
theorem fl_X5_36 : FL RX5 36 5 14 := ⟨by decide +kernel, by decide, by decide⟩
theorem fl_X5_39 : FL RX5 39 5 15 := ⟨by decide +kernel, by decide, by decide⟩
theorem fl_X5_42 : FL RX5 42 5 16 := ⟨by decide +kernel, by decide, by decide⟩
theorem fl_X5_45 : FL RX5 45 5 17 := ⟨by decide +kernel, by decide, by decide⟩
theorem fl_X5_56 : FL RX5 56 5 2 := ⟨by decide +kernel, by decide, by decide⟩
theorem fl_X5_7 : FL RX5 7 5 0 := ⟨by decide +kernel, by decide, by decide⟩
theorem ld_X1_37 : Cond.constant RX1 37 (-1000000009) ∈ wsL_law := by decide +kernel
theorem ld_X4_151 : Cond.constant RX4 151 (-1000000009) ∈ wsL_law := by decide +kernel
theorem ld_X4_241 : Cond.fieldLink RX4 241 RX4 "COSINES" "[I" ∈ wsL_law := by decide +kernel
theorem ld_X4_49 : Cond.constant RX4 49 (-1000000001) ∈ wsL_law := by decide +kernel
theorem ld_X4_81 : Cond.constant RX4 81 (-1000000003) ∈ wsL_law := by decide +kernel
theorem ld_X4_97 : Cond.constant RX4 97 (-1000000002) ∈ wsL_law := by decide +kernel
theorem ld_X5_102 : Cond.constant RX5 102 (-1000000001) ∈ wsL_law := by decide +kernel
theorem ld_X5_106 : Cond.constant RX5 106 (-1000000003) ∈ wsL_law := by decide +kernel
theorem ld_X5_25 : Cond.constant RX5 25 (-1000000009) ∈ wsL_law := by decide +kernel
theorem ld_X5_59 : Cond.constant RX5 59 (-1000000002) ∈ wsL_law := by decide +kernel
theorem ml_X0_37 : Cond.methodLink RX0 37 arraycopyName ∈ wsL_law := by decide +kernel
theorem ml_X1_51 : Cond.methodLink RX1 51 arraycopyName ∈ wsL_law := by decide +kernel
theorem ml_X1_82 : Cond.methodLink RX1 82 Lib.Math.max.name ∈ wsL_law := by decide +kernel
theorem lkN_X4_cosine : LnkN yX4_cosine cX4_cosine 1 (some .int) 1 := lnkN_of (by decide +kernel) (by decide +kernel)
theorem lkN_X4_isWithin : LnkN yX4_isWithin cX4_isWithin 3 (some .boolean) 3 := lnkN_of (by decide +kernel) (by decide +kernel)
theorem lkN_X4_pull : LnkN yX4_pull cX4_pull 2 (some .int) 2 := lnkN_of (by decide +kernel) (by decide +kernel)
theorem lk_X0_43 : LnkV RX0 43 yX0_dropOldestTurn cX0_dropOldestTurn 1 none 0 := lnkV_of (by decide +kernel) (by decide +kernel)
theorem lk_X1_38 : LnkS RX1 38 yJ7_fill_53178 cJ7_fill_53178 4 none 2 := lnkS_of (by decide +kernel) (by decide +kernel)
theorem lk_X1_44 : LnkV RX1 44 yX1_takeMagnets cX1_takeMagnets 2 none 1 := lnkV_of (by decide +kernel) (by decide +kernel)
theorem lk_X1_48 : LnkV RX1 48 yX1_takeAngles cX1_takeAngles 2 none 1 := lnkV_of (by decide +kernel) (by decide +kernel)
theorem lk_X1_57 : LnkV RX1 57 yX1_copyMagnet cX1_copyMagnet 4 none 3 := lnkV_of (by decide +kernel) (by decide +kernel)
theorem lk_X1_61 : LnkV RX1 61 yX1_pullOn cX1_pullOn 3 (some .int) 2 := lnkV_of (by decide +kernel) (by decide +kernel)
theorem lk_X1_65 : LnkV RX1 65 yX1_partOfField cX1_partOfField 2 (some .int) 1 := lnkV_of (by decide +kernel) (by decide +kernel)
theorem lk_X1_69 : LnkV RX1 69 yX1_partOf cX1_partOf 3 (some .int) 2 := lnkV_of (by decide +kernel) (by decide +kernel)
theorem lk_X1_78 : LnkV RX1 78 yX1_settleOnce cX1_settleOnce 9 (some .boolean) 1 := lnkV_of (by decide +kernel) (by decide +kernel)
theorem lk_X1_87 : LnkV RX1 87 yX1_turn cX1_turn 3 none 2 := lnkV_of (by decide +kernel) (by decide +kernel)
theorem lk_X1_91 : LnkV RX1 91 yX0_enter cX0_enter 4 none 3 := lnkV_of (by decide +kernel) (by decide +kernel)
theorem lk_X2_23 : LnkV RX2 23 yX1_takeFrom cX1_takeFrom 2 none 1 := lnkV_of (by decide +kernel) (by decide +kernel)
theorem lk_X2_27 : LnkV RX2 27 yX0_takeFrom cX0_takeFrom 2 none 1 := lnkV_of (by decide +kernel) (by decide +kernel)
theorem lk_X3_35 : LnkV RX3 35 yX3_refuse cX3_refuse 3 (some .boolean) 2 := lnkV_of (by decide +kernel) (by decide +kernel)
theorem lk_X3_39 : LnkV RX3 39 yX1_putIn cX1_putIn 4 none 2 := lnkV_of (by decide +kernel) (by decide +kernel)
theorem lk_X4_102 : LnkV RX4 102 yX1_takeOut cX1_takeOut 3 none 1 := lnkV_of (by decide +kernel) (by decide +kernel)
theorem lk_X4_108 : LnkV RX4 108 yX1_pullOfNeighbors cX1_pullOfNeighbors 2 (some .int) 1 := lnkV_of (by decide +kernel) (by decide +kernel)
theorem lk_X4_111 : LnkV RX4 111 yX1_append cX1_append 3 none 2 := lnkV_of (by decide +kernel) (by decide +kernel)
theorem lk_X4_115 : LnkV RX4 115 yX1_takeMagnets cX1_takeMagnets 2 none 1 := lnkV_of (by decide +kernel) (by decide +kernel)
theorem lk_X4_119 : LnkV RX4 119 yX1_mirror cX1_mirror 2 none 0 := lnkV_of (by decide +kernel) (by decide +kernel)
theorem lk_X4_122 : LnkV RX4 122 yX1_differencesFrom cX1_differencesFrom 4 (some .int) 1 := lnkV_of (by decide +kernel) (by decide +kernel)
theorem lk_X4_126 : LnkS RX4 126 yX4_isPush cX4_isPush 1 (some .boolean) 1 := lnkS_of (by decide +kernel) (by decide +kernel)
theorem lk_X4_129 : LnkV RX4 129 yX1_turn cX1_turn 3 none 2 := lnkV_of (by decide +kernel) (by decide +kernel)
theorem lk_X4_135 : LnkS RX4 135 yX4_isSetting cX4_isSetting 2 (some .boolean) 2 := lnkS_of (by decide +kernel) (by decide +kernel)
theorem lk_X4_155 : LnkV RX4 155 yX2_takeFrom cX2_takeFrom 2 none 1 := lnkV_of (by decide +kernel) (by decide +kernel)
theorem lk_X4_159 : LnkV RX4 159 yX1_energy cX1_energy 4 (some .int) 0 := lnkV_of (by decide +kernel) (by decide +kernel)
theorem lk_X4_174 : LnkV RX4 174 yX1_walls cX1_walls 3 (some .int) 0 := lnkV_of (by decide +kernel) (by decide +kernel)
theorem lk_X4_177 : LnkV RX4 177 yX1_goalsMissed cX1_goalsMissed 3 (some .int) 0 := lnkV_of (by decide +kernel) (by decide +kernel)
theorem lk_X4_180 : LnkV RX4 180 yX1_heldOnes cX1_heldOnes 3 (some .int) 0 := lnkV_of (by decide +kernel) (by decide +kernel)
theorem lk_X4_186 : LnkV RX4 186 yX1_freedBy cX1_freedBy 3 (some .int) 2 := lnkV_of (by decide +kernel) (by decide +kernel)
theorem lk_X4_190 : LnkV RX4 190 yX1_partOf cX1_partOf 3 (some .int) 2 := lnkV_of (by decide +kernel) (by decide +kernel)
theorem lk_X4_202 : LnkV RX4 202 yX1_pointsTo cX1_pointsTo 4 (some .int) 1 := lnkV_of (by decide +kernel) (by decide +kernel)
theorem lk_X4_205 : LnkV RX4 205 yX1_takeFrom cX1_takeFrom 2 none 1 := lnkV_of (by decide +kernel) (by decide +kernel)
theorem lk_X4_207 : LnkS RX4 207 yX4_isLoop cX4_isLoop 2 (some .boolean) 2 := lnkS_of (by decide +kernel) (by decide +kernel)
theorem lk_X4_210 : LnkS RX4 210 yX4_stepsUp cX4_stepsUp 2 (some .int) 2 := lnkS_of (by decide +kernel) (by decide +kernel)
theorem lk_X4_213 : LnkS RX4 213 yX4_firstPush cX4_firstPush 6 (some .int) 3 := lnkS_of (by decide +kernel) (by decide +kernel)
theorem lk_X4_217 : LnkS RX4 217 yX4_magnetOf cX4_magnetOf 1 (some .int) 1 := lnkS_of (by decide +kernel) (by decide +kernel)
theorem lk_X4_220 : LnkS RX4 220 yX4_directionOf cX4_directionOf 1 (some .int) 1 := lnkS_of (by decide +kernel) (by decide +kernel)
theorem lk_X4_223 : LnkV RX4 223 yX3_append cX3_append 2 (some .boolean) 1 := lnkV_of (by decide +kernel) (by decide +kernel)
theorem lk_X4_225 : LnkV RX4 225 yX3_readInto cX3_readInto 6 (some .boolean) 1 := lnkV_of (by decide +kernel) (by decide +kernel)
theorem lk_X4_235 : LnkV RX4 235 yX4_dropOldest cX4_dropOldest 3 none 0 := lnkV_of (by decide +kernel) (by decide +kernel)
theorem lk_X4_238 : LnkV RX4 238 yX1_takeAngles cX1_takeAngles 2 none 1 := lnkV_of (by decide +kernel) (by decide +kernel)
theorem lk_X4_45 : LnkS RX4 45 yX4_isWithin cX4_isWithin 3 (some .boolean) 3 := lnkS_of (by decide +kernel) (by decide +kernel)
theorem lk_X4_57 : LnkV RX4 57 yX4_record cX4_record 1 none 0 := lnkV_of (by decide +kernel) (by decide +kernel)
theorem lk_X4_60 : LnkV RX4 60 yX1_startWith cX1_startWith 2 none 1 := lnkV_of (by decide +kernel) (by decide +kernel)
theorem lk_X4_68 : LnkV RX4 68 yX0_clear cX0_clear 1 none 0 := lnkV_of (by decide +kernel) (by decide +kernel)
theorem lk_X4_73 : LnkV RX4 73 yX1_settle cX1_settle 3 (some .int) 1 := lnkV_of (by decide +kernel) (by decide +kernel)
theorem lk_X4_77 : LnkS RX4 77 yX4_isAngle cX4_isAngle 1 (some .boolean) 1 := lnkS_of (by decide +kernel) (by decide +kernel)
theorem lk_X4_82 : LnkV RX4 82 yX4_startChange cX4_startChange 1 (some .int) 0 := lnkV_of (by decide +kernel) (by decide +kernel)
theorem lk_X4_86 : LnkV RX4 86 yX1_putIn cX1_putIn 4 none 2 := lnkV_of (by decide +kernel) (by decide +kernel)
theorem lk_X4_90 : LnkV RX4 90 yX4_endChange cX4_endChange 2 (some .int) 1 := lnkV_of (by decide +kernel) (by decide +kernel)
theorem lk_X4_94 : LnkV RX4 94 yX4_isMagnet cX4_isMagnet 2 (some .boolean) 1 := lnkV_of (by decide +kernel) (by decide +kernel)
theorem lk_X5_103 : LnkV RX5 103 yX5_record cX5_record 2 none 0 := lnkV_of (by decide +kernel) (by decide +kernel)
theorem lk_X5_107 : LnkV RX5 107 yX5_end cX5_end 2 (some .int) 1 := lnkV_of (by decide +kernel) (by decide +kernel)
theorem lk_X5_110 : LnkV RX5 110 yX5_take cX5_take 3 none 1 := lnkV_of (by decide +kernel) (by decide +kernel)
theorem lk_X5_113 : LnkV RX5 113 yX5_shedSet cX5_shedSet 4 (some .int) 0 := lnkV_of (by decide +kernel) (by decide +kernel)
theorem lk_X5_116 : LnkS RX5 116 yX5_mirrored cX5_mirrored 1 (some .int) 1 := lnkS_of (by decide +kernel) (by decide +kernel)
theorem lk_X5_119 : LnkV RX5 119 yX5_isPush cX5_isPush 3 (some .boolean) 2 := lnkV_of (by decide +kernel) (by decide +kernel)
theorem lk_X5_123 : LnkV RX5 123 yX5_walls cX5_walls 3 (some .int) 0 := lnkV_of (by decide +kernel) (by decide +kernel)
theorem lk_X5_126 : LnkV RX5 126 yX5_unsolved cX5_unsolved 3 (some .int) 0 := lnkV_of (by decide +kernel) (by decide +kernel)
theorem lk_X5_129 : LnkV RX5 129 yX5_held cX5_held 3 (some .int) 0 := lnkV_of (by decide +kernel) (by decide +kernel)
theorem lk_X5_135 : LnkV RX5 135 yX5_pointsTo cX5_pointsTo 4 (some .int) 1 := lnkV_of (by decide +kernel) (by decide +kernel)
theorem lk_X5_138 : LnkV RX5 138 yX5_putAside cX5_putAside 2 none 0 := lnkV_of (by decide +kernel) (by decide +kernel)
theorem lk_X5_141 : LnkV RX5 141 yX5_putBack cX5_putBack 2 none 0 := lnkV_of (by decide +kernel) (by decide +kernel)
theorem lk_X5_156 : LnkV RX5 156 yX5_to cX5_to 3 (some .int) 2 := lnkV_of (by decide +kernel) (by decide +kernel)
theorem lk_X5_159 : LnkV RX5 159 yX5_run cX5_run 7 (some .int) 3 := lnkV_of (by decide +kernel) (by decide +kernel)
theorem lk_X5_162 : LnkV RX5 162 yX5_store cX5_store 3 none 1 := lnkV_of (by decide +kernel) (by decide +kernel)
theorem lk_X5_165 : LnkV RX5 165 yX5_choices cX5_choices 1 (some .int) 0 := lnkV_of (by decide +kernel) (by decide +kernel)
theorem lk_X5_168 : LnkV RX5 168 yX5_restore cX5_restore 3 none 1 := lnkV_of (by decide +kernel) (by decide +kernel)
theorem lk_X5_171 : LnkV RX5 171 yX5_search cX5_search 5 (some .boolean) 1 := lnkV_of (by decide +kernel) (by decide +kernel)
theorem lk_X5_174 : LnkV RX5 174 yX5_isSolvedBy cX5_isSolvedBy 3 (some .boolean) 1 := lnkV_of (by decide +kernel) (by decide +kernel)
theorem lk_X5_186 : LnkV RX5 186 yX5_fails cX5_fails 3 none 2 := lnkV_of (by decide +kernel) (by decide +kernel)
theorem lk_X5_190 : LnkV RX5 190 yX5_readByte cX5_readByte 4 none 1 := lnkV_of (by decide +kernel) (by decide +kernel)
theorem lk_X5_193 : LnkV RX5 193 yX5_readAll cX5_readAll 2 none 0 := lnkV_of (by decide +kernel) (by decide +kernel)
theorem lk_X5_196 : LnkS RX5 196 yX5_isImage cX5_isImage 1 (some .boolean) 1 := lnkS_of (by decide +kernel) (by decide +kernel)
theorem lk_X5_48 : LnkV RX5 48 yX5_lay cX5_lay 3 none 1 := lnkV_of (by decide +kernel) (by decide +kernel)
theorem lk_X5_52 : LnkS RX5 52 yX5_isIn cX5_isIn 3 (some .boolean) 3 := lnkS_of (by decide +kernel) (by decide +kernel)
theorem lk_X5_60 : LnkS RX5 60 yX5_c cX5_c 1 (some .int) 1 := lnkS_of (by decide +kernel) (by decide +kernel)
theorem lk_X5_64 : LnkV RX5 64 yX5_isMagnet cX5_isMagnet 2 (some .boolean) 1 := lnkV_of (by decide +kernel) (by decide +kernel)
theorem lk_X5_68 : LnkV RX5 68 yX5_angle cX5_angle 2 (some .int) 1 := lnkV_of (by decide +kernel) (by decide +kernel)
theorem lk_X5_71 : LnkS RX5 71 yX5_pull cX5_pull 2 (some .int) 2 := lnkS_of (by decide +kernel) (by decide +kernel)
theorem lk_X5_75 : LnkV RX5 75 yX5_pair cX5_pair 5 (some .int) 3 := lnkV_of (by decide +kernel) (by decide +kernel)
theorem lk_X5_79 : LnkV RX5 79 yX5_field cX5_field 2 (some .int) 1 := lnkV_of (by decide +kernel) (by decide +kernel)
theorem lk_X5_82 : LnkV RX5 82 yX5_part cX5_part 3 (some .int) 2 := lnkV_of (by decide +kernel) (by decide +kernel)
theorem lk_X5_85 : LnkS RX5 85 yX5_turned cX5_turned 2 (some .int) 2 := lnkS_of (by decide +kernel) (by decide +kernel)
theorem lk_X5_88 : LnkV RX5 88 yX5_free cX5_free 3 (some .int) 2 := lnkV_of (by decide +kernel) (by decide +kernel)
theorem lk_X5_91 : LnkV RX5 91 yX5_note cX5_note 5 none 3 := lnkV_of (by decide +kernel) (by decide +kernel)
theorem lk_X5_95 : LnkV RX5 95 yX5_energy cX5_energy 3 (some .int) 0 := lnkV_of (by decide +kernel) (by decide +kernel)
theorem lk_X5_99 : LnkV RX5 99 yX5_settle cX5_settle 9 (some .int) 0 := lnkV_of (by decide +kernel) (by decide +kernel)
end
section
/-! ===== small rows ===== -/
theorem nadd {x y : Int32} {a b : Nat} (hx : x = nI a) (hy : y = nI b) : x + y = nI (a + b) := by rw [hx, hy]; exact nI_add a b
theorem nmul {x y : Int32} {a b : Nat} (hx : x = nI a) (hy : y = nI b) : x * y = nI (a * b) := by rw [hx, hy]; exact pk_mul a b
theorem nsub {x y : Int32} {a b : Nat} (hx : x = nI a) (hy : y = nI b) (h : b ≤ a) : x - y = nI (a - b) := by rw [hx, hy]; exact pk_sub h
theorem ndec {x : Int32} {a : Nat} (hx : x = nI a) (h : 1 ≤ a) : x + Int32.ofInt (-1) = nI (a - 1) := by
  rw [hx]
  obtain ⟨b, rfl⟩ : ∃ b, a = b + 1 := ⟨a - 1, by omega⟩
  exact pk_m1 b
section Ends
variable {Γ : GT} {K : KT} {cc : ByteArray} {own : String} {nL d : Nat} {M M' : Mem} {L : List (Nat × Value)} {pc : Nat}
theorem wm_iret {v r : Int32} (hg : Gd Γ K cc own nL d) (hr : RK Γ K (some .int) (some (.int r)) M') (hd : decode cc pc = .ok (.ireturn, 1)) (hv : v = r) (hM : M = M') : WM Γ K M L pc [.int v] := by
  subst hv; subst hM
  exact wm_ireturn hg hr hd
theorem wm_zret {v r : Int32} (hg : Gd Γ K cc own nL d) (hr : RK Γ K (some .boolean) (some (.int r)) M') (hd : decode cc pc = .ok (.ireturn, 1)) (hv : v = r) (hM : M = M') (hz : v = 0 ∨ v = 1) : WM Γ K M L pc [.int v] := by
  subst hv; subst hM
  exact wm_zreturn hg hr hz hd
theorem wm_vret (hg : Gd Γ K cc own nL d) (hr : RK Γ K none none M') (hd : decode cc pc = .ok (.return_, 1)) (hM : M = M') : WM Γ K M L pc [] := by
  subst hM
  exact wm_return hg hr hd
theorem wm_fret {v r : UInt32} (hg : Gd Γ K cc own nL d) (hr : RK Γ K (some .float) (some (.float r)) M') (hd : decode cc pc = .ok (.freturn, 1)) (hv : v = r) (hM : M = M') : WM Γ K M L pc [.float v] := by
  subst hv; subst hM
  exact wm_freturn hg hr hd
end Ends
/-! ===== numbers of the class: cosines and pulls ===== -/
def cosI (x : Int32) : Int32 := cosV (x.toBitVec.toNat % 2 ^ 3)
def pull (a b : Int32) : Int32 := 10 * cosI (a - b) - 3 * cosI a * cosI b
theorem lpLe {x : Int32} {N i : Nat} (hx : x = nI N) (hN : N < 2 ^ 31 ∧ i < 2 ^ 31) (h : N ≤ i) : x ≤ nI i := by rw [hx]; exact nI_le h hN.2
theorem lpLt {x : Int32} {N i : Nat} (hx : x = nI N) (hN : N < 2 ^ 31 ∧ i < 2 ^ 31) (h : i < N) : ¬ x ≤ nI i := by rw [hx]; exact nI_ge h hN.1
theorem nI_self {x : Int32} (h : ¬ x < 0) : x = nI x.toNatClampNeg := by
  obtain ⟨j, hj, rfl⟩ := nI_of h
  rw [nI_clamp hj]
theorem clampLt {x y : Int32} {n : Nat} (hy : y = nI n) (hn : n < 2 ^ 31) (h0 : ¬ x < 0) (h : ¬ y ≤ x) : x.toNatClampNeg < n := by
  obtain ⟨j, hj, rfl⟩ := nI_of h0
  rw [nI_clamp hj]
  rw [hy] at h
  rcases Nat.lt_or_ge j n with q | q
  · exact q
  · exact absurd (nI_le q hj) h
/-! ===== chains: pure ===== -/
def szN (X : OV) : Nat := (X.1 0).toNatClampNeg
def ok10 (X : OV) : Prop := X.1 0 = nI (szN X) ∧ szN X ≤ 10
def pOn (X : OV) (a p : Int32) : Int32 := if p < 0 then 0 else if X.1 0 ≤ p then 0 else pull a (X.2 1 p.toNatClampNeg)
def pof (X : OV) (a : Int32) : Int32 := -(X.1 6) * cosI (a - X.1 7) * 10
def part (X : OV) (i a : Int32) : Int32 := X.1 4 * (pOn X a (i - 1) + pOn X a (i + 1)) + X.1 4 / 8 * (pOn X a (i - 2) + pOn X a (i + 2)) + pof X a
def freed (X : OV) (t : Nat) (d : Int32) : Int32 := part X (nI t) (X.2 1 t) - part X (nI t) (X.2 1 t + d)
def pNb (X : OV) (t : Nat) : Int32 := X.1 4 * (pOn X (X.2 1 t) (nI t - 1) + pOn X (X.2 1 t) (nI t + 1))
def enS (X : OV) : Nat → Int32
  | 0 => 0
  | i + 1 => enS X i + (X.1 4 * pOn X (X.2 1 i) (nI i + 1) + X.1 4 / 8 * pOn X (X.2 1 i) (nI i + 2) + pof X (X.2 1 i))
def energy (X : OV) : Int32 := enS X (szN X)
def ptS (X : OV) (s : Int32) : Nat → Int32
  | 0 => 0
  | i + 1 => ptS X s i + cosI (X.2 1 i - s)
def waS (X : OV) : Nat → Int32
  | 0 => 0
  | i + 1 => waS X i + (if X.2 1 i = X.2 1 (i + 1) then 0 else 1)
def gmS (X : OV) : Nat → Int32
  | 0 => 0
  | i + 1 => gmS X i + (if X.2 3 i = -1000000009 then 0 else if X.2 3 i = X.2 1 i then 0 else 1)
def heS (X : OV) : Nat → Int32
  | 0 => 0
  | i + 1 => heS X i + X.2 2 i
def dfS (X Y : OV) : Nat → Int32
  | 0 => 0
  | i + 1 => dfS X Y i + (if X.2 1 i = Y.2 1 i then 0 else 1)
end
section
/-! ===== memories that hold the same cells ===== -/
def oeq (ci : Nat) (X Y : OV) : Prop := (∀ j, isI ci j = true → X.1 j = Y.1 j) ∧ (∀ s, isA ci s = true → ∀ k, k < alen ci s → X.2 s k = Y.2 s k) ∧ (ci = 4 → ∀ k, k < 2 → X.2 4 k = Y.2 4 k)
def meq (M M' : Mem) : Prop := (∀ k, k < 8 → M.2 k = M'.2 k) ∧ ∀ ci i, oeq ci (M.1 ci i) (M'.1 ci i)
theorem oeq.rf (ci : Nat) (X : OV) : oeq ci X X := ⟨fun _ _ => rfl, fun _ _ _ _ => rfl, fun _ _ _ => rfl⟩
theorem meq.rf (M : Mem) : meq M M := ⟨fun _ _ => rfl, fun ci i => oeq.rf ci _⟩
theorem meq_sO {M M' : Mem} {ci i : Nat} {X Y : OV} (h : meq M M') (hX : oeq ci X Y) : meq (sO M ci i X) (sO M' ci i Y) := by
  refine ⟨h.1, fun c' i' => ?_⟩
  by_cases hz : c' = ci ∧ i' = i
  · obtain ⟨rfl, rfl⟩ := hz
    rw [sO_same, sO_same]
    exact hX
  · have e1 : (sO M ci i X).1 c' i' = M.1 c' i' := by simp only [sO, if_neg hz]
    have e2 : (sO M' ci i Y).1 c' i' = M'.1 c' i' := by simp only [sO, if_neg hz]
    rw [e1, e2]
    exact h.2 c' i'
theorem arrV_congr {c : ClassId} {n : Nat} {f g : Nat → Value} (h : ∀ j, j < n → f j = g j) : arrV c n f = arrV c n g := by
  unfold arrV
  congr 1
  refine congrArg Array.ofFn ?_
  funext j
  exact h j.1 j.2
theorem flds_eq (Γ : GT) {M M' : Mem} {ci i : Nat} (h6 : ci < 6) (h : oeq ci (M.1 ci i) (M'.1 ci i)) : flds Γ M ci i = flds Γ M' ci i := by
  have h1 := h.1
  rcases (show ci = 0 ∨ ci = 1 ∨ ci = 2 ∨ ci = 3 ∨ ci = 4 ∨ ci = 5 by omega) with rfl | rfl | rfl | rfl | rfl | rfl
  · simp only [flds]; rw [h1 0 rfl, h1 1 rfl, h1 2 rfl, h1 3 rfl, h1 4 rfl]
  · simp only [flds]; rw [h1 0 rfl, h1 4 rfl, h1 5 rfl, h1 6 rfl, h1 7 rfl]
  · rfl
  · simp only [flds]; rw [h1 1 rfl, h1 2 rfl, h1 3 rfl]
  · simp only [flds]; rw [h1 2 rfl]
  · simp only [flds]; rw [h1 2 rfl, h1 6 rfl, h1 7 rfl, h1 8 rfl, h1 10 rfl, h1 11 rfl, h1 12 rfl, h1 13 rfl, h1 18 rfl, h1 19 rfl, h1 20 rfl]
theorem keys_ci {ci i j : Nat} (h : (ci, i, j) ∈ keys) : ci < 6 ∧ okJ ci j = true := by
  unfold keys at h
  obtain ⟨a, ha, h1⟩ := List.mem_flatMap.mp h
  obtain ⟨b, hb, h2⟩ := List.mem_flatMap.mp h1
  obtain ⟨c, hc, h3⟩ := List.mem_map.mp h2
  cases h3
  exact ⟨List.mem_range.mp ha, (List.mem_filter.mp hc).2⟩
theorem meq_va {Γ : GT} {M M' : Mem} {cl : List vw_C} {D : va_G} {H : Heap} (h : meq M M') (hP : va_P D cl (mem Γ M) H) : va_P D cl (mem Γ M') H := by
  intro q x hq
  obtain ⟨⟨ci, i, j⟩, hk, rfl⟩ := mem_inv hq
  have h0 := hP q (ad Γ ci i j, cell Γ M ci i j) (by unfold mem; rw [List.getElem?_map, hk]; rfl)
  obtain ⟨hci, hok⟩ := keys_ci (List.mem_of_getElem? hk)
  show va_at D cl (ad Γ ci i j, cell Γ M' ci i j) H
  cases j with
  | zero =>
    rcases Nat.lt_or_ge ci 6 with _ | _
    · have e : cell Γ M' ci i 0 = cell Γ M ci i 0 := by
        show (Sum.inr (ci, flds Γ M' ci i) : va_E) = Sum.inr (ci, flds Γ M ci i)
        rw [flds_eq Γ hci (h.2 ci i)]
      rw [e]
      exact h0
    · omega
  | succ s =>
    have hs : isA ci s = true ∨ isR ci s = true := by
      have h9 : (isA ci s || isR ci s) = true := hok
      rwa [Bool.or_eq_true] at h9
    rcases hs with hs | hs
    · have e0 : cell Γ M ci i (s + 1) = .inl (Γ.2.2.1.1, alen ci s, .inl ((M.1 ci i).2 s)) := acell_isA Γ M hs
      have e1 : cell Γ M' ci i (s + 1) = .inl (Γ.2.2.1.1, alen ci s, .inl ((M'.1 ci i).2 s)) := acell_isA Γ M' hs
      rw [e0] at h0
      rw [e1]
      refine (show H[ad Γ ci i (s + 1)]? = some (vp_cell _ _) from h0).trans ?_
      rw [vp_cell_i, vp_cell_i]
      rw [arrV_congr (fun k hk => by rw [(h.2 ci i).2.1 s hs k hk])]
    · unfold isR at hs
      simp only [Bool.and_eq_true, Bool.or_eq_true, Nat.beq_eq] at hs
      obtain ⟨rfl, ((rfl | rfl) | rfl) | rfl⟩ := hs
      · refine (show H[ad Γ 4 i 2]? = some (vp_cell _ _) from h0).trans ?_
        show _ = some (vp_cell _ _)
        rw [vp_cell_q, vp_cell_q]
        rw [arrV_congr (fun k hk => by rw [h.1 k hk])]
      · exact h0
      · refine (show H[ad Γ 4 i 5]? = some (vp_cell _ _) from h0).trans ?_
        show _ = some (vp_cell _ _)
        rw [vp_cell_i, vp_cell_i]
        rw [arrV_congr (fun k hk => by rw [(h.2 4 i).2.2 rfl k hk])]
      · exact h0
theorem wm_meq {Γ : GT} {K : KT} {M M' : Mem} {L : List (Nat × Value)} {pc : Nat} {st : List Value} (h : meq M M') (kk : WM Γ K M' L pc st) : WM Γ K M L pc st := wm_cells (fun _ hP => meq_va h hP) kk
end
section
/-! ===== the static methods of MagnetChain ===== -/
def wthn (v lo hi : Int32) : Int32 := if v < lo then 0 else if hi < v then 0 else 1
def isAng (v : Int32) : Int32 := wthn v 0 7
def isPsh (b : Int32) : Int32 := if b = 0 then 0 else if wthn b (-4) 4 = 0 then 0 else 1
def isLp (most step : Int32) : Int32 := if wthn most 1 100 = 0 then 0 else if wthn step 1 100 = 0 then 0 else if step * 10 < most then 0 else if most - most / step * step = 0 then 1 else 0
def isSet (what v : Int32) : Int32 := if what = 0 then wthn v 0 20 else if what = 1 then wthn v 0 2000 else if what = 2 then wthn v 0 100 else if what = 3 then isAng v else 0
def stepsUp (k up : Int32) : Int32 := if up < k then (if 3 * up < k then k - 4 * up else 2 * up - k) else k
theorem wthn_01 (v lo hi : Int32) : wthn v lo hi = 0 ∨ wthn v lo hi = 1 := by
  unfold wthn
  split
  · exact Or.inl rfl
  · split
    · exact Or.inl rfl
    · exact Or.inr rfl
theorem wthn_iff {v lo hi : Int32} : wthn v lo hi = 0 ↔ (v < lo ∨ hi < v) := by
  unfold wthn
  split
  · simp_all
  · split <;> simp_all
set_option maxRecDepth 100000 in
set_option maxHeartbeats 4000000 in
theorem c_X4_isWithin {Γ : GT} {M : Mem} {v lo hi : Int32} : Ct Γ yX4_isWithin cX4_isWithin 3 (some .boolean) 0 [.int v, .int lo, .int hi] M (some (.int (wthn v lo hi))) M := by
  refine ct_of (by decide) (Nat.le_of_ble_eq_true rfl) (fun K hg hr => ?_)
  show WM Γ K _ [(0, _), (1, _), (2, _)] 0 []
  refine wm_iload_n (q := 1) (i := 0) hg dX4_isWithin_0 rfl rfl rfl ?_
  refine wm_iload_n (q := 2) (i := 1) hg dX4_isWithin_1 rfl rfl rfl ?_
  refine wm_icmp_lt (q := 14) (q2 := 5) hg dX4_isWithin_2 (by decide) rfl (fun h1 => ?_) (fun h1 => ?_)
  · refine wm_iconst (q := 15) 0 hg dX4_isWithin_14 rfl (by decide) ?_
    exact wm_zret hg hr dX4_isWithin_15 (by simp [wthn, h1]) (rfl) (by decide)
  · refine wm_iload_n (q := 6) (i := 0) hg dX4_isWithin_5 rfl rfl rfl ?_
    refine wm_iload_n (q := 7) (i := 2) hg dX4_isWithin_6 rfl rfl rfl ?_
    refine wm_icmp_gt (q := 14) (q2 := 10) hg dX4_isWithin_7 (by decide) rfl (fun h2 => ?_) (fun h2 => ?_)
    · refine wm_iconst (q := 15) 0 hg dX4_isWithin_14 rfl (by decide) ?_
      exact wm_zret hg hr dX4_isWithin_15 (by simp [wthn, h1, h2]) (rfl) (by decide)
    · refine wm_iconst (q := 11) 1 hg dX4_isWithin_10 rfl (by decide) ?_
      refine wm_goto (q := 15) hg dX4_isWithin_11 (by decide) ?_
      exact wm_zret hg hr dX4_isWithin_15 (by simp [wthn, h1, h2]) (rfl) (by decide)
set_option maxRecDepth 100000 in
set_option maxHeartbeats 4000000 in
theorem c_X4_isAngle {Γ : GT} {M : Mem} {v : Int32} : Ct Γ yX4_isAngle cX4_isAngle 1 (some .boolean) 1 [.int v] M (some (.int (isAng v))) M := by
  refine ct_of (by decide) (Nat.le_of_ble_eq_true rfl) (fun K hg hr => ?_)
  show WM Γ K _ [(0, _)] 0 []
  refine wm_iload_n (q := 1) (i := 0) hg dX4_isAngle_0 rfl rfl rfl ?_
  refine wm_iconst (q := 2) 0 hg dX4_isAngle_1 rfl (by decide) ?_
  refine wm_bipush (q := 4) 7 hg dX4_isAngle_2 rfl (by decide) ?_
  refine wm_callS1 (q := 7) hg dX4_isAngle_4 rfl lk_X4_45 (by decide) c_X4_isWithin rfl rfl (Nat.le_of_ble_eq_true rfl) ?_
  exact wm_zret hg hr dX4_isAngle_7 (rfl) (rfl) (wthn_01 _ _ _)
set_option maxRecDepth 100000 in
set_option maxHeartbeats 4000000 in
theorem c_X4_isPush {Γ : GT} {M : Mem} {b : Int32} : Ct Γ yX4_isPush cX4_isPush 1 (some .boolean) 1 [.int b] M (some (.int (isPsh b))) M := by
  refine ct_of (by decide) (Nat.le_of_ble_eq_true rfl) (fun K hg hr => ?_)
  show WM Γ K _ [(0, _)] 0 []
  refine wm_iload_n (q := 1) (i := 0) hg dX4_isPush_0 rfl rfl rfl ?_
  refine wm_if_eq (q := 18) (q2 := 4) hg dX4_isPush_1 (by decide) rfl (fun h1 => ?_) (fun h1 => ?_)
  · refine wm_iconst (q := 19) 0 hg dX4_isPush_18 rfl (by decide) ?_
    exact wm_zret hg hr dX4_isPush_19 (by simp [isPsh, h1]) (rfl) (by decide)
  · refine wm_iload_n (q := 5) (i := 0) hg dX4_isPush_4 rfl rfl rfl ?_
    refine wm_bipush (q := 7) (-4) hg dX4_isPush_5 rfl (by decide) ?_
    refine wm_iconst (q := 8) 4 hg dX4_isPush_7 rfl (by decide) ?_
    refine wm_callS1 (q := 11) hg dX4_isPush_8 rfl lk_X4_45 (by decide) c_X4_isWithin rfl rfl (Nat.le_of_ble_eq_true rfl) ?_
    refine wm_if_eq (q := 18) (q2 := 14) hg dX4_isPush_11 (by decide) rfl (fun h2 => ?_) (fun h2 => ?_)
    · refine wm_iconst (q := 19) 0 hg dX4_isPush_18 rfl (by decide) ?_
      exact wm_zret hg hr dX4_isPush_19 (by simp [isPsh, h1, h2]) (rfl) (by decide)
    · refine wm_iconst (q := 15) 1 hg dX4_isPush_14 rfl (by decide) ?_
      refine wm_goto (q := 19) hg dX4_isPush_15 (by decide) ?_
      exact wm_zret hg hr dX4_isPush_19 (by simp [isPsh, h1, h2]) (rfl) (by decide)
set_option maxRecDepth 100000 in
set_option maxHeartbeats 4000000 in
theorem c_X4_isLoop {Γ : GT} {M : Mem} {most step : Int32} : Ct Γ yX4_isLoop cX4_isLoop 2 (some .boolean) 1 [.int most, .int step] M (some (.int (isLp most step))) M := by
  refine ct_of (by decide) (Nat.le_of_ble_eq_true rfl) (fun K hg hr => ?_)
  show WM Γ K _ [(0, _), (1, _)] 0 []
  refine wm_iload_n (q := 1) (i := 0) hg dX4_isLoop_0 rfl rfl rfl ?_
  refine wm_iconst (q := 2) 1 hg dX4_isLoop_1 rfl (by decide) ?_
  refine wm_bipush (q := 4) 100 hg dX4_isLoop_2 rfl (by decide) ?_
  refine wm_callS1 (q := 7) hg dX4_isLoop_4 rfl lk_X4_45 (by decide) c_X4_isWithin rfl rfl (Nat.le_of_ble_eq_true rfl) ?_
  refine wm_if_eq (q := 38) (q2 := 10) hg dX4_isLoop_7 (by decide) rfl (fun h1 => ?_) (fun h1 => ?_)
  · refine wm_iconst (q := 39) 0 hg dX4_isLoop_38 rfl (by decide) ?_
    exact wm_zret hg hr dX4_isLoop_39 (by simp [isLp, h1]) (rfl) (by decide)
  · refine wm_iload_n (q := 11) (i := 1) hg dX4_isLoop_10 rfl rfl rfl ?_
    refine wm_iconst (q := 12) 1 hg dX4_isLoop_11 rfl (by decide) ?_
    refine wm_bipush (q := 14) 100 hg dX4_isLoop_12 rfl (by decide) ?_
    refine wm_callS1 (q := 17) hg dX4_isLoop_14 rfl lk_X4_45 (by decide) c_X4_isWithin rfl rfl (Nat.le_of_ble_eq_true rfl) ?_
    refine wm_if_eq (q := 38) (q2 := 20) hg dX4_isLoop_17 (by decide) rfl (fun h2 => ?_) (fun h2 => ?_)
    · refine wm_iconst (q := 39) 0 hg dX4_isLoop_38 rfl (by decide) ?_
      exact wm_zret hg hr dX4_isLoop_39 (by simp [isLp, h1, h2]) (rfl) (by decide)
    · refine wm_iload_n (q := 21) (i := 1) hg dX4_isLoop_20 rfl rfl rfl ?_
      refine wm_bipush (q := 23) 10 hg dX4_isLoop_21 rfl (by decide) ?_
      refine wm_imul (q := 24) hg dX4_isLoop_23 rfl ?_
      refine wm_iload_n (q := 25) (i := 0) hg dX4_isLoop_24 rfl rfl rfl ?_
      refine wm_icmp_lt (q := 38) (q2 := 28) hg dX4_isLoop_25 (by decide) rfl (fun h3 => ?_) (fun h3 => ?_)
      · refine wm_iconst (q := 39) 0 hg dX4_isLoop_38 rfl (by decide) ?_
        exact wm_zret hg hr dX4_isLoop_39 (by simp [isLp, h1, h2, h3]) (rfl) (by decide)
      · refine wm_iload_n (q := 29) (i := 0) hg dX4_isLoop_28 rfl rfl rfl ?_
        refine wm_iload_n (q := 30) (i := 1) hg dX4_isLoop_29 rfl rfl rfl ?_
        refine wm_irem (q := 31) hg dX4_isLoop_30 rfl (fun z => by subst z; simp [wthn] at h2) ?_
        refine wm_if_ne (q := 38) (q2 := 34) hg dX4_isLoop_31 (by decide) rfl (fun h4 => ?_) (fun h4 => ?_)
        · refine wm_iconst (q := 39) 0 hg dX4_isLoop_38 rfl (by decide) ?_
          exact wm_zret hg hr dX4_isLoop_39 (by simp [isLp, h1, h2, h3, h4]) (rfl) (by decide)
        · refine wm_iconst (q := 35) 1 hg dX4_isLoop_34 rfl (by decide) ?_
          refine wm_goto (q := 39) hg dX4_isLoop_35 (by decide) ?_
          exact wm_zret hg hr dX4_isLoop_39 (by simp [isLp, h1, h2, h3, h4]) (rfl) (by decide)
set_option maxRecDepth 100000 in
set_option maxHeartbeats 4000000 in
theorem c_X4_cosine {Γ : GT} {M : Mem} {k : Int32} : Ct Γ yX4_cosine cX4_cosine 1 (some .int) 0 [.int k] M (some (.int (cosI k))) M := by
  refine ct_of (by decide) (Nat.le_of_ble_eq_true rfl) (fun K hg hr => ?_)
  show WM Γ K _ [(0, _)] 0 []
  refine wm_cosines (q := 3) hg dX4_cosine_0 rfl ld_X4_241 ?_
  refine wm_iload_n (q := 4) (i := 0) hg dX4_cosine_3 rfl rfl rfl ?_
  refine wm_bipush (q := 6) 7 hg dX4_cosine_4 rfl (by decide) ?_
  refine wm_iand (q := 7) hg dX4_cosine_6 rfl ?_
  refine wm_cosload (q := 8) _ hg dX4_cosine_7 rfl (pk_and _ 3 rfl) (Nat.mod_lt _ (by decide)) ?_
  exact wm_iret hg hr dX4_cosine_8 (rfl) (rfl)
set_option maxRecDepth 100000 in
set_option maxHeartbeats 4000000 in
theorem c_X4_pull {Γ : GT} {M : Mem} {a b : Int32} : Ct Γ yX4_pull cX4_pull 2 (some .int) 0 [.int a, .int b] M (some (.int (pull a b))) M := by
  refine ct_of (by decide) (Nat.le_of_ble_eq_true rfl) (fun K hg hr => ?_)
  show WM Γ K _ [(0, _), (1, _)] 0 []
  refine wm_bipush (q := 2) 10 hg dX4_pull_0 rfl (by decide) ?_
  refine wm_cosines (q := 5) hg dX4_pull_2 rfl ld_X4_241 ?_
  refine wm_iload_n (q := 6) (i := 0) hg dX4_pull_5 rfl rfl rfl ?_
  refine wm_iload_n (q := 7) (i := 1) hg dX4_pull_6 rfl rfl rfl ?_
  refine wm_isub (q := 8) hg dX4_pull_7 rfl ?_
  refine wm_bipush (q := 10) 7 hg dX4_pull_8 rfl (by decide) ?_
  refine wm_iand (q := 11) hg dX4_pull_10 rfl ?_
  refine wm_cosload (q := 12) _ hg dX4_pull_11 rfl (pk_and _ 3 rfl) (Nat.mod_lt _ (by decide)) ?_
  refine wm_imul (q := 13) hg dX4_pull_12 rfl ?_
  refine wm_iconst (q := 14) 3 hg dX4_pull_13 rfl (by decide) ?_
  refine wm_cosines (q := 17) hg dX4_pull_14 rfl ld_X4_241 ?_
  refine wm_iload_n (q := 18) (i := 0) hg dX4_pull_17 rfl rfl rfl ?_
  refine wm_bipush (q := 20) 7 hg dX4_pull_18 rfl (by decide) ?_
  refine wm_iand (q := 21) hg dX4_pull_20 rfl ?_
  refine wm_cosload (q := 22) _ hg dX4_pull_21 rfl (pk_and _ 3 rfl) (Nat.mod_lt _ (by decide)) ?_
  refine wm_imul (q := 23) hg dX4_pull_22 rfl ?_
  refine wm_cosines (q := 26) hg dX4_pull_23 rfl ld_X4_241 ?_
  refine wm_iload_n (q := 27) (i := 1) hg dX4_pull_26 rfl rfl rfl ?_
  refine wm_bipush (q := 29) 7 hg dX4_pull_27 rfl (by decide) ?_
  refine wm_iand (q := 30) hg dX4_pull_29 rfl ?_
  refine wm_cosload (q := 31) _ hg dX4_pull_30 rfl (pk_and _ 3 rfl) (Nat.mod_lt _ (by decide)) ?_
  refine wm_imul (q := 32) hg dX4_pull_31 rfl ?_
  refine wm_isub (q := 33) hg dX4_pull_32 rfl ?_
  exact wm_iret hg hr dX4_pull_33 (rfl) (rfl)
set_option maxRecDepth 100000 in
set_option maxHeartbeats 4000000 in
theorem c_X4_stepsUp {Γ : GT} {M : Mem} {k up : Int32} : Ct Γ yX4_stepsUp cX4_stepsUp 2 (some .int) 0 [.int k, .int up] M (some (.int (stepsUp k up))) M := by
  refine ct_of (by decide) (Nat.le_of_ble_eq_true rfl) (fun K hg hr => ?_)
  show WM Γ K _ [(0, _), (1, _)] 0 []
  refine wm_iload_n (q := 1) (i := 0) hg dX4_stepsUp_0 rfl rfl rfl ?_
  refine wm_iload_n (q := 2) (i := 1) hg dX4_stepsUp_1 rfl rfl rfl ?_
  refine wm_icmp_gt (q := 7) (q2 := 5) hg dX4_stepsUp_2 (by decide) rfl (fun h1 => ?_) (fun h1 => ?_)
  · refine wm_iload_n (q := 8) (i := 0) hg dX4_stepsUp_7 rfl rfl rfl ?_
    refine wm_iconst (q := 9) 3 hg dX4_stepsUp_8 rfl (by decide) ?_
    refine wm_iload_n (q := 10) (i := 1) hg dX4_stepsUp_9 rfl rfl rfl ?_
    refine wm_imul (q := 11) hg dX4_stepsUp_10 rfl ?_
    refine wm_icmp_gt (q := 22) (q2 := 14) hg dX4_stepsUp_11 (by decide) rfl (fun h2 => ?_) (fun h2 => ?_)
    · refine wm_iload_n (q := 23) (i := 0) hg dX4_stepsUp_22 rfl rfl rfl ?_
      refine wm_iconst (q := 24) 4 hg dX4_stepsUp_23 rfl (by decide) ?_
      refine wm_iload_n (q := 25) (i := 1) hg dX4_stepsUp_24 rfl rfl rfl ?_
      refine wm_imul (q := 26) hg dX4_stepsUp_25 rfl ?_
      refine wm_isub (q := 27) hg dX4_stepsUp_26 rfl ?_
      exact wm_iret hg hr dX4_stepsUp_27 (by simp [stepsUp, h1, h2]) (rfl)
    · refine wm_iconst (q := 15) 2 hg dX4_stepsUp_14 rfl (by decide) ?_
      refine wm_iload_n (q := 16) (i := 1) hg dX4_stepsUp_15 rfl rfl rfl ?_
      refine wm_imul (q := 17) hg dX4_stepsUp_16 rfl ?_
      refine wm_iload_n (q := 18) (i := 0) hg dX4_stepsUp_17 rfl rfl rfl ?_
      refine wm_isub (q := 19) hg dX4_stepsUp_18 rfl ?_
      refine wm_goto (q := 27) hg dX4_stepsUp_19 (by decide) ?_
      exact wm_iret hg hr dX4_stepsUp_27 (by simp [stepsUp, h1, h2]) (rfl)
  · refine wm_iload_n (q := 6) (i := 0) hg dX4_stepsUp_5 rfl rfl rfl ?_
    exact wm_iret hg hr dX4_stepsUp_6 (by simp [stepsUp, h1]) (rfl)
end
section
/-! ===== MagnetChain.Chain: what reads ===== -/
set_option maxRecDepth 100000 in
set_option maxHeartbeats 4000000 in
theorem c_X1_pullOn {Γ : GT} {M : Mem} {c : Nat} {a p : Int32} (hc : c < 15) (hz : ok10 (M.1 1 c)) : Ct Γ yX1_pullOn cX1_pullOn 3 (some .int) 1 [.ref (ad Γ 1 c 0), .int a, .int p] M (some (.int (pOn (M.1 1 c) a p))) M := by
  refine ct_of (by decide) (Nat.le_of_ble_eq_true rfl) (fun K hg hr => ?_)
  show WM Γ K _ [(0, _), (1, _), (2, _)] 0 []
  refine wm_iload_n (q := 1) (i := 2) hg dX1_pullOn_0 rfl rfl rfl ?_
  refine wm_if_lt (q := 25) (q2 := 4) hg dX1_pullOn_1 (by decide) rfl (fun h1 => ?_) (fun h1 => ?_)
  · refine wm_iconst (q := 26) 0 hg dX1_pullOn_25 rfl (by decide) ?_
    exact wm_iret hg hr dX1_pullOn_26 (by simp [pOn, h1]) (rfl)
  · refine wm_iload_n (q := 5) (i := 2) hg dX1_pullOn_4 rfl rfl rfl ?_
    refine wm_aload_n (q := 6) (i := 0) hg dX1_pullOn_5 rfl rfl rfl ?_
    refine wm_get (q := 9) hg dX1_pullOn_6 rfl fl_X1_9 (by first | assumption | decide | omega | (simp only [nO]; omega)) rfl ?_
    refine wm_icmp_ge (q := 25) (q2 := 12) hg dX1_pullOn_9 (by decide) rfl (fun h2 => ?_) (fun h2 => ?_)
    · refine wm_iconst (q := 26) 0 hg dX1_pullOn_25 rfl (by decide) ?_
      exact wm_iret hg hr dX1_pullOn_26 (by simp [pOn, h1, h2]) (rfl)
    · refine wm_iload_n (q := 13) (i := 1) hg dX1_pullOn_12 rfl rfl rfl ?_
      refine wm_aload_n (q := 14) (i := 0) hg dX1_pullOn_13 rfl rfl rfl ?_
      refine wm_get (q := 17) hg dX1_pullOn_14 rfl fl_X1_15 (by first | assumption | decide | omega | (simp only [nO]; omega)) rfl ?_
      refine wm_iload_n (q := 18) (i := 2) hg dX1_pullOn_17 rfl rfl rfl ?_
      refine wm_iaload (q := 19) p.toNatClampNeg hg dX1_pullOn_18 rfl (by first | assumption | decide | omega | (simp only [nO]; omega)) rfl (nI_self h1) (Nat.lt_of_lt_of_le (clampLt hz.1 (by have := hz.2; omega) h1 h2) hz.2) ?_
      refine wm_callN1 (q := 22) hg dX1_pullOn_19 rfl lkN_X4_pull (fun h => h.1) (by decide) c_X4_pull rfl rfl (Nat.le_of_ble_eq_true rfl) ?_
      refine wm_goto (q := 26) hg dX1_pullOn_22 (by decide) ?_
      exact wm_iret hg hr dX1_pullOn_26 (by simp [pOn, h1, h2]) (rfl)
set_option maxRecDepth 100000 in
set_option maxHeartbeats 4000000 in
theorem c_X1_partOfField {Γ : GT} {M : Mem} {c : Nat} {a : Int32} (hc : c < 15) (hz : ok10 (M.1 1 c)) : Ct Γ yX1_partOfField cX1_partOfField 2 (some .int) 1 [.ref (ad Γ 1 c 0), .int a] M (some (.int (pof (M.1 1 c) a))) M := by
  refine ct_of (by decide) (Nat.le_of_ble_eq_true rfl) (fun K hg hr => ?_)
  show WM Γ K _ [(0, _), (1, _)] 0 []
  refine wm_aload_n (q := 1) (i := 0) hg dX1_partOfField_0 rfl rfl rfl ?_
  refine wm_get (q := 4) hg dX1_partOfField_1 rfl fl_X1_31 (by first | assumption | decide | omega | (simp only [nO]; omega)) rfl ?_
  refine wm_ineg (q := 5) hg dX1_partOfField_4 rfl ?_
  refine wm_iload_n (q := 6) (i := 1) hg dX1_partOfField_5 rfl rfl rfl ?_
  refine wm_aload_n (q := 7) (i := 0) hg dX1_partOfField_6 rfl rfl rfl ?_
  refine wm_get (q := 10) hg dX1_partOfField_7 rfl fl_X1_34 (by first | assumption | decide | omega | (simp only [nO]; omega)) rfl ?_
  refine wm_isub (q := 11) hg dX1_partOfField_10 rfl ?_
  refine wm_callN1 (q := 14) hg dX1_partOfField_11 rfl lkN_X4_cosine (fun h => h.2.1) (by decide) c_X4_cosine rfl rfl (Nat.le_of_ble_eq_true rfl) ?_
  refine wm_imul (q := 15) hg dX1_partOfField_14 rfl ?_
  refine wm_bipush (q := 17) 10 hg dX1_partOfField_15 rfl (by decide) ?_
  refine wm_imul (q := 18) hg dX1_partOfField_17 rfl ?_
  exact wm_iret hg hr dX1_partOfField_18 (rfl) (rfl)
set_option maxRecDepth 100000 in
set_option maxHeartbeats 4000000 in
theorem c_X1_partOf {Γ : GT} {M : Mem} {c : Nat} {i a : Int32} (hc : c < 15) (hz : ok10 (M.1 1 c)) : Ct Γ yX1_partOf cX1_partOf 3 (some .int) 2 [.ref (ad Γ 1 c 0), .int i, .int a] M (some (.int (part (M.1 1 c) i a))) M := by
  refine ct_of (by decide) (Nat.le_of_ble_eq_true rfl) (fun K hg hr => ?_)
  show WM Γ K _ [(0, _), (1, _), (2, _)] 0 []
  refine wm_aload_n (q := 1) (i := 0) hg dX1_partOf_0 rfl rfl rfl ?_
  refine wm_get (q := 4) hg dX1_partOf_1 rfl fl_X1_25 (by first | assumption | decide | omega | (simp only [nO]; omega)) rfl ?_
  refine wm_aload_n (q := 5) (i := 0) hg dX1_partOf_4 rfl rfl rfl ?_
  refine wm_iload_n (q := 6) (i := 2) hg dX1_partOf_5 rfl rfl rfl ?_
  refine wm_iload_n (q := 7) (i := 1) hg dX1_partOf_6 rfl rfl rfl ?_
  refine wm_iconst (q := 8) 1 hg dX1_partOf_7 rfl (by decide) ?_
  refine wm_isub (q := 9) hg dX1_partOf_8 rfl ?_
  refine wm_callV1 (q := 12) hg dX1_partOf_9 rfl lk_X1_61 (by decide) (c_X1_pullOn (by first | assumption | decide | omega) (by first | assumption | decide | omega)) (by first | assumption | decide | omega | (simp only [nO]; omega)) ⟨rfl, by decide⟩ rfl rfl (Nat.le_of_ble_eq_true rfl) ?_
  refine wm_aload_n (q := 13) (i := 0) hg dX1_partOf_12 rfl rfl rfl ?_
  refine wm_iload_n (q := 14) (i := 2) hg dX1_partOf_13 rfl rfl rfl ?_
  refine wm_iload_n (q := 15) (i := 1) hg dX1_partOf_14 rfl rfl rfl ?_
  refine wm_iconst (q := 16) 1 hg dX1_partOf_15 rfl (by decide) ?_
  refine wm_iadd (q := 17) hg dX1_partOf_16 rfl ?_
  refine wm_callV1 (q := 20) hg dX1_partOf_17 rfl lk_X1_61 (by decide) (c_X1_pullOn (by first | assumption | decide | omega) (by first | assumption | decide | omega)) (by first | assumption | decide | omega | (simp only [nO]; omega)) ⟨rfl, by decide⟩ rfl rfl (Nat.le_of_ble_eq_true rfl) ?_
  refine wm_iadd (q := 21) hg dX1_partOf_20 rfl ?_
  refine wm_imul (q := 22) hg dX1_partOf_21 rfl ?_
  refine wm_aload_n (q := 23) (i := 0) hg dX1_partOf_22 rfl rfl rfl ?_
  refine wm_get (q := 26) hg dX1_partOf_23 rfl fl_X1_25 (by first | assumption | decide | omega | (simp only [nO]; omega)) rfl ?_
  refine wm_bipush (q := 28) 8 hg dX1_partOf_26 rfl (by decide) ?_
  refine wm_idiv (q := 29) hg dX1_partOf_28 rfl (by decide) ?_
  refine wm_aload_n (q := 30) (i := 0) hg dX1_partOf_29 rfl rfl rfl ?_
  refine wm_iload_n (q := 31) (i := 2) hg dX1_partOf_30 rfl rfl rfl ?_
  refine wm_iload_n (q := 32) (i := 1) hg dX1_partOf_31 rfl rfl rfl ?_
  refine wm_iconst (q := 33) 2 hg dX1_partOf_32 rfl (by decide) ?_
  refine wm_isub (q := 34) hg dX1_partOf_33 rfl ?_
  refine wm_callV1 (q := 37) hg dX1_partOf_34 rfl lk_X1_61 (by decide) (c_X1_pullOn (by first | assumption | decide | omega) (by first | assumption | decide | omega)) (by first | assumption | decide | omega | (simp only [nO]; omega)) ⟨rfl, by decide⟩ rfl rfl (Nat.le_of_ble_eq_true rfl) ?_
  refine wm_aload_n (q := 38) (i := 0) hg dX1_partOf_37 rfl rfl rfl ?_
  refine wm_iload_n (q := 39) (i := 2) hg dX1_partOf_38 rfl rfl rfl ?_
  refine wm_iload_n (q := 40) (i := 1) hg dX1_partOf_39 rfl rfl rfl ?_
  refine wm_iconst (q := 41) 2 hg dX1_partOf_40 rfl (by decide) ?_
  refine wm_iadd (q := 42) hg dX1_partOf_41 rfl ?_
  refine wm_callV1 (q := 45) hg dX1_partOf_42 rfl lk_X1_61 (by decide) (c_X1_pullOn (by first | assumption | decide | omega) (by first | assumption | decide | omega)) (by first | assumption | decide | omega | (simp only [nO]; omega)) ⟨rfl, by decide⟩ rfl rfl (Nat.le_of_ble_eq_true rfl) ?_
  refine wm_iadd (q := 46) hg dX1_partOf_45 rfl ?_
  refine wm_imul (q := 47) hg dX1_partOf_46 rfl ?_
  refine wm_iadd (q := 48) hg dX1_partOf_47 rfl ?_
  refine wm_aload_n (q := 49) (i := 0) hg dX1_partOf_48 rfl rfl rfl ?_
  refine wm_iload_n (q := 50) (i := 2) hg dX1_partOf_49 rfl rfl rfl ?_
  refine wm_callV1 (q := 53) hg dX1_partOf_50 rfl lk_X1_65 (by decide) (c_X1_partOfField (by first | assumption | decide | omega) (by first | assumption | decide | omega)) (by first | assumption | decide | omega | (simp only [nO]; omega)) ⟨rfl, by decide⟩ rfl rfl (Nat.le_of_ble_eq_true rfl) ?_
  refine wm_iadd (q := 54) hg dX1_partOf_53 rfl ?_
  exact wm_iret hg hr dX1_partOf_54 (rfl) (rfl)
set_option maxRecDepth 100000 in
set_option maxHeartbeats 4000000 in
theorem c_X1_freedBy {Γ : GT} {M : Mem} {c : Nat} {t : Nat} {x d : Int32} (hc : c < 15) (hz : ok10 (M.1 1 c)) (hx : x = nI t) (ht : t < 10) : Ct Γ yX1_freedBy cX1_freedBy 3 (some .int) 3 [.ref (ad Γ 1 c 0), .int x, .int d] M (some (.int (freed (M.1 1 c) t d))) M := by
  refine ct_of (by decide) (Nat.le_of_ble_eq_true rfl) (fun K hg hr => ?_)
  show WM Γ K _ [(0, _), (1, _), (2, _)] 0 []
  subst hx
  refine wm_aload_n (q := 1) (i := 0) hg dX1_freedBy_0 rfl rfl rfl ?_
  refine wm_iload_n (q := 2) (i := 1) hg dX1_freedBy_1 rfl rfl rfl ?_
  refine wm_aload_n (q := 3) (i := 0) hg dX1_freedBy_2 rfl rfl rfl ?_
  refine wm_get (q := 6) hg dX1_freedBy_3 rfl fl_X1_15 (by first | assumption | decide | omega | (simp only [nO]; omega)) rfl ?_
  refine wm_iload_n (q := 7) (i := 1) hg dX1_freedBy_6 rfl rfl rfl ?_
  refine wm_iaload (q := 8) t hg dX1_freedBy_7 rfl (by first | assumption | decide | omega | (simp only [nO]; omega)) rfl rfl (by simp only [alen]; omega) ?_
  refine wm_callV1 (q := 11) hg dX1_freedBy_8 rfl lk_X1_69 (by decide) (c_X1_partOf (by first | assumption | decide | omega) (by first | assumption | decide | omega)) (by first | assumption | decide | omega | (simp only [nO]; omega)) ⟨rfl, by decide⟩ rfl rfl (Nat.le_of_ble_eq_true rfl) ?_
  refine wm_aload_n (q := 12) (i := 0) hg dX1_freedBy_11 rfl rfl rfl ?_
  refine wm_iload_n (q := 13) (i := 1) hg dX1_freedBy_12 rfl rfl rfl ?_
  refine wm_aload_n (q := 14) (i := 0) hg dX1_freedBy_13 rfl rfl rfl ?_
  refine wm_get (q := 17) hg dX1_freedBy_14 rfl fl_X1_15 (by first | assumption | decide | omega | (simp only [nO]; omega)) rfl ?_
  refine wm_iload_n (q := 18) (i := 1) hg dX1_freedBy_17 rfl rfl rfl ?_
  refine wm_iaload (q := 19) t hg dX1_freedBy_18 rfl (by first | assumption | decide | omega | (simp only [nO]; omega)) rfl rfl (by simp only [alen]; omega) ?_
  refine wm_iload_n (q := 20) (i := 2) hg dX1_freedBy_19 rfl rfl rfl ?_
  refine wm_iadd (q := 21) hg dX1_freedBy_20 rfl ?_
  refine wm_callV1 (q := 24) hg dX1_freedBy_21 rfl lk_X1_69 (by decide) (c_X1_partOf (by first | assumption | decide | omega) (by first | assumption | decide | omega)) (by first | assumption | decide | omega | (simp only [nO]; omega)) ⟨rfl, by decide⟩ rfl rfl (Nat.le_of_ble_eq_true rfl) ?_
  refine wm_isub (q := 25) hg dX1_freedBy_24 rfl ?_
  exact wm_iret hg hr dX1_freedBy_25 (rfl) (rfl)
set_option maxRecDepth 100000 in
set_option maxHeartbeats 4000000 in
theorem c_X1_pullOfNeighbors {Γ : GT} {M : Mem} {c : Nat} {t : Nat} {x : Int32} (hc : c < 15) (hz : ok10 (M.1 1 c)) (hx : x = nI t) (ht : t < 10) : Ct Γ yX1_pullOfNeighbors cX1_pullOfNeighbors 2 (some .int) 2 [.ref (ad Γ 1 c 0), .int x] M (some (.int (pNb (M.1 1 c) t))) M := by
  refine ct_of (by decide) (Nat.le_of_ble_eq_true rfl) (fun K hg hr => ?_)
  show WM Γ K _ [(0, _), (1, _)] 0 []
  subst hx
  refine wm_aload_n (q := 1) (i := 0) hg dX1_pullOfNeighbors_0 rfl rfl rfl ?_
  refine wm_get (q := 4) hg dX1_pullOfNeighbors_1 rfl fl_X1_25 (by first | assumption | decide | omega | (simp only [nO]; omega)) rfl ?_
  refine wm_aload_n (q := 5) (i := 0) hg dX1_pullOfNeighbors_4 rfl rfl rfl ?_
  refine wm_aload_n (q := 6) (i := 0) hg dX1_pullOfNeighbors_5 rfl rfl rfl ?_
  refine wm_get (q := 9) hg dX1_pullOfNeighbors_6 rfl fl_X1_15 (by first | assumption | decide | omega | (simp only [nO]; omega)) rfl ?_
  refine wm_iload_n (q := 10) (i := 1) hg dX1_pullOfNeighbors_9 rfl rfl rfl ?_
  refine wm_iaload (q := 11) t hg dX1_pullOfNeighbors_10 rfl (by first | assumption | decide | omega | (simp only [nO]; omega)) rfl rfl (by simp only [alen]; omega) ?_
  refine wm_iload_n (q := 12) (i := 1) hg dX1_pullOfNeighbors_11 rfl rfl rfl ?_
  refine wm_iconst (q := 13) 1 hg dX1_pullOfNeighbors_12 rfl (by decide) ?_
  refine wm_isub (q := 14) hg dX1_pullOfNeighbors_13 rfl ?_
  refine wm_callV1 (q := 17) hg dX1_pullOfNeighbors_14 rfl lk_X1_61 (by decide) (c_X1_pullOn (by first | assumption | decide | omega) (by first | assumption | decide | omega)) (by first | assumption | decide | omega | (simp only [nO]; omega)) ⟨rfl, by decide⟩ rfl rfl (Nat.le_of_ble_eq_true rfl) ?_
  refine wm_aload_n (q := 18) (i := 0) hg dX1_pullOfNeighbors_17 rfl rfl rfl ?_
  refine wm_aload_n (q := 19) (i := 0) hg dX1_pullOfNeighbors_18 rfl rfl rfl ?_
  refine wm_get (q := 22) hg dX1_pullOfNeighbors_19 rfl fl_X1_15 (by first | assumption | decide | omega | (simp only [nO]; omega)) rfl ?_
  refine wm_iload_n (q := 23) (i := 1) hg dX1_pullOfNeighbors_22 rfl rfl rfl ?_
  refine wm_iaload (q := 24) t hg dX1_pullOfNeighbors_23 rfl (by first | assumption | decide | omega | (simp only [nO]; omega)) rfl rfl (by simp only [alen]; omega) ?_
  refine wm_iload_n (q := 25) (i := 1) hg dX1_pullOfNeighbors_24 rfl rfl rfl ?_
  refine wm_iconst (q := 26) 1 hg dX1_pullOfNeighbors_25 rfl (by decide) ?_
  refine wm_iadd (q := 27) hg dX1_pullOfNeighbors_26 rfl ?_
  refine wm_callV1 (q := 30) hg dX1_pullOfNeighbors_27 rfl lk_X1_61 (by decide) (c_X1_pullOn (by first | assumption | decide | omega) (by first | assumption | decide | omega)) (by first | assumption | decide | omega | (simp only [nO]; omega)) ⟨rfl, by decide⟩ rfl rfl (Nat.le_of_ble_eq_true rfl) ?_
  refine wm_iadd (q := 31) hg dX1_pullOfNeighbors_30 rfl ?_
  refine wm_imul (q := 32) hg dX1_pullOfNeighbors_31 rfl ?_
  exact wm_iret hg hr dX1_pullOfNeighbors_32 (rfl) (rfl)
set_option maxRecDepth 100000 in
set_option maxHeartbeats 4000000 in
theorem c_X1_energy {Γ : GT} {M : Mem} {c : Nat}  (hc : c < 15) (hz : ok10 (M.1 1 c)) : Ct Γ yX1_energy cX1_energy 4 (some .int) 2 [.ref (ad Γ 1 c 0)] M (some (.int (enS (M.1 1 c) (szN (M.1 1 c))))) M := by
  refine ct_of (by decide) (Nat.le_of_ble_eq_true rfl) (fun K hg hr => ?_)
  show WM Γ K _ [(0, _)] 0 []
  refine wm_iconst (q := 1) 0 hg dX1_energy_0 rfl (by decide) ?_
  refine wm_istore_n (q := 2) (i := 1) (L' := [(0, _), (1, _)]) hg dX1_energy_1 rfl rfl rfl rfl ?_
  refine wm_iconst (q := 3) 0 hg dX1_energy_2 rfl (by decide) ?_
  refine wm_istore_n (q := 4) (i := 2) (L' := [(0, _), (1, _), (2, _)]) hg dX1_energy_3 rfl rfl rfl rfl ?_
  suffices hloop : ∀ (n i : Nat), i + n = (szN (M.1 1 c)) → WM Γ K M [(0, .ref (ad Γ 1 c 0)), (1, .int (enS (M.1 1 c) i)), (2, .int (nI i))] 4 [] from hloop (szN (M.1 1 c)) 0 (by omega)
  intro n
  induction n with
  | zero =>
    intro i hi 
    have hz2 := hz.2
    refine wm_iload_n (q := 5) (i := 2) hg dX1_energy_4 rfl rfl rfl ?_
    refine wm_aload_n (q := 6) (i := 0) hg dX1_energy_5 rfl rfl rfl ?_
    refine wm_get (q := 9) hg dX1_energy_6 rfl fl_X1_9 (by first | assumption | decide | omega | (simp only [nO]; omega)) rfl ?_
    refine wm_icmp_ge (q := 64) (q2 := 12) hg dX1_energy_9 (by decide) rfl (fun hb => ?_) (fun hb => ?_)
    · refine wm_iload_n (q := 65) (i := 1) hg dX1_energy_64 rfl rfl rfl ?_
      exact wm_iret hg hr dX1_energy_65 (by rw [show i = (szN (M.1 1 c)) from hi]) (rfl)
    · exact absurd hb (fun h => h (lpLe hz.1 (by omega) (by omega)))
  | succ n ih =>
    intro i hi 
    have hz2 := hz.2
    refine wm_iload_n (q := 5) (i := 2) hg dX1_energy_4 rfl rfl rfl ?_
    refine wm_aload_n (q := 6) (i := 0) hg dX1_energy_5 rfl rfl rfl ?_
    refine wm_get (q := 9) hg dX1_energy_6 rfl fl_X1_9 (by first | assumption | decide | omega | (simp only [nO]; omega)) rfl ?_
    refine wm_icmp_ge (q := 64) (q2 := 12) hg dX1_energy_9 (by decide) rfl (fun hb => ?_) (fun hb => ?_)
    · exact absurd hb (lpLt hz.1 (by omega) (by omega))
    · refine wm_aload_n (q := 13) (i := 0) hg dX1_energy_12 rfl rfl rfl ?_
      refine wm_get (q := 16) hg dX1_energy_13 rfl fl_X1_15 (by first | assumption | decide | omega | (simp only [nO]; omega)) rfl ?_
      refine wm_iload_n (q := 17) (i := 2) hg dX1_energy_16 rfl rfl rfl ?_
      refine wm_iaload (q := 18) i hg dX1_energy_17 rfl (by first | assumption | decide | omega | (simp only [nO]; omega)) rfl rfl (by simp only [alen]; omega) ?_
      refine wm_istore_n (q := 19) (i := 3) (L' := [(0, _), (1, _), (2, _), (3, _)]) hg dX1_energy_18 rfl rfl rfl rfl ?_
      refine wm_iload_n (q := 20) (i := 1) hg dX1_energy_19 rfl rfl rfl ?_
      refine wm_aload_n (q := 21) (i := 0) hg dX1_energy_20 rfl rfl rfl ?_
      refine wm_get (q := 24) hg dX1_energy_21 rfl fl_X1_25 (by first | assumption | decide | omega | (simp only [nO]; omega)) rfl ?_
      refine wm_aload_n (q := 25) (i := 0) hg dX1_energy_24 rfl rfl rfl ?_
      refine wm_iload_n (q := 26) (i := 3) hg dX1_energy_25 rfl rfl rfl ?_
      refine wm_iload_n (q := 27) (i := 2) hg dX1_energy_26 rfl rfl rfl ?_
      refine wm_iconst (q := 28) 1 hg dX1_energy_27 rfl (by decide) ?_
      refine wm_iadd (q := 29) hg dX1_energy_28 rfl ?_
      refine wm_callV1 (q := 32) hg dX1_energy_29 rfl lk_X1_61 (by decide) (c_X1_pullOn (by first | assumption | decide | omega) (by first | assumption | decide | omega)) (by first | assumption | decide | omega | (simp only [nO]; omega)) ⟨rfl, by decide⟩ rfl rfl (Nat.le_of_ble_eq_true rfl) ?_
      refine wm_imul (q := 33) hg dX1_energy_32 rfl ?_
      refine wm_aload_n (q := 34) (i := 0) hg dX1_energy_33 rfl rfl rfl ?_
      refine wm_get (q := 37) hg dX1_energy_34 rfl fl_X1_25 (by first | assumption | decide | omega | (simp only [nO]; omega)) rfl ?_
      refine wm_bipush (q := 39) 8 hg dX1_energy_37 rfl (by decide) ?_
      refine wm_idiv (q := 40) hg dX1_energy_39 rfl (by decide) ?_
      refine wm_aload_n (q := 41) (i := 0) hg dX1_energy_40 rfl rfl rfl ?_
      refine wm_iload_n (q := 42) (i := 3) hg dX1_energy_41 rfl rfl rfl ?_
      refine wm_iload_n (q := 43) (i := 2) hg dX1_energy_42 rfl rfl rfl ?_
      refine wm_iconst (q := 44) 2 hg dX1_energy_43 rfl (by decide) ?_
      refine wm_iadd (q := 45) hg dX1_energy_44 rfl ?_
      refine wm_callV1 (q := 48) hg dX1_energy_45 rfl lk_X1_61 (by decide) (c_X1_pullOn (by first | assumption | decide | omega) (by first | assumption | decide | omega)) (by first | assumption | decide | omega | (simp only [nO]; omega)) ⟨rfl, by decide⟩ rfl rfl (Nat.le_of_ble_eq_true rfl) ?_
      refine wm_imul (q := 49) hg dX1_energy_48 rfl ?_
      refine wm_iadd (q := 50) hg dX1_energy_49 rfl ?_
      refine wm_aload_n (q := 51) (i := 0) hg dX1_energy_50 rfl rfl rfl ?_
      refine wm_iload_n (q := 52) (i := 3) hg dX1_energy_51 rfl rfl rfl ?_
      refine wm_callV1 (q := 55) hg dX1_energy_52 rfl lk_X1_65 (by decide) (c_X1_partOfField (by first | assumption | decide | omega) (by first | assumption | decide | omega)) (by first | assumption | decide | omega | (simp only [nO]; omega)) ⟨rfl, by decide⟩ rfl rfl (Nat.le_of_ble_eq_true rfl) ?_
      refine wm_iadd (q := 56) hg dX1_energy_55 rfl ?_
      refine wm_iadd (q := 57) hg dX1_energy_56 rfl ?_
      refine wm_istore_n (q := 58) (i := 1) (L' := [(0, _), (1, _), (2, _), (3, _)]) hg dX1_energy_57 rfl rfl rfl rfl ?_
      refine wm_iinc (q := 61) (L' := [(0, _), (1, _), (2, _), (3, _)]) (nI (i + 1)) hg dX1_energy_58 rfl rfl (nadd rfl rfl) rfl rfl ?_
      refine wm_goto (q := 4) hg dX1_energy_61 (by decide) ?_
      refine wm_L (L' := [(0, _), (1, _), (2, _)]) [0, 1, 2] rfl ?_
      exact ih (i + 1) (by omega)
set_option maxRecDepth 100000 in
set_option maxHeartbeats 4000000 in
theorem c_X1_pointsTo {Γ : GT} {M : Mem} {c : Nat} {s : Int32} (hc : c < 15) (hz : ok10 (M.1 1 c)) : Ct Γ yX1_pointsTo cX1_pointsTo 4 (some .int) 1 [.ref (ad Γ 1 c 0), .int s] M (some (.int (ptS (M.1 1 c) s (szN (M.1 1 c))))) M := by
  refine ct_of (by decide) (Nat.le_of_ble_eq_true rfl) (fun K hg hr => ?_)
  show WM Γ K _ [(0, _), (1, _)] 0 []
  refine wm_iconst (q := 1) 0 hg dX1_pointsTo_0 rfl (by decide) ?_
  refine wm_istore_n (q := 2) (i := 2) (L' := [(0, _), (1, _), (2, _)]) hg dX1_pointsTo_1 rfl rfl rfl rfl ?_
  refine wm_iconst (q := 3) 0 hg dX1_pointsTo_2 rfl (by decide) ?_
  refine wm_istore_n (q := 4) (i := 3) (L' := [(0, _), (1, _), (2, _), (3, _)]) hg dX1_pointsTo_3 rfl rfl rfl rfl ?_
  suffices hloop : ∀ (n i : Nat), i + n = (szN (M.1 1 c)) → WM Γ K M [(0, .ref (ad Γ 1 c 0)), (1, .int s), (2, .int (ptS (M.1 1 c) s i)), (3, .int (nI i))] 4 [] from hloop (szN (M.1 1 c)) 0 (by omega)
  intro n
  induction n with
  | zero =>
    intro i hi 
    have hz2 := hz.2
    refine wm_iload_n (q := 5) (i := 3) hg dX1_pointsTo_4 rfl rfl rfl ?_
    refine wm_aload_n (q := 6) (i := 0) hg dX1_pointsTo_5 rfl rfl rfl ?_
    refine wm_get (q := 9) hg dX1_pointsTo_6 rfl fl_X1_9 (by first | assumption | decide | omega | (simp only [nO]; omega)) rfl ?_
    refine wm_icmp_ge (q := 32) (q2 := 12) hg dX1_pointsTo_9 (by decide) rfl (fun hb => ?_) (fun hb => ?_)
    · refine wm_iload_n (q := 33) (i := 2) hg dX1_pointsTo_32 rfl rfl rfl ?_
      exact wm_iret hg hr dX1_pointsTo_33 (by rw [show i = (szN (M.1 1 c)) from hi]) (rfl)
    · exact absurd hb (fun h => h (lpLe hz.1 (by omega) (by omega)))
  | succ n ih =>
    intro i hi 
    have hz2 := hz.2
    refine wm_iload_n (q := 5) (i := 3) hg dX1_pointsTo_4 rfl rfl rfl ?_
    refine wm_aload_n (q := 6) (i := 0) hg dX1_pointsTo_5 rfl rfl rfl ?_
    refine wm_get (q := 9) hg dX1_pointsTo_6 rfl fl_X1_9 (by first | assumption | decide | omega | (simp only [nO]; omega)) rfl ?_
    refine wm_icmp_ge (q := 32) (q2 := 12) hg dX1_pointsTo_9 (by decide) rfl (fun hb => ?_) (fun hb => ?_)
    · exact absurd hb (lpLt hz.1 (by omega) (by omega))
    · refine wm_iload_n (q := 13) (i := 2) hg dX1_pointsTo_12 rfl rfl rfl ?_
      refine wm_aload_n (q := 14) (i := 0) hg dX1_pointsTo_13 rfl rfl rfl ?_
      refine wm_get (q := 17) hg dX1_pointsTo_14 rfl fl_X1_15 (by first | assumption | decide | omega | (simp only [nO]; omega)) rfl ?_
      refine wm_iload_n (q := 18) (i := 3) hg dX1_pointsTo_17 rfl rfl rfl ?_
      refine wm_iaload (q := 19) i hg dX1_pointsTo_18 rfl (by first | assumption | decide | omega | (simp only [nO]; omega)) rfl rfl (by simp only [alen]; omega) ?_
      refine wm_iload_n (q := 20) (i := 1) hg dX1_pointsTo_19 rfl rfl rfl ?_
      refine wm_isub (q := 21) hg dX1_pointsTo_20 rfl ?_
      refine wm_callN1 (q := 24) hg dX1_pointsTo_21 rfl lkN_X4_cosine (fun h => h.2.1) (by decide) c_X4_cosine rfl rfl (Nat.le_of_ble_eq_true rfl) ?_
      refine wm_iadd (q := 25) hg dX1_pointsTo_24 rfl ?_
      refine wm_istore_n (q := 26) (i := 2) (L' := [(0, _), (1, _), (2, _), (3, _)]) hg dX1_pointsTo_25 rfl rfl rfl rfl ?_
      refine wm_iinc (q := 29) (L' := [(0, _), (1, _), (2, _), (3, _)]) (nI (i + 1)) hg dX1_pointsTo_26 rfl rfl (nadd rfl rfl) rfl rfl ?_
      refine wm_goto (q := 4) hg dX1_pointsTo_29 (by decide) ?_
      exact ih (i + 1) (by omega)
set_option maxRecDepth 100000 in
set_option maxHeartbeats 4000000 in
theorem c_X1_heldOnes {Γ : GT} {M : Mem} {c : Nat}  (hc : c < 15) (hz : ok10 (M.1 1 c)) : Ct Γ yX1_heldOnes cX1_heldOnes 3 (some .int) 0 [.ref (ad Γ 1 c 0)] M (some (.int (heS (M.1 1 c) (szN (M.1 1 c))))) M := by
  refine ct_of (by decide) (Nat.le_of_ble_eq_true rfl) (fun K hg hr => ?_)
  show WM Γ K _ [(0, _)] 0 []
  refine wm_iconst (q := 1) 0 hg dX1_heldOnes_0 rfl (by decide) ?_
  refine wm_istore_n (q := 2) (i := 1) (L' := [(0, _), (1, _)]) hg dX1_heldOnes_1 rfl rfl rfl rfl ?_
  refine wm_iconst (q := 3) 0 hg dX1_heldOnes_2 rfl (by decide) ?_
  refine wm_istore_n (q := 4) (i := 2) (L' := [(0, _), (1, _), (2, _)]) hg dX1_heldOnes_3 rfl rfl rfl rfl ?_
  suffices hloop : ∀ (n i : Nat), i + n = (szN (M.1 1 c)) → WM Γ K M [(0, .ref (ad Γ 1 c 0)), (1, .int (heS (M.1 1 c) i)), (2, .int (nI i))] 4 [] from hloop (szN (M.1 1 c)) 0 (by omega)
  intro n
  induction n with
  | zero =>
    intro i hi 
    have hz2 := hz.2
    refine wm_iload_n (q := 5) (i := 2) hg dX1_heldOnes_4 rfl rfl rfl ?_
    refine wm_aload_n (q := 6) (i := 0) hg dX1_heldOnes_5 rfl rfl rfl ?_
    refine wm_get (q := 9) hg dX1_heldOnes_6 rfl fl_X1_9 (by first | assumption | decide | omega | (simp only [nO]; omega)) rfl ?_
    refine wm_icmp_ge (q := 27) (q2 := 12) hg dX1_heldOnes_9 (by decide) rfl (fun hb => ?_) (fun hb => ?_)
    · refine wm_iload_n (q := 28) (i := 1) hg dX1_heldOnes_27 rfl rfl rfl ?_
      exact wm_iret hg hr dX1_heldOnes_28 (by rw [show i = (szN (M.1 1 c)) from hi]) (rfl)
    · exact absurd hb (fun h => h (lpLe hz.1 (by omega) (by omega)))
  | succ n ih =>
    intro i hi 
    have hz2 := hz.2
    refine wm_iload_n (q := 5) (i := 2) hg dX1_heldOnes_4 rfl rfl rfl ?_
    refine wm_aload_n (q := 6) (i := 0) hg dX1_heldOnes_5 rfl rfl rfl ?_
    refine wm_get (q := 9) hg dX1_heldOnes_6 rfl fl_X1_9 (by first | assumption | decide | omega | (simp only [nO]; omega)) rfl ?_
    refine wm_icmp_ge (q := 27) (q2 := 12) hg dX1_heldOnes_9 (by decide) rfl (fun hb => ?_) (fun hb => ?_)
    · exact absurd hb (lpLt hz.1 (by omega) (by omega))
    · refine wm_iload_n (q := 13) (i := 1) hg dX1_heldOnes_12 rfl rfl rfl ?_
      refine wm_aload_n (q := 14) (i := 0) hg dX1_heldOnes_13 rfl rfl rfl ?_
      refine wm_get (q := 17) hg dX1_heldOnes_14 rfl fl_X1_19 (by first | assumption | decide | omega | (simp only [nO]; omega)) rfl ?_
      refine wm_iload_n (q := 18) (i := 2) hg dX1_heldOnes_17 rfl rfl rfl ?_
      refine wm_iaload (q := 19) i hg dX1_heldOnes_18 rfl (by first | assumption | decide | omega | (simp only [nO]; omega)) rfl rfl (by simp only [alen]; omega) ?_
      refine wm_iadd (q := 20) hg dX1_heldOnes_19 rfl ?_
      refine wm_istore_n (q := 21) (i := 1) (L' := [(0, _), (1, _), (2, _)]) hg dX1_heldOnes_20 rfl rfl rfl rfl ?_
      refine wm_iinc (q := 24) (L' := [(0, _), (1, _), (2, _)]) (nI (i + 1)) hg dX1_heldOnes_21 rfl rfl (nadd rfl rfl) rfl rfl ?_
      refine wm_goto (q := 4) hg dX1_heldOnes_24 (by decide) ?_
      exact ih (i + 1) (by omega)
set_option maxRecDepth 100000 in
set_option maxHeartbeats 4000000 in
theorem c_X1_goalsMissed {Γ : GT} {M : Mem} {c : Nat}  (hc : c < 15) (hz : ok10 (M.1 1 c)) : Ct Γ yX1_goalsMissed cX1_goalsMissed 3 (some .int) 0 [.ref (ad Γ 1 c 0)] M (some (.int (gmS (M.1 1 c) (szN (M.1 1 c))))) M := by
  refine ct_of (by decide) (Nat.le_of_ble_eq_true rfl) (fun K hg hr => ?_)
  show WM Γ K _ [(0, _)] 0 []
  refine wm_iconst (q := 1) 0 hg dX1_goalsMissed_0 rfl (by decide) ?_
  refine wm_istore_n (q := 2) (i := 1) (L' := [(0, _), (1, _)]) hg dX1_goalsMissed_1 rfl rfl rfl rfl ?_
  refine wm_iconst (q := 3) 0 hg dX1_goalsMissed_2 rfl (by decide) ?_
  refine wm_istore_n (q := 4) (i := 2) (L' := [(0, _), (1, _), (2, _)]) hg dX1_goalsMissed_3 rfl rfl rfl rfl ?_
  suffices hloop : ∀ (n i : Nat), i + n = (szN (M.1 1 c)) → WM Γ K M [(0, .ref (ad Γ 1 c 0)), (1, .int (gmS (M.1 1 c) i)), (2, .int (nI i))] 4 [] from hloop (szN (M.1 1 c)) 0 (by omega)
  intro n
  induction n with
  | zero =>
    intro i hi 
    have hz2 := hz.2
    refine wm_iload_n (q := 5) (i := 2) hg dX1_goalsMissed_4 rfl rfl rfl ?_
    refine wm_aload_n (q := 6) (i := 0) hg dX1_goalsMissed_5 rfl rfl rfl ?_
    refine wm_get (q := 9) hg dX1_goalsMissed_6 rfl fl_X1_9 (by first | assumption | decide | omega | (simp only [nO]; omega)) rfl ?_
    refine wm_icmp_ge (q := 52) (q2 := 12) hg dX1_goalsMissed_9 (by decide) rfl (fun hb => ?_) (fun hb => ?_)
    · refine wm_iload_n (q := 53) (i := 1) hg dX1_goalsMissed_52 rfl rfl rfl ?_
      exact wm_iret hg hr dX1_goalsMissed_53 (by rw [show i = (szN (M.1 1 c)) from hi]) (rfl)
    · exact absurd hb (fun h => h (lpLe hz.1 (by omega) (by omega)))
  | succ n ih =>
    intro i hi 
    have hz2 := hz.2
    refine wm_iload_n (q := 5) (i := 2) hg dX1_goalsMissed_4 rfl rfl rfl ?_
    refine wm_aload_n (q := 6) (i := 0) hg dX1_goalsMissed_5 rfl rfl rfl ?_
    refine wm_get (q := 9) hg dX1_goalsMissed_6 rfl fl_X1_9 (by first | assumption | decide | omega | (simp only [nO]; omega)) rfl ?_
    refine wm_icmp_ge (q := 52) (q2 := 12) hg dX1_goalsMissed_9 (by decide) rfl (fun hb => ?_) (fun hb => ?_)
    · exact absurd hb (lpLt hz.1 (by omega) (by omega))
    · refine wm_iload_n (q := 13) (i := 1) hg dX1_goalsMissed_12 rfl rfl rfl ?_
      refine wm_aload_n (q := 14) (i := 0) hg dX1_goalsMissed_13 rfl rfl rfl ?_
      refine wm_get (q := 17) hg dX1_goalsMissed_14 rfl fl_X1_22 (by first | assumption | decide | omega | (simp only [nO]; omega)) rfl ?_
      refine wm_iload_n (q := 18) (i := 2) hg dX1_goalsMissed_17 rfl rfl rfl ?_
      refine wm_iaload (q := 19) i hg dX1_goalsMissed_18 rfl (by first | assumption | decide | omega | (simp only [nO]; omega)) rfl rfl (by simp only [alen]; omega) ?_
      refine wm_ldc (q := 21) (-1000000009) hg dX1_goalsMissed_19 rfl ld_X1_37 ?_
      refine wm_icmp_eq (q := 43) (q2 := 24) hg dX1_goalsMissed_21 (by decide) rfl (fun h1 => ?_) (fun h1 => ?_)
      · refine wm_iconst (q := 44) 0 hg dX1_goalsMissed_43 rfl (by decide) ?_
        refine wm_iadd (q := 45) hg dX1_goalsMissed_44 rfl ?_
        refine wm_istore_n (q := 46) (i := 1) (L' := [(0, _), (1, _), (2, _)]) hg dX1_goalsMissed_45 rfl rfl rfl rfl ?_
        refine wm_iinc (q := 49) (L' := [(0, _), (1, _), (2, _)]) (nI (i + 1)) hg dX1_goalsMissed_46 rfl rfl (nadd rfl rfl) rfl rfl ?_
        refine wm_goto (q := 4) hg dX1_goalsMissed_49 (by decide) ?_
        exact wm_Leq (by simp [gmS, *]) (ih (i + 1) (by omega))
      · refine wm_aload_n (q := 25) (i := 0) hg dX1_goalsMissed_24 rfl rfl rfl ?_
        refine wm_get (q := 28) hg dX1_goalsMissed_25 rfl fl_X1_22 (by first | assumption | decide | omega | (simp only [nO]; omega)) rfl ?_
        refine wm_iload_n (q := 29) (i := 2) hg dX1_goalsMissed_28 rfl rfl rfl ?_
        refine wm_iaload (q := 30) i hg dX1_goalsMissed_29 rfl (by first | assumption | decide | omega | (simp only [nO]; omega)) rfl rfl (by simp only [alen]; omega) ?_
        refine wm_aload_n (q := 31) (i := 0) hg dX1_goalsMissed_30 rfl rfl rfl ?_
        refine wm_get (q := 34) hg dX1_goalsMissed_31 rfl fl_X1_15 (by first | assumption | decide | omega | (simp only [nO]; omega)) rfl ?_
        refine wm_iload_n (q := 35) (i := 2) hg dX1_goalsMissed_34 rfl rfl rfl ?_
        refine wm_iaload (q := 36) i hg dX1_goalsMissed_35 rfl (by first | assumption | decide | omega | (simp only [nO]; omega)) rfl rfl (by simp only [alen]; omega) ?_
        refine wm_icmp_eq (q := 43) (q2 := 39) hg dX1_goalsMissed_36 (by decide) rfl (fun h2 => ?_) (fun h2 => ?_)
        · refine wm_iconst (q := 44) 0 hg dX1_goalsMissed_43 rfl (by decide) ?_
          refine wm_iadd (q := 45) hg dX1_goalsMissed_44 rfl ?_
          refine wm_istore_n (q := 46) (i := 1) (L' := [(0, _), (1, _), (2, _)]) hg dX1_goalsMissed_45 rfl rfl rfl rfl ?_
          refine wm_iinc (q := 49) (L' := [(0, _), (1, _), (2, _)]) (nI (i + 1)) hg dX1_goalsMissed_46 rfl rfl (nadd rfl rfl) rfl rfl ?_
          refine wm_goto (q := 4) hg dX1_goalsMissed_49 (by decide) ?_
          exact wm_Leq (by simp [gmS, *]) (ih (i + 1) (by omega))
        · refine wm_iconst (q := 40) 1 hg dX1_goalsMissed_39 rfl (by decide) ?_
          refine wm_goto (q := 44) hg dX1_goalsMissed_40 (by decide) ?_
          refine wm_iadd (q := 45) hg dX1_goalsMissed_44 rfl ?_
          refine wm_istore_n (q := 46) (i := 1) (L' := [(0, _), (1, _), (2, _)]) hg dX1_goalsMissed_45 rfl rfl rfl rfl ?_
          refine wm_iinc (q := 49) (L' := [(0, _), (1, _), (2, _)]) (nI (i + 1)) hg dX1_goalsMissed_46 rfl rfl (nadd rfl rfl) rfl rfl ?_
          refine wm_goto (q := 4) hg dX1_goalsMissed_49 (by decide) ?_
          exact wm_Leq (by simp [gmS, *]) (ih (i + 1) (by omega))
set_option maxRecDepth 100000 in
set_option maxHeartbeats 4000000 in
theorem c_X1_walls {Γ : GT} {M : Mem} {c : Nat}  (hc : c < 15) (hz : ok10 (M.1 1 c)) : Ct Γ yX1_walls cX1_walls 3 (some .int) 0 [.ref (ad Γ 1 c 0)] M (some (.int (waS (M.1 1 c) (szN (M.1 1 c) - 1)))) M := by
  refine ct_of (by decide) (Nat.le_of_ble_eq_true rfl) (fun K hg hr => ?_)
  show WM Γ K _ [(0, _)] 0 []
  refine wm_iconst (q := 1) 0 hg dX1_walls_0 rfl (by decide) ?_
  refine wm_istore_n (q := 2) (i := 1) (L' := [(0, _), (1, _)]) hg dX1_walls_1 rfl rfl rfl rfl ?_
  refine wm_iconst (q := 3) 1 hg dX1_walls_2 rfl (by decide) ?_
  refine wm_istore_n (q := 4) (i := 2) (L' := [(0, _), (1, _), (2, _)]) hg dX1_walls_3 rfl rfl rfl rfl ?_
  suffices hloop : ∀ (n i : Nat), i + n = (szN (M.1 1 c) - 1) → WM Γ K M [(0, .ref (ad Γ 1 c 0)), (1, .int (waS (M.1 1 c) i)), (2, .int (nI (i + 1)))] 4 [] from hloop (szN (M.1 1 c) - 1) 0 (by omega)
  intro n
  induction n with
  | zero =>
    intro i hi 
    have hz2 := hz.2
    refine wm_iload_n (q := 5) (i := 2) hg dX1_walls_4 rfl rfl rfl ?_
    refine wm_aload_n (q := 6) (i := 0) hg dX1_walls_5 rfl rfl rfl ?_
    refine wm_get (q := 9) hg dX1_walls_6 rfl fl_X1_9 (by first | assumption | decide | omega | (simp only [nO]; omega)) rfl ?_
    refine wm_icmp_ge (q := 43) (q2 := 12) hg dX1_walls_9 (by decide) rfl (fun hb => ?_) (fun hb => ?_)
    · refine wm_iload_n (q := 44) (i := 1) hg dX1_walls_43 rfl rfl rfl ?_
      exact wm_iret hg hr dX1_walls_44 (by rw [show i = szN (M.1 1 c) - 1 from hi]) (rfl)
    · exact absurd hb (fun h => h (lpLe hz.1 (by omega) (by omega)))
  | succ n ih =>
    intro i hi 
    have hz2 := hz.2
    refine wm_iload_n (q := 5) (i := 2) hg dX1_walls_4 rfl rfl rfl ?_
    refine wm_aload_n (q := 6) (i := 0) hg dX1_walls_5 rfl rfl rfl ?_
    refine wm_get (q := 9) hg dX1_walls_6 rfl fl_X1_9 (by first | assumption | decide | omega | (simp only [nO]; omega)) rfl ?_
    refine wm_icmp_ge (q := 43) (q2 := 12) hg dX1_walls_9 (by decide) rfl (fun hb => ?_) (fun hb => ?_)
    · exact absurd hb (lpLt hz.1 (by omega) (by omega))
    · refine wm_iload_n (q := 13) (i := 1) hg dX1_walls_12 rfl rfl rfl ?_
      refine wm_aload_n (q := 14) (i := 0) hg dX1_walls_13 rfl rfl rfl ?_
      refine wm_get (q := 17) hg dX1_walls_14 rfl fl_X1_15 (by first | assumption | decide | omega | (simp only [nO]; omega)) rfl ?_
      refine wm_iload_n (q := 18) (i := 2) hg dX1_walls_17 rfl rfl rfl ?_
      refine wm_iconst (q := 19) 1 hg dX1_walls_18 rfl (by decide) ?_
      refine wm_isub (q := 20) hg dX1_walls_19 rfl ?_
      refine wm_iaload (q := 21) i hg dX1_walls_20 rfl (by first | assumption | decide | omega | (simp only [nO]; omega)) rfl (nsub (a := i + 1) (b := 1) rfl rfl (by omega)) (by simp only [alen]; omega) ?_
      refine wm_aload_n (q := 22) (i := 0) hg dX1_walls_21 rfl rfl rfl ?_
      refine wm_get (q := 25) hg dX1_walls_22 rfl fl_X1_15 (by first | assumption | decide | omega | (simp only [nO]; omega)) rfl ?_
      refine wm_iload_n (q := 26) (i := 2) hg dX1_walls_25 rfl rfl rfl ?_
      refine wm_iaload (q := 27) (i + 1) hg dX1_walls_26 rfl (by first | assumption | decide | omega | (simp only [nO]; omega)) rfl rfl (by simp only [alen]; omega) ?_
      refine wm_icmp_eq (q := 34) (q2 := 30) hg dX1_walls_27 (by decide) rfl (fun h1 => ?_) (fun h1 => ?_)
      · refine wm_iconst (q := 35) 0 hg dX1_walls_34 rfl (by decide) ?_
        refine wm_iadd (q := 36) hg dX1_walls_35 rfl ?_
        refine wm_istore_n (q := 37) (i := 1) (L' := [(0, _), (1, _), (2, _)]) hg dX1_walls_36 rfl rfl rfl rfl ?_
        refine wm_iinc (q := 40) (L' := [(0, _), (1, _), (2, _)]) (nI ((i + 1) + 1)) hg dX1_walls_37 rfl rfl (nadd rfl rfl) rfl rfl ?_
        refine wm_goto (q := 4) hg dX1_walls_40 (by decide) ?_
        exact wm_Leq (by simp [waS, *]) (ih (i + 1) (by omega))
      · refine wm_iconst (q := 31) 1 hg dX1_walls_30 rfl (by decide) ?_
        refine wm_goto (q := 35) hg dX1_walls_31 (by decide) ?_
        refine wm_iadd (q := 36) hg dX1_walls_35 rfl ?_
        refine wm_istore_n (q := 37) (i := 1) (L' := [(0, _), (1, _), (2, _)]) hg dX1_walls_36 rfl rfl rfl rfl ?_
        refine wm_iinc (q := 40) (L' := [(0, _), (1, _), (2, _)]) (nI ((i + 1) + 1)) hg dX1_walls_37 rfl rfl (nadd rfl rfl) rfl rfl ?_
        refine wm_goto (q := 4) hg dX1_walls_40 (by decide) ?_
        exact wm_Leq (by simp [waS, *]) (ih (i + 1) (by omega))
set_option maxRecDepth 100000 in
set_option maxHeartbeats 4000000 in
theorem c_X1_differencesFrom {Γ : GT} {M : Mem} {c : Nat} {o : Nat} (hc : c < 15) (hz : ok10 (M.1 1 c)) (ho : o < 15) : Ct Γ yX1_differencesFrom cX1_differencesFrom 4 (some .int) 0 [.ref (ad Γ 1 c 0), .ref (ad Γ 1 o 0)] M (some (.int (dfS (M.1 1 c) (M.1 1 o) (szN (M.1 1 c))))) M := by
  refine ct_of (by decide) (Nat.le_of_ble_eq_true rfl) (fun K hg hr => ?_)
  show WM Γ K _ [(0, _), (1, _)] 0 []
  refine wm_iconst (q := 1) 0 hg dX1_differencesFrom_0 rfl (by decide) ?_
  refine wm_istore_n (q := 2) (i := 2) (L' := [(0, _), (1, _), (2, _)]) hg dX1_differencesFrom_1 rfl rfl rfl rfl ?_
  refine wm_iconst (q := 3) 0 hg dX1_differencesFrom_2 rfl (by decide) ?_
  refine wm_istore_n (q := 4) (i := 3) (L' := [(0, _), (1, _), (2, _), (3, _)]) hg dX1_differencesFrom_3 rfl rfl rfl rfl ?_
  suffices hloop : ∀ (n i : Nat), i + n = (szN (M.1 1 c)) → WM Γ K M [(0, .ref (ad Γ 1 c 0)), (1, .ref (ad Γ 1 o 0)), (2, .int (dfS (M.1 1 c) (M.1 1 o) i)), (3, .int (nI i))] 4 [] from hloop (szN (M.1 1 c)) 0 (by omega)
  intro n
  induction n with
  | zero =>
    intro i hi 
    have hz2 := hz.2
    refine wm_iload_n (q := 5) (i := 3) hg dX1_differencesFrom_4 rfl rfl rfl ?_
    refine wm_aload_n (q := 6) (i := 0) hg dX1_differencesFrom_5 rfl rfl rfl ?_
    refine wm_get (q := 9) hg dX1_differencesFrom_6 rfl fl_X1_9 (by first | assumption | decide | omega | (simp only [nO]; omega)) rfl ?_
    refine wm_icmp_ge (q := 41) (q2 := 12) hg dX1_differencesFrom_9 (by decide) rfl (fun hb => ?_) (fun hb => ?_)
    · refine wm_iload_n (q := 42) (i := 2) hg dX1_differencesFrom_41 rfl rfl rfl ?_
      exact wm_iret hg hr dX1_differencesFrom_42 (by rw [show i = szN (M.1 1 c) from hi]) (rfl)
    · exact absurd hb (fun h => h (lpLe hz.1 (by omega) (by omega)))
  | succ n ih =>
    intro i hi 
    have hz2 := hz.2
    refine wm_iload_n (q := 5) (i := 3) hg dX1_differencesFrom_4 rfl rfl rfl ?_
    refine wm_aload_n (q := 6) (i := 0) hg dX1_differencesFrom_5 rfl rfl rfl ?_
    refine wm_get (q := 9) hg dX1_differencesFrom_6 rfl fl_X1_9 (by first | assumption | decide | omega | (simp only [nO]; omega)) rfl ?_
    refine wm_icmp_ge (q := 41) (q2 := 12) hg dX1_differencesFrom_9 (by decide) rfl (fun hb => ?_) (fun hb => ?_)
    · exact absurd hb (lpLt hz.1 (by omega) (by omega))
    · refine wm_iload_n (q := 13) (i := 2) hg dX1_differencesFrom_12 rfl rfl rfl ?_
      refine wm_aload_n (q := 14) (i := 0) hg dX1_differencesFrom_13 rfl rfl rfl ?_
      refine wm_get (q := 17) hg dX1_differencesFrom_14 rfl fl_X1_15 (by first | assumption | decide | omega | (simp only [nO]; omega)) rfl ?_
      refine wm_iload_n (q := 18) (i := 3) hg dX1_differencesFrom_17 rfl rfl rfl ?_
      refine wm_iaload (q := 19) i hg dX1_differencesFrom_18 rfl (by first | assumption | decide | omega | (simp only [nO]; omega)) rfl rfl (by simp only [alen]; omega) ?_
      refine wm_aload_n (q := 20) (i := 1) hg dX1_differencesFrom_19 rfl rfl rfl ?_
      refine wm_get (q := 23) hg dX1_differencesFrom_20 rfl fl_X1_15 (by first | assumption | decide | omega | (simp only [nO]; omega)) rfl ?_
      refine wm_iload_n (q := 24) (i := 3) hg dX1_differencesFrom_23 rfl rfl rfl ?_
      refine wm_iaload (q := 25) i hg dX1_differencesFrom_24 rfl (by first | assumption | decide | omega | (simp only [nO]; omega)) rfl rfl (by simp only [alen]; omega) ?_
      refine wm_icmp_eq (q := 32) (q2 := 28) hg dX1_differencesFrom_25 (by decide) rfl (fun h1 => ?_) (fun h1 => ?_)
      · refine wm_iconst (q := 33) 0 hg dX1_differencesFrom_32 rfl (by decide) ?_
        refine wm_iadd (q := 34) hg dX1_differencesFrom_33 rfl ?_
        refine wm_istore_n (q := 35) (i := 2) (L' := [(0, _), (1, _), (2, _), (3, _)]) hg dX1_differencesFrom_34 rfl rfl rfl rfl ?_
        refine wm_iinc (q := 38) (L' := [(0, _), (1, _), (2, _), (3, _)]) (nI (i + 1)) hg dX1_differencesFrom_35 rfl rfl (nadd rfl rfl) rfl rfl ?_
        refine wm_goto (q := 4) hg dX1_differencesFrom_38 (by decide) ?_
        exact wm_Leq (by simp [dfS, *]) (ih (i + 1) (by omega))
      · refine wm_iconst (q := 29) 1 hg dX1_differencesFrom_28 rfl (by decide) ?_
        refine wm_goto (q := 33) hg dX1_differencesFrom_29 (by decide) ?_
        refine wm_iadd (q := 34) hg dX1_differencesFrom_33 rfl ?_
        refine wm_istore_n (q := 35) (i := 2) (L' := [(0, _), (1, _), (2, _), (3, _)]) hg dX1_differencesFrom_34 rfl rfl rfl rfl ?_
        refine wm_iinc (q := 38) (L' := [(0, _), (1, _), (2, _), (3, _)]) (nI (i + 1)) hg dX1_differencesFrom_35 rfl rfl (nadd rfl rfl) rfl rfl ?_
        refine wm_goto (q := 4) hg dX1_differencesFrom_38 (by decide) ?_
        exact wm_Leq (by simp [dfS, *]) (ih (i + 1) (by omega))
end
section
/-! ===== MagnetChain.Chain, .Books, .State: what writes ===== -/
def flF (f : Nat → Int32) (v : Int32) (j : Nat) : Nat → Int32 := fun k => if k < j then v else f k
theorem flF_0 (f : Nat → Int32) (v : Int32) : flF f v 0 = f := by
  funext k
  simp [flF]
theorem flF_s (f : Nat → Int32) (v : Int32) (j : Nat) : upd (flF f v j) j v = flF f v (j + 1) := by
  funext k
  simp only [flF, upd]
  by_cases h : k = j
  · subst h
    simp
  · by_cases h2 : k < j
    · simp [h, h2, Nat.lt_succ_of_lt h2]
    · have h3 : ¬ k < j + 1 := by omega
      simp [h, h2, h3]
theorem updA_self (F : Nat → Nat → Int32) (s : Nat) : updA F s (F s) = F := by
  funext s'
  by_cases h : s' = s
  · subst h; simp [updA]
  · simp [updA, h]
theorem sA_self (M : Mem) (ci i s : Nat) : sA M ci i s ((M.1 ci i).2 s) = M := by
  simp only [sA, oA, updA_self]
  exact sO_self M ci i
def turnX (X : OV) (t : Nat) (d : Int32) : OV := oA X 1 (upd (X.2 1) t ((X.2 1 t + d) &&& 7))
def cpX (X Y : OV) (t f : Nat) : OV := (X.1, updA (updA (updA X.2 1 (upd (X.2 1) t (Y.2 1 f))) 2 (upd (X.2 2) t (Y.2 2 f))) 3 (upd (X.2 3) t (Y.2 3 f)))
def apX (X Y : OV) (f : Nat) : OV := oI (cpX X Y (szN X) f) 0 (X.1 0 + 1)
def piL (X : OV) : Nat → OV
  | 0 => X
  | j + 1 => cpX (piL X j) (piL X j) (szN X - j) (szN X - j - 1)
theorem piL_1 (X : OV) : ∀ j, (piL X j).1 = X.1
  | 0 => rfl
  | j + 1 => piL_1 X j
def piX (X : OV) (p : Nat) (a : Int32) : OV := (upd X.1 0 (X.1 0 + 1), updA (updA (updA (piL X (szN X - p)).2 1 (upd ((piL X (szN X - p)).2 1) p a)) 2 (upd ((piL X (szN X - p)).2 2) p 0)) 3 (upd ((piL X (szN X - p)).2 3) p (-1000000009)))
def toL (X : OV) (p : Nat) : Nat → OV
  | 0 => oI X 0 (X.1 0 - 1)
  | j + 1 => cpX (toL X p j) (toL X p j) (p + j) (p + j + 1)
theorem toL_1 (X : OV) (p : Nat) : ∀ j, (toL X p j).1 = upd X.1 0 (X.1 0 - 1)
  | 0 => rfl
  | j + 1 => toL_1 X p j
def toX (X : OV) (p : Nat) : OV := toL X p (szN X - 1 - p)
def miL (X : OV) : Nat → OV
  | 0 => X
  | i + 1 => if (miL X i).2 3 i = -1000000009 then oA (miL X i) 1 (upd ((miL X i).2 1) i ((4 - (miL X i).2 1 i) &&& 7)) else oA (oA (miL X i) 1 (upd ((miL X i).2 1) i ((4 - (miL X i).2 1 i) &&& 7))) 3 (upd ((miL X i).2 3) i ((4 - (miL X i).2 3 i) &&& 7))
theorem miL_1 (X : OV) : ∀ j, (miL X j).1 = X.1
  | 0 => rfl
  | j + 1 => by
    unfold miL
    split <;> exact miL_1 X j
def swX (X : OV) (v : Int32) : OV := (upd X.1 0 v, updA (updA (updA X.2 1 (fun _ => 0)) 2 (fun _ => 0)) 3 (fun _ => -1000000009))
def tmX (X Y : OV) : OV := (upd X.1 0 (Y.1 0), updA (updA (updA X.2 1 (Y.2 1)) 2 (Y.2 2)) 3 (Y.2 3))
theorem cpy0 {f g : Nat → Int32} {n k : Nat} (h : k < n) : va_cpy f g 0 0 n k = f k := by simp [va_cpy, h]
def shF (f : Nat → Int32) : Nat → Int32 := fun k => if k < 29 then f (1 + k) else f k
def doX (B : OV) : OV := (upd B.1 4 29, updA (updA (updA B.2 5 (shF (B.2 5))) 6 (shF (B.2 6))) 7 (shF (B.2 7)))
def lgN (B : OV) : Nat := (B.1 4).toNatClampNeg
def okB (B : OV) : Prop := B.1 4 = nI (lgN B) ∧ lgN B ≤ 30
def enY (B : OV) (m d f : Int32) : OV := (upd (upd (upd B.1 4 (B.1 4 + 1)) 2 (B.1 2 + 1)) 1 (B.1 1 + f), updA (updA (updA B.2 5 (upd (B.2 5) (lgN B) m)) 6 (upd (B.2 6) (lgN B) d)) 7 (upd (B.2 7) (lgN B) f))
def enX (B : OV) (m d f : Int32) : OV := if B.1 4 < 30 then enY B m d f else enY (doX B) m d f
def clX (B : OV) : OV := (upd (upd (upd (upd (upd B.1 0 0) 1 0) 2 0) 3 0) 4 0, B.2)
theorem lgN_do (B : OV) : lgN (doX B) = 29 := rfl
theorem ok10_sO {M : Mem} {c : Nat} {X : OV} (h : ok10 X) : ok10 ((sO M 1 c X).1 1 c) := by rw [sO_same]; exact h
theorem ok10_1 {X Y : OV} (h : Y.1 = X.1) (hX : ok10 X) : ok10 Y := by
  have e : szN Y = szN X := by unfold szN; rw [h]
  exact ⟨by rw [h, e]; exact hX.1, by rw [e]; exact hX.2⟩
set_option maxRecDepth 100000 in
set_option maxHeartbeats 4000000 in
theorem c_J7_fill_53178 {Γ : GT} {M : Mem} {ci i s : Nat} {v : Int32} (hi : i < nO ci) (h : isA ci s = true) : Ct Γ yJ7_fill_53178 cJ7_fill_53178 4 none 0 [.ref (ad Γ ci i (s + 1)), .int v] M none (sA M ci i s (flF ((M.1 ci i).2 s) v (alen ci s))) := by
  refine ct_of (by decide) (Nat.le_of_ble_eq_true rfl) (fun K hg hr => ?_)
  show WM Γ K _ [(0, _), (1, _)] 0 []
  have hb : alen ci s < 2 ^ 31 := by unfold alen; (repeat' split) <;> decide
  refine wm_iconst (q := 1) 0 hg dJ7_fill_53178_0 rfl (by decide) ?_
  refine wm_istore_n (q := 2) (i := 2) (L' := [(0, _), (1, _), (2, _)]) hg dJ7_fill_53178_1 rfl rfl rfl rfl ?_
  refine wm_aload_n (q := 3) (i := 0) hg dJ7_fill_53178_2 rfl rfl rfl ?_
  refine wm_alen (q := 4) hg dJ7_fill_53178_3 rfl (by first | assumption | decide | omega | (simp only [nO]; omega)) h rfl ?_
  refine wm_istore_n (q := 5) (i := 3) (L' := [(0, _), (1, _), (2, _), (3, _)]) hg dJ7_fill_53178_4 rfl rfl rfl rfl ?_
  suffices hloop : ∀ (n j : Nat), j + n = (alen ci s) → WM Γ K (sA M ci i s (flF ((M.1 ci i).2 s) v j)) [(0, .ref (ad Γ ci i (s + 1))), (1, .int v), (2, .int (nI j)), (3, .int (nI (alen ci s)))] 5 [] from wm_mem (by rw [flF_0]; exact (sA_self M ci i s).symm) (hloop (alen ci s) 0 (by omega))
  intro n
  induction n with
  | zero =>
    intro j hj 
    refine wm_iload_n (q := 6) (i := 2) hg dJ7_fill_53178_5 rfl rfl rfl ?_
    refine wm_iload_n (q := 7) (i := 3) hg dJ7_fill_53178_6 rfl rfl rfl ?_
    refine wm_icmp_ge (q := 20) (q2 := 10) hg dJ7_fill_53178_7 (by decide) rfl (fun hb => ?_) (fun hb => ?_)
    · exact wm_vret hg hr dJ7_fill_53178_20 (by rw [show j = alen ci s from hj])
    · exact absurd (nI_le (by omega) (by omega)) hb
  | succ n ih =>
    intro j hj 
    refine wm_iload_n (q := 6) (i := 2) hg dJ7_fill_53178_5 rfl rfl rfl ?_
    refine wm_iload_n (q := 7) (i := 3) hg dJ7_fill_53178_6 rfl rfl rfl ?_
    refine wm_icmp_ge (q := 20) (q2 := 10) hg dJ7_fill_53178_7 (by decide) rfl (fun hb => ?_) (fun hb => ?_)
    · exact absurd hb (nI_ge (by omega) (by omega))
    · refine wm_aload_n (q := 11) (i := 0) hg dJ7_fill_53178_10 rfl rfl rfl ?_
      refine wm_iload_n (q := 12) (i := 2) hg dJ7_fill_53178_11 rfl rfl rfl ?_
      refine wm_iload_n (q := 13) (i := 1) hg dJ7_fill_53178_12 rfl rfl rfl ?_
      refine wm_iastore (q := 14) j hg dJ7_fill_53178_13 rfl (by first | assumption | decide | omega | (simp only [nO]; omega)) h rfl (by omega) ?_
      refine wm_iinc (q := 17) (L' := [(0, _), (1, _), (2, _), (3, _)]) (nI (j + 1)) hg dJ7_fill_53178_14 rfl rfl (nadd rfl rfl) rfl rfl ?_
      refine wm_goto (q := 5) hg dJ7_fill_53178_17 (by decide) ?_
      exact wm_mem (by simp [sO_same, sO_sO, oA, updA_same, updA_updA, flF_s]) (ih (j + 1) (by omega))
set_option maxRecDepth 100000 in
set_option maxHeartbeats 4000000 in
theorem c_X1_copyMagnet {Γ : GT} {M : Mem} {c o t f : Nat} {x y : Int32} (hc : c < 15) (ho : o < 15) (hx : x = nI t) (hy : y = nI f) (ht : t < 10) (hf : f < 10) : Ct Γ yX1_copyMagnet cX1_copyMagnet 4 none 0 [.ref (ad Γ 1 c 0), .int x, .ref (ad Γ 1 o 0), .int y] M none (sO M 1 c (cpX (M.1 1 c) (M.1 1 o) t f)) := by
  refine ct_of (by decide) (Nat.le_of_ble_eq_true rfl) (fun K hg hr => ?_)
  show WM Γ K _ [(0, _), (1, _), (2, _), (3, _)] 0 []
  refine wm_aload_n (q := 1) (i := 0) hg dX1_copyMagnet_0 rfl rfl rfl ?_
  refine wm_get (q := 4) hg dX1_copyMagnet_1 rfl fl_X1_15 (by first | assumption | decide | omega | (simp only [nO]; omega)) rfl ?_
  refine wm_iload_n (q := 5) (i := 1) hg dX1_copyMagnet_4 rfl rfl rfl ?_
  refine wm_aload_n (q := 6) (i := 2) hg dX1_copyMagnet_5 rfl rfl rfl ?_
  refine wm_get (q := 9) hg dX1_copyMagnet_6 rfl fl_X1_15 (by first | assumption | decide | omega | (simp only [nO]; omega)) rfl ?_
  refine wm_iload_n (q := 10) (i := 3) hg dX1_copyMagnet_9 rfl rfl rfl ?_
  refine wm_iaload (q := 11) f hg dX1_copyMagnet_10 rfl (by first | assumption | decide | omega | (simp only [nO]; omega)) rfl hy (by simp only [alen]; omega) ?_
  refine wm_iastore (q := 12) t hg dX1_copyMagnet_11 rfl (by first | assumption | decide | omega | (simp only [nO]; omega)) rfl hx (by simp only [alen]; omega) ?_
  refine wm_aload_n (q := 13) (i := 0) hg dX1_copyMagnet_12 rfl rfl rfl ?_
  refine wm_get (q := 16) hg dX1_copyMagnet_13 rfl fl_X1_19 (by first | assumption | decide | omega | (simp only [nO]; omega)) rfl ?_
  refine wm_iload_n (q := 17) (i := 1) hg dX1_copyMagnet_16 rfl rfl rfl ?_
  refine wm_aload_n (q := 18) (i := 2) hg dX1_copyMagnet_17 rfl rfl rfl ?_
  refine wm_get (q := 21) hg dX1_copyMagnet_18 rfl fl_X1_19 (by first | assumption | decide | omega | (simp only [nO]; omega)) rfl ?_
  refine wm_iload_n (q := 22) (i := 3) hg dX1_copyMagnet_21 rfl rfl rfl ?_
  refine wm_iaload (q := 23) f hg dX1_copyMagnet_22 rfl (by first | assumption | decide | omega | (simp only [nO]; omega)) rfl hy (by simp only [alen]; omega) ?_
  refine wm_iastore (q := 24) t hg dX1_copyMagnet_23 rfl (by first | assumption | decide | omega | (simp only [nO]; omega)) rfl hx (by simp only [alen]; omega) ?_
  refine wm_aload_n (q := 25) (i := 0) hg dX1_copyMagnet_24 rfl rfl rfl ?_
  refine wm_get (q := 28) hg dX1_copyMagnet_25 rfl fl_X1_22 (by first | assumption | decide | omega | (simp only [nO]; omega)) rfl ?_
  refine wm_iload_n (q := 29) (i := 1) hg dX1_copyMagnet_28 rfl rfl rfl ?_
  refine wm_aload_n (q := 30) (i := 2) hg dX1_copyMagnet_29 rfl rfl rfl ?_
  refine wm_get (q := 33) hg dX1_copyMagnet_30 rfl fl_X1_22 (by first | assumption | decide | omega | (simp only [nO]; omega)) rfl ?_
  refine wm_iload_n (q := 34) (i := 3) hg dX1_copyMagnet_33 rfl rfl rfl ?_
  refine wm_iaload (q := 35) f hg dX1_copyMagnet_34 rfl (by first | assumption | decide | omega | (simp only [nO]; omega)) rfl hy (by simp only [alen]; omega) ?_
  refine wm_iastore (q := 36) t hg dX1_copyMagnet_35 rfl (by first | assumption | decide | omega | (simp only [nO]; omega)) rfl hx (by simp only [alen]; omega) ?_
  exact wm_vret hg hr dX1_copyMagnet_36 (by rcases Decidable.em (o = c) with rfl | ho2 <;> simp [cpX, sO_idx, sO_same, sO_sO, oI, oA, updA_same, updA_ne, updA_updA, upd_same, upd_ne, *])
set_option maxRecDepth 100000 in
set_option maxHeartbeats 4000000 in
theorem c_X1_turn {Γ : GT} {M : Mem} {c t : Nat} {x d : Int32} (hc : c < 15) (hx : x = nI t) (ht : t < 10) : Ct Γ yX1_turn cX1_turn 3 none 0 [.ref (ad Γ 1 c 0), .int x, .int d] M none (sO M 1 c (turnX (M.1 1 c) t d)) := by
  refine ct_of (by decide) (Nat.le_of_ble_eq_true rfl) (fun K hg hr => ?_)
  show WM Γ K _ [(0, _), (1, _), (2, _)] 0 []
  refine wm_aload_n (q := 1) (i := 0) hg dX1_turn_0 rfl rfl rfl ?_
  refine wm_get (q := 4) hg dX1_turn_1 rfl fl_X1_15 (by first | assumption | decide | omega | (simp only [nO]; omega)) rfl ?_
  refine wm_iload_n (q := 5) (i := 1) hg dX1_turn_4 rfl rfl rfl ?_
  refine wm_aload_n (q := 6) (i := 0) hg dX1_turn_5 rfl rfl rfl ?_
  refine wm_get (q := 9) hg dX1_turn_6 rfl fl_X1_15 (by first | assumption | decide | omega | (simp only [nO]; omega)) rfl ?_
  refine wm_iload_n (q := 10) (i := 1) hg dX1_turn_9 rfl rfl rfl ?_
  refine wm_iaload (q := 11) t hg dX1_turn_10 rfl (by first | assumption | decide | omega | (simp only [nO]; omega)) rfl hx (by simp only [alen]; omega) ?_
  refine wm_iload_n (q := 12) (i := 2) hg dX1_turn_11 rfl rfl rfl ?_
  refine wm_iadd (q := 13) hg dX1_turn_12 rfl ?_
  refine wm_bipush (q := 15) 7 hg dX1_turn_13 rfl (by decide) ?_
  refine wm_iand (q := 16) hg dX1_turn_15 rfl ?_
  refine wm_iastore (q := 17) t hg dX1_turn_16 rfl (by first | assumption | decide | omega | (simp only [nO]; omega)) rfl hx (by simp only [alen]; omega) ?_
  exact wm_vret hg hr dX1_turn_17 (rfl)
set_option maxRecDepth 100000 in
set_option maxHeartbeats 4000000 in
theorem c_X1_append {Γ : GT} {M : Mem} {c o f : Nat} {x : Int32} (hc : c < 15) (ho : o < 15) (hz : ok10 (M.1 1 c)) (hs : szN (M.1 1 c) < 10) (hx : x = nI f) (hf : f < 10) : Ct Γ yX1_append cX1_append 3 none 1 [.ref (ad Γ 1 c 0), .ref (ad Γ 1 o 0), .int x] M none (sO M 1 c (apX (M.1 1 c) (M.1 1 o) f)) := by
  refine ct_of (by decide) (Nat.le_of_ble_eq_true rfl) (fun K hg hr => ?_)
  show WM Γ K _ [(0, _), (1, _), (2, _)] 0 []
  refine wm_aload_n (q := 1) (i := 0) hg dX1_append_0 rfl rfl rfl ?_
  refine wm_aload_n (q := 2) (i := 0) hg dX1_append_1 rfl rfl rfl ?_
  refine wm_get (q := 5) hg dX1_append_2 rfl fl_X1_9 (by first | assumption | decide | omega | (simp only [nO]; omega)) rfl ?_
  refine wm_aload_n (q := 6) (i := 1) hg dX1_append_5 rfl rfl rfl ?_
  refine wm_iload_n (q := 7) (i := 2) hg dX1_append_6 rfl rfl rfl ?_
  refine wm_callV0 (q := 10) hg dX1_append_7 rfl lk_X1_57 (by decide) (c_X1_copyMagnet (by first | assumption | decide | omega) (by first | assumption | decide | omega) hz.1 hx (by omega) (by omega)) (by first | assumption | decide | omega | (simp only [nO]; omega)) ⟨rfl, by decide⟩ rfl rfl (Nat.le_of_ble_eq_true rfl) ?_
  refine wm_aload_n (q := 11) (i := 0) hg dX1_append_10 rfl rfl rfl ?_
  refine wm_dup (q := 12) hg dX1_append_11 rfl rfl ?_
  refine wm_get (q := 15) hg dX1_append_12 rfl fl_X1_9 (by first | assumption | decide | omega | (simp only [nO]; omega)) rfl ?_
  refine wm_iconst (q := 16) 1 hg dX1_append_15 rfl (by decide) ?_
  refine wm_iadd (q := 17) hg dX1_append_16 rfl ?_
  refine wm_put (q := 20) hg dX1_append_17 rfl fl_X1_9 (by first | assumption | decide | omega | (simp only [nO]; omega)) rfl ?_
  exact wm_vret hg hr dX1_append_20 (by simp [apX, cpX, sO_same, sO_sO, oI, oA, updA_same, updA_ne, updA_updA, upd_same, upd_ne])
set_option maxRecDepth 100000 in
set_option maxHeartbeats 4000000 in
theorem c_X1_putIn {Γ : GT} {M : Mem} {c p : Nat} {x a : Int32} (hc : c < 15) (hz : ok10 (M.1 1 c)) (hs : szN (M.1 1 c) < 10) (hx : x = nI p) (hp : p ≤ szN (M.1 1 c)) : Ct Γ yX1_putIn cX1_putIn 4 none 1 [.ref (ad Γ 1 c 0), .int x, .int a] M none (sO M 1 c (piX (M.1 1 c) p a)) := by
  refine ct_of (by decide) (Nat.le_of_ble_eq_true rfl) (fun K hg hr => ?_)
  show WM Γ K _ [(0, _), (1, _), (2, _)] 0 []
  subst hx
  refine wm_aload_n (q := 1) (i := 0) hg dX1_putIn_0 rfl rfl rfl ?_
  refine wm_get (q := 4) hg dX1_putIn_1 rfl fl_X1_9 (by first | assumption | decide | omega | (simp only [nO]; omega)) rfl ?_
  refine wm_istore_n (q := 5) (i := 3) (L' := [(0, _), (1, _), (2, _), (3, _)]) hg dX1_putIn_4 rfl rfl rfl rfl ?_
  suffices hloop : ∀ (n i : Nat), i + n = ((szN (M.1 1 c)) - p) → WM Γ K (sO M 1 c (piL (M.1 1 c) i)) [(0, .ref (ad Γ 1 c 0)), (1, .int (nI p)), (2, .int a), (3, .int (nI ((szN (M.1 1 c)) - i)))] 5 [] from wm_mem (sO_self M 1 c).symm (wm_Leq (by rw [hz.1]; rfl) (hloop ((szN (M.1 1 c)) - p) 0 (by omega)))
  intro n
  induction n with
  | zero =>
    intro i hi 
    refine wm_iload_n (q := 6) (i := 3) hg dX1_putIn_5 rfl rfl rfl ?_
    refine wm_iload_n (q := 7) (i := 1) hg dX1_putIn_6 rfl rfl rfl ?_
    refine wm_icmp_le (q := 25) (q2 := 10) hg dX1_putIn_7 (by decide) rfl (fun hb => ?_) (fun hb => ?_)
    · refine wm_aload_n (q := 26) (i := 0) hg dX1_putIn_25 rfl rfl rfl ?_
      refine wm_get (q := 29) hg dX1_putIn_26 rfl fl_X1_15 (by first | assumption | decide | omega | (simp only [nO]; omega)) rfl ?_
      refine wm_iload_n (q := 30) (i := 1) hg dX1_putIn_29 rfl rfl rfl ?_
      refine wm_iload_n (q := 31) (i := 2) hg dX1_putIn_30 rfl rfl rfl ?_
      refine wm_iastore (q := 32) p hg dX1_putIn_31 rfl (by first | assumption | decide | omega | (simp only [nO]; omega)) rfl rfl (by simp only [alen]; omega) ?_
      refine wm_aload_n (q := 33) (i := 0) hg dX1_putIn_32 rfl rfl rfl ?_
      refine wm_get (q := 36) hg dX1_putIn_33 rfl fl_X1_19 (by first | assumption | decide | omega | (simp only [nO]; omega)) rfl ?_
      refine wm_iload_n (q := 37) (i := 1) hg dX1_putIn_36 rfl rfl rfl ?_
      refine wm_iconst (q := 38) 0 hg dX1_putIn_37 rfl (by decide) ?_
      refine wm_iastore (q := 39) p hg dX1_putIn_38 rfl (by first | assumption | decide | omega | (simp only [nO]; omega)) rfl rfl (by simp only [alen]; omega) ?_
      refine wm_aload_n (q := 40) (i := 0) hg dX1_putIn_39 rfl rfl rfl ?_
      refine wm_get (q := 43) hg dX1_putIn_40 rfl fl_X1_22 (by first | assumption | decide | omega | (simp only [nO]; omega)) rfl ?_
      refine wm_iload_n (q := 44) (i := 1) hg dX1_putIn_43 rfl rfl rfl ?_
      refine wm_ldc (q := 46) (-1000000009) hg dX1_putIn_44 rfl ld_X1_37 ?_
      refine wm_iastore (q := 47) p hg dX1_putIn_46 rfl (by first | assumption | decide | omega | (simp only [nO]; omega)) rfl rfl (by simp only [alen]; omega) ?_
      refine wm_aload_n (q := 48) (i := 0) hg dX1_putIn_47 rfl rfl rfl ?_
      refine wm_dup (q := 49) hg dX1_putIn_48 rfl rfl ?_
      refine wm_get (q := 52) hg dX1_putIn_49 rfl fl_X1_9 (by first | assumption | decide | omega | (simp only [nO]; omega)) rfl ?_
      refine wm_iconst (q := 53) 1 hg dX1_putIn_52 rfl (by decide) ?_
      refine wm_iadd (q := 54) hg dX1_putIn_53 rfl ?_
      refine wm_put (q := 57) hg dX1_putIn_54 rfl fl_X1_9 (by first | assumption | decide | omega | (simp only [nO]; omega)) rfl ?_
      exact wm_vret hg hr dX1_putIn_57 (by rw [show i = (szN (M.1 1 c)) - p from hi]; simp [piX, piL_1, sO_same, sO_sO, oI, oA, updA_same, updA_ne, updA_updA, upd_same, upd_ne])
    · exact absurd (nI_le (by omega) (by omega)) hb
  | succ n ih =>
    intro i hi 
    refine wm_iload_n (q := 6) (i := 3) hg dX1_putIn_5 rfl rfl rfl ?_
    refine wm_iload_n (q := 7) (i := 1) hg dX1_putIn_6 rfl rfl rfl ?_
    refine wm_icmp_le (q := 25) (q2 := 10) hg dX1_putIn_7 (by decide) rfl (fun hb => ?_) (fun hb => ?_)
    · exact absurd hb (nI_ge (by omega) (by omega))
    · refine wm_aload_n (q := 11) (i := 0) hg dX1_putIn_10 rfl rfl rfl ?_
      refine wm_iload_n (q := 12) (i := 3) hg dX1_putIn_11 rfl rfl rfl ?_
      refine wm_aload_n (q := 13) (i := 0) hg dX1_putIn_12 rfl rfl rfl ?_
      refine wm_iload_n (q := 14) (i := 3) hg dX1_putIn_13 rfl rfl rfl ?_
      refine wm_iconst (q := 15) 1 hg dX1_putIn_14 rfl (by decide) ?_
      refine wm_isub (q := 16) hg dX1_putIn_15 rfl ?_
      refine wm_callV0 (q := 19) hg dX1_putIn_16 rfl lk_X1_57 (by decide) (c_X1_copyMagnet (by first | assumption | decide | omega) (by first | assumption | decide | omega) rfl (nsub (a := ((szN (M.1 1 c)) - i)) (b := 1) rfl (rfl : (1 : Int32) = nI 1) (by omega)) (by omega) (by omega)) (by first | assumption | decide | omega | (simp only [nO]; omega)) ⟨rfl, by decide⟩ rfl rfl (Nat.le_of_ble_eq_true rfl) ?_
      refine wm_iinc (q := 22) (L' := [(0, _), (1, _), (2, _), (3, _)]) (nI (((szN (M.1 1 c)) - i) - 1)) hg dX1_putIn_19 rfl rfl (ndec rfl (by omega)) rfl rfl ?_
      refine wm_goto (q := 5) hg dX1_putIn_22 (by decide) ?_
      exact wm_mem (by simp [sO_same, sO_sO, piL]) (ih (i + 1) (by omega))
set_option maxRecDepth 100000 in
set_option maxHeartbeats 4000000 in
theorem c_X1_takeOut {Γ : GT} {M : Mem} {c p : Nat} {x : Int32} (hc : c < 15) (hz : ok10 (M.1 1 c)) (hx : x = nI p) (hp : p < szN (M.1 1 c)) : Ct Γ yX1_takeOut cX1_takeOut 3 none 1 [.ref (ad Γ 1 c 0), .int x] M none (sO M 1 c (toX (M.1 1 c) p)) := by
  refine ct_of (by decide) (Nat.le_of_ble_eq_true rfl) (fun K hg hr => ?_)
  show WM Γ K _ [(0, _), (1, _)] 0 []
  subst hx
  have hz2 := hz.2
  refine wm_aload_n (q := 1) (i := 0) hg dX1_takeOut_0 rfl rfl rfl ?_
  refine wm_dup (q := 2) hg dX1_takeOut_1 rfl rfl ?_
  refine wm_get (q := 5) hg dX1_takeOut_2 rfl fl_X1_9 (by first | assumption | decide | omega | (simp only [nO]; omega)) rfl ?_
  refine wm_iconst (q := 6) 1 hg dX1_takeOut_5 rfl (by decide) ?_
  refine wm_isub (q := 7) hg dX1_takeOut_6 rfl ?_
  refine wm_put (q := 10) hg dX1_takeOut_7 rfl fl_X1_9 (by first | assumption | decide | omega | (simp only [nO]; omega)) rfl ?_
  refine wm_iload_n (q := 11) (i := 1) hg dX1_takeOut_10 rfl rfl rfl ?_
  refine wm_istore_n (q := 12) (i := 2) (L' := [(0, _), (1, _), (2, _)]) hg dX1_takeOut_11 rfl rfl rfl rfl ?_
  suffices hloop : ∀ (n i : Nat), i + n = ((szN (M.1 1 c)) - 1 - p) → WM Γ K (sO M 1 c (toL (M.1 1 c) p i)) [(0, .ref (ad Γ 1 c 0)), (1, .int (nI p)), (2, .int (nI (p + i)))] 12 [] from hloop ((szN (M.1 1 c)) - 1 - p) 0 (by omega)
  intro n
  induction n with
  | zero =>
    intro i hi 
    have hsz : ((sO M 1 c (toL (M.1 1 c) p i)).1 1 c).1 0 = nI ((szN (M.1 1 c)) - 1) := by rw [sO_same, toL_1, upd_same]; exact nsub hz.1 rfl (by omega)
    refine wm_iload_n (q := 13) (i := 2) hg dX1_takeOut_12 rfl rfl rfl ?_
    refine wm_aload_n (q := 14) (i := 0) hg dX1_takeOut_13 rfl rfl rfl ?_
    refine wm_get (q := 17) hg dX1_takeOut_14 rfl fl_X1_9 (by first | assumption | decide | omega | (simp only [nO]; omega)) rfl ?_
    refine wm_icmp_ge (q := 35) (q2 := 20) hg dX1_takeOut_17 (by decide) rfl (fun hb => ?_) (fun hb => ?_)
    · exact wm_vret hg hr dX1_takeOut_35 (by rw [show i = (szN (M.1 1 c)) - 1 - p from hi]; rfl)
    · exact absurd (lpLe hsz (by omega) (by omega)) hb
  | succ n ih =>
    intro i hi 
    have hsz : ((sO M 1 c (toL (M.1 1 c) p i)).1 1 c).1 0 = nI ((szN (M.1 1 c)) - 1) := by rw [sO_same, toL_1, upd_same]; exact nsub hz.1 rfl (by omega)
    refine wm_iload_n (q := 13) (i := 2) hg dX1_takeOut_12 rfl rfl rfl ?_
    refine wm_aload_n (q := 14) (i := 0) hg dX1_takeOut_13 rfl rfl rfl ?_
    refine wm_get (q := 17) hg dX1_takeOut_14 rfl fl_X1_9 (by first | assumption | decide | omega | (simp only [nO]; omega)) rfl ?_
    refine wm_icmp_ge (q := 35) (q2 := 20) hg dX1_takeOut_17 (by decide) rfl (fun hb => ?_) (fun hb => ?_)
    · exact absurd hb (lpLt hsz (by omega) (by omega))
    · refine wm_aload_n (q := 21) (i := 0) hg dX1_takeOut_20 rfl rfl rfl ?_
      refine wm_iload_n (q := 22) (i := 2) hg dX1_takeOut_21 rfl rfl rfl ?_
      refine wm_aload_n (q := 23) (i := 0) hg dX1_takeOut_22 rfl rfl rfl ?_
      refine wm_iload_n (q := 24) (i := 2) hg dX1_takeOut_23 rfl rfl rfl ?_
      refine wm_iconst (q := 25) 1 hg dX1_takeOut_24 rfl (by decide) ?_
      refine wm_iadd (q := 26) hg dX1_takeOut_25 rfl ?_
      refine wm_callV0 (q := 29) hg dX1_takeOut_26 rfl lk_X1_57 (by decide) (c_X1_copyMagnet (by first | assumption | decide | omega) (by first | assumption | decide | omega) rfl (nadd (a := (p + i)) (b := 1) rfl (rfl : (1 : Int32) = nI 1)) (by omega) (by omega)) (by first | assumption | decide | omega | (simp only [nO]; omega)) ⟨rfl, by decide⟩ rfl rfl (Nat.le_of_ble_eq_true rfl) ?_
      refine wm_iinc (q := 32) (L' := [(0, _), (1, _), (2, _)]) (nI ((p + i) + 1)) hg dX1_takeOut_29 rfl rfl (nadd rfl rfl) rfl rfl ?_
      refine wm_goto (q := 12) hg dX1_takeOut_32 (by decide) ?_
      exact wm_mem (by simp [sO_same, sO_sO, toL]) (ih (i + 1) (by omega))
set_option maxRecDepth 100000 in
set_option maxHeartbeats 4000000 in
theorem c_X1_mirror {Γ : GT} {M : Mem} {c : Nat} (hc : c < 15) (hz : ok10 (M.1 1 c)) : Ct Γ yX1_mirror cX1_mirror 2 none 0 [.ref (ad Γ 1 c 0)] M none (sO M 1 c (miL (M.1 1 c) (szN (M.1 1 c)))) := by
  refine ct_of (by decide) (Nat.le_of_ble_eq_true rfl) (fun K hg hr => ?_)
  show WM Γ K _ [(0, _)] 0 []
  have hz2 := hz.2
  refine wm_iconst (q := 1) 0 hg dX1_mirror_0 rfl (by decide) ?_
  refine wm_istore_n (q := 2) (i := 1) (L' := [(0, _), (1, _)]) hg dX1_mirror_1 rfl rfl rfl rfl ?_
  suffices hloop : ∀ (n i : Nat), i + n = (szN (M.1 1 c)) → WM Γ K (sO M 1 c (miL (M.1 1 c) i)) [(0, .ref (ad Γ 1 c 0)), (1, .int (nI i))] 2 [] from wm_mem (sO_self M 1 c).symm (hloop (szN (M.1 1 c)) 0 (by omega))
  intro n
  induction n with
  | zero =>
    intro i hi 
    have hsz : ((sO M 1 c (miL (M.1 1 c) i)).1 1 c).1 0 = nI (szN (M.1 1 c)) := by rw [sO_same, miL_1]; exact hz.1
    refine wm_iload_n (q := 3) (i := 1) hg dX1_mirror_2 rfl rfl rfl ?_
    refine wm_aload_n (q := 4) (i := 0) hg dX1_mirror_3 rfl rfl rfl ?_
    refine wm_get (q := 7) hg dX1_mirror_4 rfl fl_X1_9 (by first | assumption | decide | omega | (simp only [nO]; omega)) rfl ?_
    refine wm_icmp_ge (q := 61) (q2 := 10) hg dX1_mirror_7 (by decide) rfl (fun hb => ?_) (fun hb => ?_)
    · exact wm_vret hg hr dX1_mirror_61 (by rw [show i = (szN (M.1 1 c)) from hi])
    · exact absurd (lpLe hsz (by omega) (by omega)) hb
  | succ n ih =>
    intro i hi 
    have hsz : ((sO M 1 c (miL (M.1 1 c) i)).1 1 c).1 0 = nI (szN (M.1 1 c)) := by rw [sO_same, miL_1]; exact hz.1
    refine wm_iload_n (q := 3) (i := 1) hg dX1_mirror_2 rfl rfl rfl ?_
    refine wm_aload_n (q := 4) (i := 0) hg dX1_mirror_3 rfl rfl rfl ?_
    refine wm_get (q := 7) hg dX1_mirror_4 rfl fl_X1_9 (by first | assumption | decide | omega | (simp only [nO]; omega)) rfl ?_
    refine wm_icmp_ge (q := 61) (q2 := 10) hg dX1_mirror_7 (by decide) rfl (fun hb => ?_) (fun hb => ?_)
    · exact absurd hb (lpLt hsz (by omega) (by omega))
    · refine wm_aload_n (q := 11) (i := 0) hg dX1_mirror_10 rfl rfl rfl ?_
      refine wm_get (q := 14) hg dX1_mirror_11 rfl fl_X1_15 (by first | assumption | decide | omega | (simp only [nO]; omega)) rfl ?_
      refine wm_iload_n (q := 15) (i := 1) hg dX1_mirror_14 rfl rfl rfl ?_
      refine wm_iconst (q := 16) 4 hg dX1_mirror_15 rfl (by decide) ?_
      refine wm_aload_n (q := 17) (i := 0) hg dX1_mirror_16 rfl rfl rfl ?_
      refine wm_get (q := 20) hg dX1_mirror_17 rfl fl_X1_15 (by first | assumption | decide | omega | (simp only [nO]; omega)) rfl ?_
      refine wm_iload_n (q := 21) (i := 1) hg dX1_mirror_20 rfl rfl rfl ?_
      refine wm_iaload (q := 22) i hg dX1_mirror_21 rfl (by first | assumption | decide | omega | (simp only [nO]; omega)) rfl rfl (by simp only [alen]; omega) ?_
      refine wm_isub (q := 23) hg dX1_mirror_22 rfl ?_
      refine wm_bipush (q := 25) 7 hg dX1_mirror_23 rfl (by decide) ?_
      refine wm_iand (q := 26) hg dX1_mirror_25 rfl ?_
      refine wm_iastore (q := 27) i hg dX1_mirror_26 rfl (by first | assumption | decide | omega | (simp only [nO]; omega)) rfl rfl (by simp only [alen]; omega) ?_
      refine wm_aload_n (q := 28) (i := 0) hg dX1_mirror_27 rfl rfl rfl ?_
      refine wm_get (q := 31) hg dX1_mirror_28 rfl fl_X1_22 (by first | assumption | decide | omega | (simp only [nO]; omega)) rfl ?_
      refine wm_iload_n (q := 32) (i := 1) hg dX1_mirror_31 rfl rfl rfl ?_
      refine wm_iaload (q := 33) i hg dX1_mirror_32 rfl (by first | assumption | decide | omega | (simp only [nO]; omega)) rfl rfl (by simp only [alen]; omega) ?_
      refine wm_ldc (q := 35) (-1000000009) hg dX1_mirror_33 rfl ld_X1_37 ?_
      refine wm_icmp_eq (q := 55) (q2 := 38) hg dX1_mirror_35 (by decide) rfl (fun h1 => ?_) (fun h1 => ?_)
      · refine wm_iinc (q := 58) (L' := [(0, _), (1, _)]) (nI (i + 1)) hg dX1_mirror_55 rfl rfl (nadd rfl rfl) rfl rfl ?_
        refine wm_goto (q := 2) hg dX1_mirror_58 (by decide) ?_
        exact wm_mem (by simp only [sO_same, sO_same, sO_sO, oI, oA, updA_same, updA_ne, updA_updA, upd_same, upd_ne, updA_ne _ _ (show (3:Nat) ≠ 1 by decide)] at h1 ⊢; simp [miL, h1, sO_same, sO_sO, oI, oA, updA_same, updA_ne, updA_updA, upd_same, upd_ne]) (ih (i + 1) (by omega))
      · refine wm_aload_n (q := 39) (i := 0) hg dX1_mirror_38 rfl rfl rfl ?_
        refine wm_get (q := 42) hg dX1_mirror_39 rfl fl_X1_22 (by first | assumption | decide | omega | (simp only [nO]; omega)) rfl ?_
        refine wm_iload_n (q := 43) (i := 1) hg dX1_mirror_42 rfl rfl rfl ?_
        refine wm_iconst (q := 44) 4 hg dX1_mirror_43 rfl (by decide) ?_
        refine wm_aload_n (q := 45) (i := 0) hg dX1_mirror_44 rfl rfl rfl ?_
        refine wm_get (q := 48) hg dX1_mirror_45 rfl fl_X1_22 (by first | assumption | decide | omega | (simp only [nO]; omega)) rfl ?_
        refine wm_iload_n (q := 49) (i := 1) hg dX1_mirror_48 rfl rfl rfl ?_
        refine wm_iaload (q := 50) i hg dX1_mirror_49 rfl (by first | assumption | decide | omega | (simp only [nO]; omega)) rfl rfl (by simp only [alen]; omega) ?_
        refine wm_isub (q := 51) hg dX1_mirror_50 rfl ?_
        refine wm_bipush (q := 53) 7 hg dX1_mirror_51 rfl (by decide) ?_
        refine wm_iand (q := 54) hg dX1_mirror_53 rfl ?_
        refine wm_iastore (q := 55) i hg dX1_mirror_54 rfl (by first | assumption | decide | omega | (simp only [nO]; omega)) rfl rfl (by simp only [alen]; omega) ?_
        refine wm_iinc (q := 58) (L' := [(0, _), (1, _)]) (nI (i + 1)) hg dX1_mirror_55 rfl rfl (nadd rfl rfl) rfl rfl ?_
        refine wm_goto (q := 2) hg dX1_mirror_58 (by decide) ?_
        exact wm_mem (by simp only [sO_same, sO_same, sO_sO, oI, oA, updA_same, updA_ne, updA_updA, upd_same, upd_ne, updA_ne _ _ (show (3:Nat) ≠ 1 by decide)] at h1 ⊢; simp [miL, h1, sO_same, sO_sO, oI, oA, updA_same, updA_ne, updA_updA, upd_same, upd_ne]) (ih (i + 1) (by omega))
set_option maxRecDepth 100000 in
set_option maxHeartbeats 4000000 in
theorem c_X1_startWith {Γ : GT} {M : Mem} {c : Nat} {v : Int32} (hc : c < 15) : Ct Γ yX1_startWith cX1_startWith 2 none 1 [.ref (ad Γ 1 c 0), .int v] M none (sO M 1 c (swX (M.1 1 c) v)) := by
  refine ct_of (by decide) (Nat.le_of_ble_eq_true rfl) (fun K hg hr => ?_)
  show WM Γ K _ [(0, _), (1, _)] 0 []
  have hA : ∀ (f : Nat → Int32) (v : Int32) (k : Nat), k < alen 1 1 → flF f v 10 k = v := fun f v k hk => by simp only [alen] at hk; simp [flF, hk]
  refine wm_aload_n (q := 1) (i := 0) hg dX1_startWith_0 rfl rfl rfl ?_
  refine wm_iload_n (q := 2) (i := 1) hg dX1_startWith_1 rfl rfl rfl ?_
  refine wm_put (q := 5) hg dX1_startWith_2 rfl fl_X1_9 (by first | assumption | decide | omega | (simp only [nO]; omega)) rfl ?_
  refine wm_aload_n (q := 6) (i := 0) hg dX1_startWith_5 rfl rfl rfl ?_
  refine wm_get (q := 9) hg dX1_startWith_6 rfl fl_X1_15 (by first | assumption | decide | omega | (simp only [nO]; omega)) rfl ?_
  refine wm_iconst (q := 10) 0 hg dX1_startWith_9 rfl (by decide) ?_
  refine wm_callS0 (q := 13) hg dX1_startWith_10 rfl lk_X1_38 (by decide) (c_J7_fill_53178 (by first | assumption | decide | omega) rfl) rfl rfl (Nat.le_of_ble_eq_true rfl) ?_
  refine wm_aload_n (q := 14) (i := 0) hg dX1_startWith_13 rfl rfl rfl ?_
  refine wm_get (q := 17) hg dX1_startWith_14 rfl fl_X1_19 (by first | assumption | decide | omega | (simp only [nO]; omega)) rfl ?_
  refine wm_iconst (q := 18) 0 hg dX1_startWith_17 rfl (by decide) ?_
  refine wm_callS0 (q := 21) hg dX1_startWith_18 rfl lk_X1_38 (by decide) (c_J7_fill_53178 (by first | assumption | decide | omega) rfl) rfl rfl (Nat.le_of_ble_eq_true rfl) ?_
  refine wm_aload_n (q := 22) (i := 0) hg dX1_startWith_21 rfl rfl rfl ?_
  refine wm_get (q := 25) hg dX1_startWith_22 rfl fl_X1_22 (by first | assumption | decide | omega | (simp only [nO]; omega)) rfl ?_
  refine wm_ldc (q := 27) (-1000000009) hg dX1_startWith_25 rfl ld_X1_37 ?_
  refine wm_callS0 (q := 30) hg dX1_startWith_27 rfl lk_X1_38 (by decide) (c_J7_fill_53178 (by first | assumption | decide | omega) rfl) rfl rfl (Nat.le_of_ble_eq_true rfl) ?_
  refine wm_meq (M' := sO M 1 c (swX (M.1 1 c) v)) ?_ (wm_vret hg hr dX1_startWith_30 rfl)
  simp only [sO_same, sO_sO]
  refine meq_sO (meq.rf M) ⟨fun j _ => by simp [swX, sO_same, sO_sO, oI, oA, updA_same, updA_ne, updA_updA, upd_same, upd_ne], fun s hs k hk => ?_, fun h => absurd h (by decide)⟩
  simp only [isA, Bool.or_eq_true, Nat.beq_eq] at hs
  rcases hs with (rfl | rfl) | rfl <;> simp only [swX, sO_same, sO_sO, oI, oA, updA_same, updA_ne, updA_updA, upd_same, upd_ne, alen] <;> simp [updA, flF] <;> simp only [alen] at hk <;> omega
end
section
/-! ===== copies of chains and books; the books ===== -/
set_option maxRecDepth 100000 in
set_option maxHeartbeats 4000000 in
theorem c_X1_takeAngles {Γ : GT} {M : Mem} {c o : Nat} (hc : c < 15) (ho : o < 15) : Ct Γ yX1_takeAngles cX1_takeAngles 2 none 1 [.ref (ad Γ 1 c 0), .ref (ad Γ 1 o 0)] M none (sO M 1 c (oA (M.1 1 c) 1 ((M.1 1 o).2 1))) := by
  refine ct_of (by decide) (Nat.le_of_ble_eq_true rfl) (fun K hg hr => ?_)
  show WM Γ K _ [(0, _), (1, _)] 0 []
  refine wm_aload_n (q := 1) (i := 1) hg dX1_takeAngles_0 rfl rfl rfl ?_
  refine wm_get (q := 4) hg dX1_takeAngles_1 rfl fl_X1_15 (by first | assumption | decide | omega | (simp only [nO]; omega)) rfl ?_
  refine wm_iconst (q := 5) 0 hg dX1_takeAngles_4 rfl (by decide) ?_
  refine wm_aload_n (q := 6) (i := 0) hg dX1_takeAngles_5 rfl rfl rfl ?_
  refine wm_get (q := 9) hg dX1_takeAngles_6 rfl fl_X1_15 (by first | assumption | decide | omega | (simp only [nO]; omega)) rfl ?_
  refine wm_iconst (q := 10) 0 hg dX1_takeAngles_9 rfl (by decide) ?_
  refine wm_bipush (q := 12) 10 hg dX1_takeAngles_10 rfl (by decide) ?_
  refine wm_arraycopy (q := 15) 0 0 10 hg dX1_takeAngles_12 rfl ml_X1_51 (by decide) (by first | assumption | decide | omega | (simp only [nO]; omega)) rfl (by first | assumption | decide | omega | (simp only [nO]; omega)) rfl (rfl : (0 : Int32) = nI 0) (rfl : (0 : Int32) = nI 0) (rfl : (10 : Int32) = nI 10) (by simp only [alen]; omega) (by simp only [alen]; omega) (Nat.le_of_ble_eq_true rfl) ?_
  refine wm_meq (M' := (sO M 1 c (oA (M.1 1 c) 1 ((M.1 1 o).2 1)))) ?_ (wm_vret hg hr dX1_takeAngles_15 rfl)
  refine meq_sO (meq.rf M) ⟨fun j _ => rfl, fun s hs k hk => ?_, fun h => absurd h (by decide)⟩
  simp only [oA]
  by_cases h : s = 1
  · subst h; simp only [alen] at hk; rw [updA_same, updA_same, cpy0 hk]
  · rw [updA_ne _ _ h, updA_ne _ _ h]
set_option maxRecDepth 100000 in
set_option maxHeartbeats 4000000 in
theorem c_X1_takeMagnets {Γ : GT} {M : Mem} {c o : Nat} (hc : c < 15) (ho : o < 15) (hne : c ≠ o) : Ct Γ yX1_takeMagnets cX1_takeMagnets 2 none 2 [.ref (ad Γ 1 c 0), .ref (ad Γ 1 o 0)] M none (sO M 1 c (tmX (M.1 1 c) (M.1 1 o))) := by
  refine ct_of (by decide) (Nat.le_of_ble_eq_true rfl) (fun K hg hr => ?_)
  show WM Γ K _ [(0, _), (1, _)] 0 []
  refine wm_aload_n (q := 1) (i := 0) hg dX1_takeMagnets_0 rfl rfl rfl ?_
  refine wm_aload_n (q := 2) (i := 1) hg dX1_takeMagnets_1 rfl rfl rfl ?_
  refine wm_get (q := 5) hg dX1_takeMagnets_2 rfl fl_X1_9 (by first | assumption | decide | omega | (simp only [nO]; omega)) rfl ?_
  refine wm_put (q := 8) hg dX1_takeMagnets_5 rfl fl_X1_9 (by first | assumption | decide | omega | (simp only [nO]; omega)) rfl ?_
  refine wm_aload_n (q := 9) (i := 0) hg dX1_takeMagnets_8 rfl rfl rfl ?_
  refine wm_aload_n (q := 10) (i := 1) hg dX1_takeMagnets_9 rfl rfl rfl ?_
  refine wm_callV0 (q := 13) hg dX1_takeMagnets_10 rfl lk_X1_48 (by decide) (c_X1_takeAngles (by first | assumption | decide | omega) (by first | assumption | decide | omega)) (by first | assumption | decide | omega | (simp only [nO]; omega)) ⟨rfl, by decide⟩ rfl rfl (Nat.le_of_ble_eq_true rfl) ?_
  refine wm_aload_n (q := 14) (i := 1) hg dX1_takeMagnets_13 rfl rfl rfl ?_
  refine wm_get (q := 17) hg dX1_takeMagnets_14 rfl fl_X1_19 (by first | assumption | decide | omega | (simp only [nO]; omega)) rfl ?_
  refine wm_iconst (q := 18) 0 hg dX1_takeMagnets_17 rfl (by decide) ?_
  refine wm_aload_n (q := 19) (i := 0) hg dX1_takeMagnets_18 rfl rfl rfl ?_
  refine wm_get (q := 22) hg dX1_takeMagnets_19 rfl fl_X1_19 (by first | assumption | decide | omega | (simp only [nO]; omega)) rfl ?_
  refine wm_iconst (q := 23) 0 hg dX1_takeMagnets_22 rfl (by decide) ?_
  refine wm_bipush (q := 25) 10 hg dX1_takeMagnets_23 rfl (by decide) ?_
  refine wm_arraycopy (q := 28) 0 0 10 hg dX1_takeMagnets_25 rfl ml_X1_51 (by decide) (by first | assumption | decide | omega | (simp only [nO]; omega)) rfl (by first | assumption | decide | omega | (simp only [nO]; omega)) rfl (rfl : (0 : Int32) = nI 0) (rfl : (0 : Int32) = nI 0) (rfl : (10 : Int32) = nI 10) (by simp only [alen]; omega) (by simp only [alen]; omega) (Nat.le_of_ble_eq_true rfl) ?_
  refine wm_aload_n (q := 29) (i := 1) hg dX1_takeMagnets_28 rfl rfl rfl ?_
  refine wm_get (q := 32) hg dX1_takeMagnets_29 rfl fl_X1_22 (by first | assumption | decide | omega | (simp only [nO]; omega)) rfl ?_
  refine wm_iconst (q := 33) 0 hg dX1_takeMagnets_32 rfl (by decide) ?_
  refine wm_aload_n (q := 34) (i := 0) hg dX1_takeMagnets_33 rfl rfl rfl ?_
  refine wm_get (q := 37) hg dX1_takeMagnets_34 rfl fl_X1_22 (by first | assumption | decide | omega | (simp only [nO]; omega)) rfl ?_
  refine wm_iconst (q := 38) 0 hg dX1_takeMagnets_37 rfl (by decide) ?_
  refine wm_bipush (q := 40) 10 hg dX1_takeMagnets_38 rfl (by decide) ?_
  refine wm_arraycopy (q := 43) 0 0 10 hg dX1_takeMagnets_40 rfl ml_X1_51 (by decide) (by first | assumption | decide | omega | (simp only [nO]; omega)) rfl (by first | assumption | decide | omega | (simp only [nO]; omega)) rfl (rfl : (0 : Int32) = nI 0) (rfl : (0 : Int32) = nI 0) (rfl : (10 : Int32) = nI 10) (by simp only [alen]; omega) (by simp only [alen]; omega) (Nat.le_of_ble_eq_true rfl) ?_
  refine wm_meq (M' := (sO M 1 c (tmX (M.1 1 c) (M.1 1 o)))) ?_ (wm_vret hg hr dX1_takeMagnets_43 rfl)
  have hne2 := Ne.symm hne
  simp only [sO_same, sO_sO, sO_idx M 1 1 _ hne2]
  refine meq_sO (meq.rf M) ⟨fun j _ => by simp [tmX, sO_same, sO_sO, oI, oA, updA_same, updA_ne, updA_updA, upd_same, upd_ne, sO_idx, hne2], fun s hs k hk => ?_, fun h => absurd h (by decide)⟩
  simp only [alen] at hk
  simp only [isA, Bool.or_eq_true, Nat.beq_eq] at hs
  rcases hs with (rfl | rfl) | rfl <;> simp [tmX, sO_same, sO_sO, oI, oA, updA_same, updA_ne, updA_updA, upd_same, upd_ne, sO_idx, hne2, cpy0 hk]
set_option maxRecDepth 100000 in
set_option maxHeartbeats 4000000 in
theorem c_X1_takeFrom {Γ : GT} {M : Mem} {c o : Nat} (hc : c < 15) (ho : o < 15) (hne : c ≠ o) : Ct Γ yX1_takeFrom cX1_takeFrom 2 none 3 [.ref (ad Γ 1 c 0), .ref (ad Γ 1 o 0)] M none (sO M 1 c (M.1 1 o)) := by
  refine ct_of (by decide) (Nat.le_of_ble_eq_true rfl) (fun K hg hr => ?_)
  show WM Γ K _ [(0, _), (1, _)] 0 []
  refine wm_aload_n (q := 1) (i := 0) hg dX1_takeFrom_0 rfl rfl rfl ?_
  refine wm_aload_n (q := 2) (i := 1) hg dX1_takeFrom_1 rfl rfl rfl ?_
  refine wm_callV0 (q := 5) hg dX1_takeFrom_2 rfl lk_X1_44 (by decide) (c_X1_takeMagnets (by first | assumption | decide | omega) (by first | assumption | decide | omega) (by first | assumption | decide | omega)) (by first | assumption | decide | omega | (simp only [nO]; omega)) ⟨rfl, by decide⟩ rfl rfl (Nat.le_of_ble_eq_true rfl) ?_
  refine wm_aload_n (q := 6) (i := 0) hg dX1_takeFrom_5 rfl rfl rfl ?_
  refine wm_aload_n (q := 7) (i := 1) hg dX1_takeFrom_6 rfl rfl rfl ?_
  refine wm_get (q := 10) hg dX1_takeFrom_7 rfl fl_X1_25 (by first | assumption | decide | omega | (simp only [nO]; omega)) rfl ?_
  refine wm_put (q := 13) hg dX1_takeFrom_10 rfl fl_X1_25 (by first | assumption | decide | omega | (simp only [nO]; omega)) rfl ?_
  refine wm_aload_n (q := 14) (i := 0) hg dX1_takeFrom_13 rfl rfl rfl ?_
  refine wm_aload_n (q := 15) (i := 1) hg dX1_takeFrom_14 rfl rfl rfl ?_
  refine wm_get (q := 18) hg dX1_takeFrom_15 rfl fl_X1_28 (by first | assumption | decide | omega | (simp only [nO]; omega)) rfl ?_
  refine wm_put (q := 21) hg dX1_takeFrom_18 rfl fl_X1_28 (by first | assumption | decide | omega | (simp only [nO]; omega)) rfl ?_
  refine wm_aload_n (q := 22) (i := 0) hg dX1_takeFrom_21 rfl rfl rfl ?_
  refine wm_aload_n (q := 23) (i := 1) hg dX1_takeFrom_22 rfl rfl rfl ?_
  refine wm_get (q := 26) hg dX1_takeFrom_23 rfl fl_X1_31 (by first | assumption | decide | omega | (simp only [nO]; omega)) rfl ?_
  refine wm_put (q := 29) hg dX1_takeFrom_26 rfl fl_X1_31 (by first | assumption | decide | omega | (simp only [nO]; omega)) rfl ?_
  refine wm_aload_n (q := 30) (i := 0) hg dX1_takeFrom_29 rfl rfl rfl ?_
  refine wm_aload_n (q := 31) (i := 1) hg dX1_takeFrom_30 rfl rfl rfl ?_
  refine wm_get (q := 34) hg dX1_takeFrom_31 rfl fl_X1_34 (by first | assumption | decide | omega | (simp only [nO]; omega)) rfl ?_
  refine wm_put (q := 37) hg dX1_takeFrom_34 rfl fl_X1_34 (by first | assumption | decide | omega | (simp only [nO]; omega)) rfl ?_
  refine wm_meq (M' := (sO M 1 c (M.1 1 o))) ?_ (wm_vret hg hr dX1_takeFrom_37 rfl)
  have hne2 := Ne.symm hne
  simp only [sO_same, sO_sO, sO_idx M 1 1 _ hne2]
  refine meq_sO (meq.rf M) ⟨fun j hj => ?_, fun s hs k hk => ?_, fun h => absurd h (by decide)⟩
  · simp only [isI, Bool.or_eq_true, Nat.beq_eq] at hj
    rcases hj with (((rfl | rfl) | rfl) | rfl) | rfl <;> simp [tmX, sO_same, sO_sO, oI, oA, updA_same, updA_ne, updA_updA, upd_same, upd_ne, sO_idx, hne2]
  · simp only [isA, Bool.or_eq_true, Nat.beq_eq] at hs
    rcases hs with (rfl | rfl) | rfl <;> simp [tmX, sO_same, sO_sO, oI, oA, updA_same, updA_ne, updA_updA, upd_same, upd_ne, sO_idx, hne2]
set_option maxRecDepth 100000 in
set_option maxHeartbeats 4000000 in
theorem c_X0_clear {Γ : GT} {M : Mem} {c : Nat} (hc : c < 11) : Ct Γ yX0_clear cX0_clear 1 none 0 [.ref (ad Γ 0 c 0)] M none (sO M 0 c (clX (M.1 0 c))) := by
  refine ct_of (by decide) (Nat.le_of_ble_eq_true rfl) (fun K hg hr => ?_)
  show WM Γ K _ [(0, _)] 0 []
  refine wm_aload_n (q := 1) (i := 0) hg dX0_clear_0 rfl rfl rfl ?_
  refine wm_iconst (q := 2) 0 hg dX0_clear_1 rfl (by decide) ?_
  refine wm_put (q := 5) hg dX0_clear_2 rfl fl_X0_9 (by first | assumption | decide | omega | (simp only [nO]; omega)) rfl ?_
  refine wm_aload_n (q := 6) (i := 0) hg dX0_clear_5 rfl rfl rfl ?_
  refine wm_iconst (q := 7) 0 hg dX0_clear_6 rfl (by decide) ?_
  refine wm_put (q := 10) hg dX0_clear_7 rfl fl_X0_15 (by first | assumption | decide | omega | (simp only [nO]; omega)) rfl ?_
  refine wm_aload_n (q := 11) (i := 0) hg dX0_clear_10 rfl rfl rfl ?_
  refine wm_iconst (q := 12) 0 hg dX0_clear_11 rfl (by decide) ?_
  refine wm_put (q := 15) hg dX0_clear_12 rfl fl_X0_18 (by first | assumption | decide | omega | (simp only [nO]; omega)) rfl ?_
  refine wm_aload_n (q := 16) (i := 0) hg dX0_clear_15 rfl rfl rfl ?_
  refine wm_iconst (q := 17) 0 hg dX0_clear_16 rfl (by decide) ?_
  refine wm_put (q := 20) hg dX0_clear_17 rfl fl_X0_21 (by first | assumption | decide | omega | (simp only [nO]; omega)) rfl ?_
  refine wm_aload_n (q := 21) (i := 0) hg dX0_clear_20 rfl rfl rfl ?_
  refine wm_iconst (q := 22) 0 hg dX0_clear_21 rfl (by decide) ?_
  refine wm_put (q := 25) hg dX0_clear_22 rfl fl_X0_24 (by first | assumption | decide | omega | (simp only [nO]; omega)) rfl ?_
  exact wm_vret hg hr dX0_clear_25 (by simp [clX, sO_same, sO_sO, oI, oA, updA_same, updA_ne, updA_updA, upd_same, upd_ne])
set_option maxRecDepth 100000 in
set_option maxHeartbeats 4000000 in
theorem c_X0_takeFrom {Γ : GT} {M : Mem} {c o : Nat} (hc : c < 11) (ho : o < 11) (hne : c ≠ o) : Ct Γ yX0_takeFrom cX0_takeFrom 2 none 1 [.ref (ad Γ 0 c 0), .ref (ad Γ 0 o 0)] M none (sO M 0 c (M.1 0 o)) := by
  refine ct_of (by decide) (Nat.le_of_ble_eq_true rfl) (fun K hg hr => ?_)
  show WM Γ K _ [(0, _), (1, _)] 0 []
  refine wm_aload_n (q := 1) (i := 0) hg dX0_takeFrom_0 rfl rfl rfl ?_
  refine wm_aload_n (q := 2) (i := 1) hg dX0_takeFrom_1 rfl rfl rfl ?_
  refine wm_get (q := 5) hg dX0_takeFrom_2 rfl fl_X0_9 (by first | assumption | decide | omega | (simp only [nO]; omega)) rfl ?_
  refine wm_put (q := 8) hg dX0_takeFrom_5 rfl fl_X0_9 (by first | assumption | decide | omega | (simp only [nO]; omega)) rfl ?_
  refine wm_aload_n (q := 9) (i := 0) hg dX0_takeFrom_8 rfl rfl rfl ?_
  refine wm_aload_n (q := 10) (i := 1) hg dX0_takeFrom_9 rfl rfl rfl ?_
  refine wm_get (q := 13) hg dX0_takeFrom_10 rfl fl_X0_15 (by first | assumption | decide | omega | (simp only [nO]; omega)) rfl ?_
  refine wm_put (q := 16) hg dX0_takeFrom_13 rfl fl_X0_15 (by first | assumption | decide | omega | (simp only [nO]; omega)) rfl ?_
  refine wm_aload_n (q := 17) (i := 0) hg dX0_takeFrom_16 rfl rfl rfl ?_
  refine wm_aload_n (q := 18) (i := 1) hg dX0_takeFrom_17 rfl rfl rfl ?_
  refine wm_get (q := 21) hg dX0_takeFrom_18 rfl fl_X0_18 (by first | assumption | decide | omega | (simp only [nO]; omega)) rfl ?_
  refine wm_put (q := 24) hg dX0_takeFrom_21 rfl fl_X0_18 (by first | assumption | decide | omega | (simp only [nO]; omega)) rfl ?_
  refine wm_aload_n (q := 25) (i := 0) hg dX0_takeFrom_24 rfl rfl rfl ?_
  refine wm_aload_n (q := 26) (i := 1) hg dX0_takeFrom_25 rfl rfl rfl ?_
  refine wm_get (q := 29) hg dX0_takeFrom_26 rfl fl_X0_21 (by first | assumption | decide | omega | (simp only [nO]; omega)) rfl ?_
  refine wm_put (q := 32) hg dX0_takeFrom_29 rfl fl_X0_21 (by first | assumption | decide | omega | (simp only [nO]; omega)) rfl ?_
  refine wm_aload_n (q := 33) (i := 0) hg dX0_takeFrom_32 rfl rfl rfl ?_
  refine wm_aload_n (q := 34) (i := 1) hg dX0_takeFrom_33 rfl rfl rfl ?_
  refine wm_get (q := 37) hg dX0_takeFrom_34 rfl fl_X0_24 (by first | assumption | decide | omega | (simp only [nO]; omega)) rfl ?_
  refine wm_put (q := 40) hg dX0_takeFrom_37 rfl fl_X0_24 (by first | assumption | decide | omega | (simp only [nO]; omega)) rfl ?_
  refine wm_aload_n (q := 41) (i := 1) hg dX0_takeFrom_40 rfl rfl rfl ?_
  refine wm_get (q := 44) hg dX0_takeFrom_41 rfl fl_X0_27 (by first | assumption | decide | omega | (simp only [nO]; omega)) rfl ?_
  refine wm_iconst (q := 45) 0 hg dX0_takeFrom_44 rfl (by decide) ?_
  refine wm_aload_n (q := 46) (i := 0) hg dX0_takeFrom_45 rfl rfl rfl ?_
  refine wm_get (q := 49) hg dX0_takeFrom_46 rfl fl_X0_27 (by first | assumption | decide | omega | (simp only [nO]; omega)) rfl ?_
  refine wm_iconst (q := 50) 0 hg dX0_takeFrom_49 rfl (by decide) ?_
  refine wm_bipush (q := 52) 30 hg dX0_takeFrom_50 rfl (by decide) ?_
  refine wm_arraycopy (q := 55) 0 0 30 hg dX0_takeFrom_52 rfl ml_X0_37 (by decide) (by first | assumption | decide | omega | (simp only [nO]; omega)) rfl (by first | assumption | decide | omega | (simp only [nO]; omega)) rfl (rfl : (0 : Int32) = nI 0) (rfl : (0 : Int32) = nI 0) (rfl : (30 : Int32) = nI 30) (by simp only [alen]; omega) (by simp only [alen]; omega) (Nat.le_of_ble_eq_true rfl) ?_
  refine wm_aload_n (q := 56) (i := 1) hg dX0_takeFrom_55 rfl rfl rfl ?_
  refine wm_get (q := 59) hg dX0_takeFrom_56 rfl fl_X0_31 (by first | assumption | decide | omega | (simp only [nO]; omega)) rfl ?_
  refine wm_iconst (q := 60) 0 hg dX0_takeFrom_59 rfl (by decide) ?_
  refine wm_aload_n (q := 61) (i := 0) hg dX0_takeFrom_60 rfl rfl rfl ?_
  refine wm_get (q := 64) hg dX0_takeFrom_61 rfl fl_X0_31 (by first | assumption | decide | omega | (simp only [nO]; omega)) rfl ?_
  refine wm_iconst (q := 65) 0 hg dX0_takeFrom_64 rfl (by decide) ?_
  refine wm_bipush (q := 67) 30 hg dX0_takeFrom_65 rfl (by decide) ?_
  refine wm_arraycopy (q := 70) 0 0 30 hg dX0_takeFrom_67 rfl ml_X0_37 (by decide) (by first | assumption | decide | omega | (simp only [nO]; omega)) rfl (by first | assumption | decide | omega | (simp only [nO]; omega)) rfl (rfl : (0 : Int32) = nI 0) (rfl : (0 : Int32) = nI 0) (rfl : (30 : Int32) = nI 30) (by simp only [alen]; omega) (by simp only [alen]; omega) (Nat.le_of_ble_eq_true rfl) ?_
  refine wm_aload_n (q := 71) (i := 1) hg dX0_takeFrom_70 rfl rfl rfl ?_
  refine wm_get (q := 74) hg dX0_takeFrom_71 rfl fl_X0_34 (by first | assumption | decide | omega | (simp only [nO]; omega)) rfl ?_
  refine wm_iconst (q := 75) 0 hg dX0_takeFrom_74 rfl (by decide) ?_
  refine wm_aload_n (q := 76) (i := 0) hg dX0_takeFrom_75 rfl rfl rfl ?_
  refine wm_get (q := 79) hg dX0_takeFrom_76 rfl fl_X0_34 (by first | assumption | decide | omega | (simp only [nO]; omega)) rfl ?_
  refine wm_iconst (q := 80) 0 hg dX0_takeFrom_79 rfl (by decide) ?_
  refine wm_bipush (q := 82) 30 hg dX0_takeFrom_80 rfl (by decide) ?_
  refine wm_arraycopy (q := 85) 0 0 30 hg dX0_takeFrom_82 rfl ml_X0_37 (by decide) (by first | assumption | decide | omega | (simp only [nO]; omega)) rfl (by first | assumption | decide | omega | (simp only [nO]; omega)) rfl (rfl : (0 : Int32) = nI 0) (rfl : (0 : Int32) = nI 0) (rfl : (30 : Int32) = nI 30) (by simp only [alen]; omega) (by simp only [alen]; omega) (Nat.le_of_ble_eq_true rfl) ?_
  refine wm_meq (M' := (sO M 0 c (M.1 0 o))) ?_ (wm_vret hg hr dX0_takeFrom_85 rfl)
  have hne2 := Ne.symm hne
  simp only [sO_same, sO_sO, sO_idx M 0 0 _ hne2]
  refine meq_sO (meq.rf M) ⟨fun j hj => ?_, fun s hs k hk => ?_, fun h => absurd h (by decide)⟩
  · have hj2 : j < 5 := Nat.blt_eq.mp hj
    rcases (show j = 0 ∨ j = 1 ∨ j = 2 ∨ j = 3 ∨ j = 4 by omega) with rfl | rfl | rfl | rfl | rfl <;> simp [sO_same, sO_sO, oI, oA, updA_same, updA_ne, updA_updA, upd_same, upd_ne, sO_idx, hne2]
  · simp only [isA, Bool.or_eq_true, Nat.beq_eq] at hs
    simp only [alen] at hk
    rcases hs with (rfl | rfl) | rfl <;> simp [sO_same, sO_sO, oI, oA, updA_same, updA_ne, updA_updA, upd_same, upd_ne, sO_idx, hne2, cpy0 hk]
set_option maxRecDepth 100000 in
set_option maxHeartbeats 4000000 in
theorem c_X0_dropOldestTurn {Γ : GT} {M : Mem} {c : Nat} (hc : c < 11) : Ct Γ yX0_dropOldestTurn cX0_dropOldestTurn 1 none 1 [.ref (ad Γ 0 c 0)] M none (sO M 0 c (doX (M.1 0 c))) := by
  refine ct_of (by decide) (Nat.le_of_ble_eq_true rfl) (fun K hg hr => ?_)
  show WM Γ K _ [(0, _)] 0 []
  refine wm_aload_n (q := 1) (i := 0) hg dX0_dropOldestTurn_0 rfl rfl rfl ?_
  refine wm_bipush (q := 3) 29 hg dX0_dropOldestTurn_1 rfl (by decide) ?_
  refine wm_put (q := 6) hg dX0_dropOldestTurn_3 rfl fl_X0_24 (by first | assumption | decide | omega | (simp only [nO]; omega)) rfl ?_
  refine wm_aload_n (q := 7) (i := 0) hg dX0_dropOldestTurn_6 rfl rfl rfl ?_
  refine wm_get (q := 10) hg dX0_dropOldestTurn_7 rfl fl_X0_27 (by first | assumption | decide | omega | (simp only [nO]; omega)) rfl ?_
  refine wm_iconst (q := 11) 1 hg dX0_dropOldestTurn_10 rfl (by decide) ?_
  refine wm_aload_n (q := 12) (i := 0) hg dX0_dropOldestTurn_11 rfl rfl rfl ?_
  refine wm_get (q := 15) hg dX0_dropOldestTurn_12 rfl fl_X0_27 (by first | assumption | decide | omega | (simp only [nO]; omega)) rfl ?_
  refine wm_iconst (q := 16) 0 hg dX0_dropOldestTurn_15 rfl (by decide) ?_
  refine wm_aload_n (q := 17) (i := 0) hg dX0_dropOldestTurn_16 rfl rfl rfl ?_
  refine wm_get (q := 20) hg dX0_dropOldestTurn_17 rfl fl_X0_24 (by first | assumption | decide | omega | (simp only [nO]; omega)) rfl ?_
  refine wm_arraycopy (q := 23) 1 0 29 hg dX0_dropOldestTurn_20 rfl ml_X0_37 (by decide) (by first | assumption | decide | omega | (simp only [nO]; omega)) rfl (by first | assumption | decide | omega | (simp only [nO]; omega)) rfl rfl rfl (by simp [sO_same, sO_sO, oI, oA, updA_same, updA_ne, updA_updA, upd_same, upd_ne]; rfl) (by simp only [alen]; omega) (by simp only [alen]; omega) (Nat.le_of_ble_eq_true rfl) ?_
  refine wm_aload_n (q := 24) (i := 0) hg dX0_dropOldestTurn_23 rfl rfl rfl ?_
  refine wm_get (q := 27) hg dX0_dropOldestTurn_24 rfl fl_X0_31 (by first | assumption | decide | omega | (simp only [nO]; omega)) rfl ?_
  refine wm_iconst (q := 28) 1 hg dX0_dropOldestTurn_27 rfl (by decide) ?_
  refine wm_aload_n (q := 29) (i := 0) hg dX0_dropOldestTurn_28 rfl rfl rfl ?_
  refine wm_get (q := 32) hg dX0_dropOldestTurn_29 rfl fl_X0_31 (by first | assumption | decide | omega | (simp only [nO]; omega)) rfl ?_
  refine wm_iconst (q := 33) 0 hg dX0_dropOldestTurn_32 rfl (by decide) ?_
  refine wm_aload_n (q := 34) (i := 0) hg dX0_dropOldestTurn_33 rfl rfl rfl ?_
  refine wm_get (q := 37) hg dX0_dropOldestTurn_34 rfl fl_X0_24 (by first | assumption | decide | omega | (simp only [nO]; omega)) rfl ?_
  refine wm_arraycopy (q := 40) 1 0 29 hg dX0_dropOldestTurn_37 rfl ml_X0_37 (by decide) (by first | assumption | decide | omega | (simp only [nO]; omega)) rfl (by first | assumption | decide | omega | (simp only [nO]; omega)) rfl rfl rfl (by simp [sO_same, sO_sO, oI, oA, updA_same, updA_ne, updA_updA, upd_same, upd_ne]; rfl) (by simp only [alen]; omega) (by simp only [alen]; omega) (Nat.le_of_ble_eq_true rfl) ?_
  refine wm_aload_n (q := 41) (i := 0) hg dX0_dropOldestTurn_40 rfl rfl rfl ?_
  refine wm_get (q := 44) hg dX0_dropOldestTurn_41 rfl fl_X0_34 (by first | assumption | decide | omega | (simp only [nO]; omega)) rfl ?_
  refine wm_iconst (q := 45) 1 hg dX0_dropOldestTurn_44 rfl (by decide) ?_
  refine wm_aload_n (q := 46) (i := 0) hg dX0_dropOldestTurn_45 rfl rfl rfl ?_
  refine wm_get (q := 49) hg dX0_dropOldestTurn_46 rfl fl_X0_34 (by first | assumption | decide | omega | (simp only [nO]; omega)) rfl ?_
  refine wm_iconst (q := 50) 0 hg dX0_dropOldestTurn_49 rfl (by decide) ?_
  refine wm_aload_n (q := 51) (i := 0) hg dX0_dropOldestTurn_50 rfl rfl rfl ?_
  refine wm_get (q := 54) hg dX0_dropOldestTurn_51 rfl fl_X0_24 (by first | assumption | decide | omega | (simp only [nO]; omega)) rfl ?_
  refine wm_arraycopy (q := 57) 1 0 29 hg dX0_dropOldestTurn_54 rfl ml_X0_37 (by decide) (by first | assumption | decide | omega | (simp only [nO]; omega)) rfl (by first | assumption | decide | omega | (simp only [nO]; omega)) rfl rfl rfl (by simp [sO_same, sO_sO, oI, oA, updA_same, updA_ne, updA_updA, upd_same, upd_ne]; rfl) (by simp only [alen]; omega) (by simp only [alen]; omega) (Nat.le_of_ble_eq_true rfl) ?_
  refine wm_meq (M' := (sO M 0 c (doX (M.1 0 c)))) ?_ (wm_vret hg hr dX0_dropOldestTurn_57 rfl)
  simp only [sO_same, sO_sO]
  refine meq_sO (meq.rf M) ⟨fun j hj => by simp [doX, sO_same, sO_sO, oI, oA, updA_same, updA_ne, updA_updA, upd_same, upd_ne], fun s hs k hk => ?_, fun h => absurd h (by decide)⟩
  simp only [isA, Bool.or_eq_true, Nat.beq_eq] at hs
  rcases hs with (rfl | rfl) | rfl <;> simp [doX, shF, va_cpy, sO_same, sO_sO, oI, oA, updA_same, updA_ne, updA_updA, upd_same, upd_ne]
set_option maxRecDepth 100000 in
set_option maxHeartbeats 4000000 in
theorem c_X0_enter {Γ : GT} {M : Mem} {c : Nat} {m d f : Int32} (hc : c < 11) (hb : okB (M.1 0 c)) : Ct Γ yX0_enter cX0_enter 4 none 2 [.ref (ad Γ 0 c 0), .int m, .int d, .int f] M none (sO M 0 c (enX (M.1 0 c) m d f)) := by
  refine ct_of (by decide) (Nat.le_of_ble_eq_true rfl) (fun K hg hr => ?_)
  show WM Γ K _ [(0, _), (1, _), (2, _), (3, _)] 0 []
  refine wm_aload_n (q := 1) (i := 0) hg dX0_enter_0 rfl rfl rfl ?_
  refine wm_get (q := 4) hg dX0_enter_1 rfl fl_X0_24 (by first | assumption | decide | omega | (simp only [nO]; omega)) rfl ?_
  refine wm_bipush (q := 6) 30 hg dX0_enter_4 rfl (by decide) ?_
  refine wm_icmp_lt (q := 13) (q2 := 9) hg dX0_enter_6 (by decide) rfl (fun h1 => ?_) (fun h1 => ?_)
  · have hlt : lgN (M.1 0 c) < 30 := by
      rcases Nat.lt_or_ge (lgN (M.1 0 c)) 30 with q | q
      · exact q
      · exact absurd h1 (by rw [hb.1]; exact nI_nlt q (by have := hb.2; omega))
    refine wm_aload_n (q := 14) (i := 0) hg dX0_enter_13 rfl rfl rfl ?_
    refine wm_get (q := 17) hg dX0_enter_14 rfl fl_X0_27 (by first | assumption | decide | omega | (simp only [nO]; omega)) rfl ?_
    refine wm_aload_n (q := 18) (i := 0) hg dX0_enter_17 rfl rfl rfl ?_
    refine wm_get (q := 21) hg dX0_enter_18 rfl fl_X0_24 (by first | assumption | decide | omega | (simp only [nO]; omega)) rfl ?_
    refine wm_iload_n (q := 22) (i := 1) hg dX0_enter_21 rfl rfl rfl ?_
    refine wm_iastore (q := 23) (lgN (M.1 0 c)) hg dX0_enter_22 rfl (by first | assumption | decide | omega | (simp only [nO]; omega)) rfl (by first | exact hb.1 | (simp [sO_same, sO_sO, oI, oA, updA_same, updA_ne, updA_updA, upd_same, upd_ne] <;> exact hb.1)) hlt ?_
    refine wm_aload_n (q := 24) (i := 0) hg dX0_enter_23 rfl rfl rfl ?_
    refine wm_get (q := 27) hg dX0_enter_24 rfl fl_X0_31 (by first | assumption | decide | omega | (simp only [nO]; omega)) rfl ?_
    refine wm_aload_n (q := 28) (i := 0) hg dX0_enter_27 rfl rfl rfl ?_
    refine wm_get (q := 31) hg dX0_enter_28 rfl fl_X0_24 (by first | assumption | decide | omega | (simp only [nO]; omega)) rfl ?_
    refine wm_iload_n (q := 32) (i := 2) hg dX0_enter_31 rfl rfl rfl ?_
    refine wm_iastore (q := 33) (lgN (M.1 0 c)) hg dX0_enter_32 rfl (by first | assumption | decide | omega | (simp only [nO]; omega)) rfl (by first | exact hb.1 | (simp [sO_same, sO_sO, oI, oA, updA_same, updA_ne, updA_updA, upd_same, upd_ne] <;> exact hb.1)) hlt ?_
    refine wm_aload_n (q := 34) (i := 0) hg dX0_enter_33 rfl rfl rfl ?_
    refine wm_get (q := 37) hg dX0_enter_34 rfl fl_X0_34 (by first | assumption | decide | omega | (simp only [nO]; omega)) rfl ?_
    refine wm_aload_n (q := 38) (i := 0) hg dX0_enter_37 rfl rfl rfl ?_
    refine wm_get (q := 41) hg dX0_enter_38 rfl fl_X0_24 (by first | assumption | decide | omega | (simp only [nO]; omega)) rfl ?_
    refine wm_iload_n (q := 42) (i := 3) hg dX0_enter_41 rfl rfl rfl ?_
    refine wm_iastore (q := 43) (lgN (M.1 0 c)) hg dX0_enter_42 rfl (by first | assumption | decide | omega | (simp only [nO]; omega)) rfl (by first | exact hb.1 | (simp [sO_same, sO_sO, oI, oA, updA_same, updA_ne, updA_updA, upd_same, upd_ne] <;> exact hb.1)) hlt ?_
    refine wm_aload_n (q := 44) (i := 0) hg dX0_enter_43 rfl rfl rfl ?_
    refine wm_dup (q := 45) hg dX0_enter_44 rfl rfl ?_
    refine wm_get (q := 48) hg dX0_enter_45 rfl fl_X0_24 (by first | assumption | decide | omega | (simp only [nO]; omega)) rfl ?_
    refine wm_iconst (q := 49) 1 hg dX0_enter_48 rfl (by decide) ?_
    refine wm_iadd (q := 50) hg dX0_enter_49 rfl ?_
    refine wm_put (q := 53) hg dX0_enter_50 rfl fl_X0_24 (by first | assumption | decide | omega | (simp only [nO]; omega)) rfl ?_
    refine wm_aload_n (q := 54) (i := 0) hg dX0_enter_53 rfl rfl rfl ?_
    refine wm_dup (q := 55) hg dX0_enter_54 rfl rfl ?_
    refine wm_get (q := 58) hg dX0_enter_55 rfl fl_X0_18 (by first | assumption | decide | omega | (simp only [nO]; omega)) rfl ?_
    refine wm_iconst (q := 59) 1 hg dX0_enter_58 rfl (by decide) ?_
    refine wm_iadd (q := 60) hg dX0_enter_59 rfl ?_
    refine wm_put (q := 63) hg dX0_enter_60 rfl fl_X0_18 (by first | assumption | decide | omega | (simp only [nO]; omega)) rfl ?_
    refine wm_aload_n (q := 64) (i := 0) hg dX0_enter_63 rfl rfl rfl ?_
    refine wm_dup (q := 65) hg dX0_enter_64 rfl rfl ?_
    refine wm_get (q := 68) hg dX0_enter_65 rfl fl_X0_15 (by first | assumption | decide | omega | (simp only [nO]; omega)) rfl ?_
    refine wm_iload_n (q := 69) (i := 3) hg dX0_enter_68 rfl rfl rfl ?_
    refine wm_iadd (q := 70) hg dX0_enter_69 rfl ?_
    refine wm_put (q := 73) hg dX0_enter_70 rfl fl_X0_15 (by first | assumption | decide | omega | (simp only [nO]; omega)) rfl ?_
    exact wm_vret hg hr dX0_enter_73 (by simp [enX, enY, h1, sO_same, sO_sO, oI, oA, updA_same, updA_ne, updA_updA, upd_same, upd_ne])
  · refine wm_aload_n (q := 10) (i := 0) hg dX0_enter_9 rfl rfl rfl ?_
    refine wm_callV0 (q := 13) hg dX0_enter_10 rfl lk_X0_43 (by decide) (c_X0_dropOldestTurn (by first | assumption | decide | omega)) (by first | assumption | decide | omega | (simp only [nO]; omega)) ⟨rfl, by decide⟩ rfl rfl (Nat.le_of_ble_eq_true rfl) ?_
    refine wm_aload_n (q := 14) (i := 0) hg dX0_enter_13 rfl rfl rfl ?_
    refine wm_get (q := 17) hg dX0_enter_14 rfl fl_X0_27 (by first | assumption | decide | omega | (simp only [nO]; omega)) rfl ?_
    refine wm_aload_n (q := 18) (i := 0) hg dX0_enter_17 rfl rfl rfl ?_
    refine wm_get (q := 21) hg dX0_enter_18 rfl fl_X0_24 (by first | assumption | decide | omega | (simp only [nO]; omega)) rfl ?_
    refine wm_iload_n (q := 22) (i := 1) hg dX0_enter_21 rfl rfl rfl ?_
    refine wm_iastore (q := 23) 29 hg dX0_enter_22 rfl (by first | assumption | decide | omega | (simp only [nO]; omega)) rfl (by first | exact rfl | (simp [sO_same, sO_sO, oI, oA, updA_same, updA_ne, updA_updA, upd_same, upd_ne] <;> exact rfl)) (by decide) ?_
    refine wm_aload_n (q := 24) (i := 0) hg dX0_enter_23 rfl rfl rfl ?_
    refine wm_get (q := 27) hg dX0_enter_24 rfl fl_X0_31 (by first | assumption | decide | omega | (simp only [nO]; omega)) rfl ?_
    refine wm_aload_n (q := 28) (i := 0) hg dX0_enter_27 rfl rfl rfl ?_
    refine wm_get (q := 31) hg dX0_enter_28 rfl fl_X0_24 (by first | assumption | decide | omega | (simp only [nO]; omega)) rfl ?_
    refine wm_iload_n (q := 32) (i := 2) hg dX0_enter_31 rfl rfl rfl ?_
    refine wm_iastore (q := 33) 29 hg dX0_enter_32 rfl (by first | assumption | decide | omega | (simp only [nO]; omega)) rfl (by first | exact rfl | (simp [sO_same, sO_sO, oI, oA, updA_same, updA_ne, updA_updA, upd_same, upd_ne] <;> exact rfl)) (by decide) ?_
    refine wm_aload_n (q := 34) (i := 0) hg dX0_enter_33 rfl rfl rfl ?_
    refine wm_get (q := 37) hg dX0_enter_34 rfl fl_X0_34 (by first | assumption | decide | omega | (simp only [nO]; omega)) rfl ?_
    refine wm_aload_n (q := 38) (i := 0) hg dX0_enter_37 rfl rfl rfl ?_
    refine wm_get (q := 41) hg dX0_enter_38 rfl fl_X0_24 (by first | assumption | decide | omega | (simp only [nO]; omega)) rfl ?_
    refine wm_iload_n (q := 42) (i := 3) hg dX0_enter_41 rfl rfl rfl ?_
    refine wm_iastore (q := 43) 29 hg dX0_enter_42 rfl (by first | assumption | decide | omega | (simp only [nO]; omega)) rfl (by first | exact rfl | (simp [sO_same, sO_sO, oI, oA, updA_same, updA_ne, updA_updA, upd_same, upd_ne] <;> exact rfl)) (by decide) ?_
    refine wm_aload_n (q := 44) (i := 0) hg dX0_enter_43 rfl rfl rfl ?_
    refine wm_dup (q := 45) hg dX0_enter_44 rfl rfl ?_
    refine wm_get (q := 48) hg dX0_enter_45 rfl fl_X0_24 (by first | assumption | decide | omega | (simp only [nO]; omega)) rfl ?_
    refine wm_iconst (q := 49) 1 hg dX0_enter_48 rfl (by decide) ?_
    refine wm_iadd (q := 50) hg dX0_enter_49 rfl ?_
    refine wm_put (q := 53) hg dX0_enter_50 rfl fl_X0_24 (by first | assumption | decide | omega | (simp only [nO]; omega)) rfl ?_
    refine wm_aload_n (q := 54) (i := 0) hg dX0_enter_53 rfl rfl rfl ?_
    refine wm_dup (q := 55) hg dX0_enter_54 rfl rfl ?_
    refine wm_get (q := 58) hg dX0_enter_55 rfl fl_X0_18 (by first | assumption | decide | omega | (simp only [nO]; omega)) rfl ?_
    refine wm_iconst (q := 59) 1 hg dX0_enter_58 rfl (by decide) ?_
    refine wm_iadd (q := 60) hg dX0_enter_59 rfl ?_
    refine wm_put (q := 63) hg dX0_enter_60 rfl fl_X0_18 (by first | assumption | decide | omega | (simp only [nO]; omega)) rfl ?_
    refine wm_aload_n (q := 64) (i := 0) hg dX0_enter_63 rfl rfl rfl ?_
    refine wm_dup (q := 65) hg dX0_enter_64 rfl rfl ?_
    refine wm_get (q := 68) hg dX0_enter_65 rfl fl_X0_15 (by first | assumption | decide | omega | (simp only [nO]; omega)) rfl ?_
    refine wm_iload_n (q := 69) (i := 3) hg dX0_enter_68 rfl rfl rfl ?_
    refine wm_iadd (q := 70) hg dX0_enter_69 rfl ?_
    refine wm_put (q := 73) hg dX0_enter_70 rfl fl_X0_15 (by first | assumption | decide | omega | (simp only [nO]; omega)) rfl ?_
    exact wm_vret hg hr dX0_enter_73 (by simp [enX, enY, h1, lgN_do, sO_same, sO_sO, oI, oA, updA_same, updA_ne, updA_updA, upd_same, upd_ne] <;> simp [doX, sO_same, sO_sO, oI, oA, updA_same, updA_ne, updA_updA, upd_same, upd_ne])
set_option maxRecDepth 100000 in
set_option maxHeartbeats 4000000 in
theorem c_X2_takeFrom {Γ : GT} {M : Mem} {c o : Nat} (hc : c < 11) (ho : o < 11) (hne : c ≠ o) : Ct Γ yX2_takeFrom cX2_takeFrom 2 none 4 [.ref (ad Γ 2 c 0), .ref (ad Γ 2 o 0)] M none (sO (sO M 1 c (M.1 1 o)) 0 c (M.1 0 o)) := by
  refine ct_of (by decide) (Nat.le_of_ble_eq_true rfl) (fun K hg hr => ?_)
  show WM Γ K _ [(0, _), (1, _)] 0 []
  refine wm_aload_n (q := 1) (i := 0) hg dX2_takeFrom_0 rfl rfl rfl ?_
  refine wm_get (q := 4) hg dX2_takeFrom_1 rfl fl_X2_10 (by first | assumption | decide | omega | (simp only [nO]; omega)) rfl ?_
  refine wm_aload_n (q := 5) (i := 1) hg dX2_takeFrom_4 rfl rfl rfl ?_
  refine wm_get (q := 8) hg dX2_takeFrom_5 rfl fl_X2_10 (by first | assumption | decide | omega | (simp only [nO]; omega)) rfl ?_
  refine wm_callV0 (q := 11) hg dX2_takeFrom_8 rfl lk_X2_23 (by decide) (c_X1_takeFrom (by omega) (by omega) hne) (by first | assumption | decide | omega | (simp only [nO]; omega)) ⟨rfl, by decide⟩ rfl rfl (Nat.le_of_ble_eq_true rfl) ?_
  refine wm_aload_n (q := 12) (i := 0) hg dX2_takeFrom_11 rfl rfl rfl ?_
  refine wm_get (q := 15) hg dX2_takeFrom_12 rfl fl_X2_19 (by first | assumption | decide | omega | (simp only [nO]; omega)) rfl ?_
  refine wm_aload_n (q := 16) (i := 1) hg dX2_takeFrom_15 rfl rfl rfl ?_
  refine wm_get (q := 19) hg dX2_takeFrom_16 rfl fl_X2_19 (by first | assumption | decide | omega | (simp only [nO]; omega)) rfl ?_
  refine wm_callV0 (q := 22) hg dX2_takeFrom_19 rfl lk_X2_27 (by decide) (c_X0_takeFrom (by first | assumption | decide | omega) (by first | assumption | decide | omega) (by first | assumption | decide | omega)) (by first | assumption | decide | omega | (simp only [nO]; omega)) ⟨rfl, by decide⟩ rfl rfl (Nat.le_of_ble_eq_true rfl) ?_
  exact wm_vret hg hr dX2_takeFrom_22 (rfl)
end
section
/-! ===== settling ===== -/
def soM (up dn : Int32) : Int32 := if up < dn then dn else up
def soU (X : OV) (i : Nat) : Int32 := part X (nI i) (X.2 1 i) - part X (nI i) (X.2 1 i + 1)
def soD (X : OV) (i : Nat) : Int32 := part X (nI i) (X.2 1 i) - part X (nI i) (X.2 1 i - 1)
def soS (X : OV) (i : Nat) (b : Int32 × Int32 × Int32) : Int32 × Int32 × Int32 :=
  if X.2 2 i = 1 then b else if soM (soU X i) (soD X i) ≤ b.2.2 then b else (nI i, if soU X i < soD X i then -1 else 1, soM (soU X i) (soD X i))
def soA (X : OV) : Nat → Int32 × Int32 × Int32
  | 0 => (-1, 0, X.1 5)
  | i + 1 => soS X i (soA X i)
def soB (X : OV) : Int32 × Int32 × Int32 := soA X (szN X)
theorem soA_h {X : OV} {i : Nat} (h1 : X.2 2 i = 1) : soA X (i + 1) = soA X i := if_pos h1
theorem soA_k {X : OV} {i : Nat} (h1 : ¬ X.2 2 i = 1) (h2 : soM (soU X i) (soD X i) ≤ (soA X i).2.2) : soA X (i + 1) = soA X i := (if_neg h1).trans (if_pos h2)
theorem soA_p {X : OV} {i : Nat} (h1 : ¬ X.2 2 i = 1) (h2 : ¬ soM (soU X i) (soD X i) ≤ (soA X i).2.2) (h3 : soU X i < soD X i) : soA X (i + 1) = (nI i, -1, soM (soU X i) (soD X i)) := ((if_neg h1).trans (if_neg h2)).trans (by rw [if_pos h3])
theorem soA_q {X : OV} {i : Nat} (h1 : ¬ X.2 2 i = 1) (h2 : ¬ soM (soU X i) (soD X i) ≤ (soA X i).2.2) (h3 : ¬ soU X i < soD X i) : soA X (i + 1) = (nI i, 1, soM (soU X i) (soD X i)) := ((if_neg h1).trans (if_neg h2)).trans (by rw [if_neg h3])
theorem soA_lt (X : OV) : ∀ i, i < 2 ^ 31 → (soA X i).1 < 0 ∨ (soA X i).1.toNatClampNeg < i
  | 0, _ => Or.inl (show (-1 : Int32) < 0 by decide)
  | i + 1, h => by
    have h0 := soA_lt X i (by omega)
    have hn : (nI i).toNatClampNeg < i + 1 := by rw [nI_clamp (by omega)]; omega
    by_cases h1 : X.2 2 i = 1
    · rw [soA_h h1]; exact h0.imp id (fun q => by omega)
    · by_cases h2 : soM (soU X i) (soD X i) ≤ (soA X i).2.2
      · rw [soA_k h1 h2]; exact h0.imp id (fun q => by omega)
      · by_cases h3 : soU X i < soD X i
        · rw [soA_p h1 h2 h3]; exact Or.inr hn
        · rw [soA_q h1 h2 h3]; exact Or.inr hn
def tn1 (X : OV) : OV := turnX X (soB X).1.toNatClampNeg (soB X).2.1
def en1 (X B : OV) : OV := enX B (soB X).1 (soB X).2.1 (soB X).2.2
def stX : Nat → OV → Nat × OV
  | 0, X => (0, X)
  | f + 1, X => if (soB X).1 < 0 then (0, X) else ((stX f (tn1 X)).1 + 1, (stX f (tn1 X)).2)
def stB : Nat → OV → OV → Nat × OV × OV
  | 0, X, B => (0, X, B)
  | f + 1, X, B => if (soB X).1 < 0 then (0, X, B) else ((stB f (tn1 X) (en1 X B)).1 + 1, (stB f (tn1 X) (en1 X B)).2)
theorem tn1_1 (X : OV) : (tn1 X).1 = X.1 := rfl
theorem okB_en {B : OV} (hb : okB B) (m d f : Int32) : okB (enX B m d f) := by
  have key : ∀ (B : OV), B.1 4 = nI (lgN B) → lgN B < 30 → okB (enY B m d f) := by
    intro B h1 h2
    have e : (enY B m d f).1 4 = nI (lgN B + 1) := by
      simp only [enY, upd]
      show B.1 4 + 1 = _
      rw [h1]
      exact nI_1 _
    have e2 : lgN (enY B m d f) = lgN B + 1 := by
      unfold lgN at *
      rw [e, nI_clamp (by omega)]
    exact ⟨by rw [e, e2], by omega⟩
  unfold enX
  split
  · next h =>
    refine key B hb.1 ?_
    rcases Nat.lt_or_ge (lgN B) 30 with q | q
    · exact q
    · exact absurd h (by rw [hb.1]; exact nI_nlt q (by have := hb.2; omega))
  · exact key (doX B) rfl (by rw [lgN_do]; decide)
set_option maxRecDepth 100000 in
set_option maxHeartbeats 4000000 in
theorem c_settleOnce_n0 {Γ : GT} {M : Mem} {c : Nat} (hc : c < 15) (hz : ok10 (M.1 1 c)) (hs : (soB (M.1 1 c)).1 < 0) : Ct Γ yX1_settleOnce cX1_settleOnce 9 (some .boolean) 3 [.ref (ad Γ 1 c 0), .null] M (some (.int 0)) M := by
  refine ct_of (by decide) (Nat.le_of_ble_eq_true rfl) (fun K hg hr => ?_)
  show WM Γ K _ [(0, _), (1, _)] 0 []
  have hz2 := hz.2
  refine wm_iconst (q := 1) (-1) hg dX1_settleOnce_0 rfl (by decide) ?_
  refine wm_istore_n (q := 2) (i := 2) (L' := [(0, _), (1, _), (2, _)]) hg dX1_settleOnce_1 rfl rfl rfl rfl ?_
  refine wm_iconst (q := 3) 0 hg dX1_settleOnce_2 rfl (by decide) ?_
  refine wm_istore_n (q := 4) (i := 3) (L' := [(0, _), (1, _), (2, _), (3, _)]) hg dX1_settleOnce_3 rfl rfl rfl rfl ?_
  refine wm_aload_n (q := 5) (i := 0) hg dX1_settleOnce_4 rfl rfl rfl ?_
  refine wm_get (q := 8) hg dX1_settleOnce_5 rfl fl_X1_28 (by first | assumption | decide | omega | (simp only [nO]; omega)) rfl ?_
  refine wm_istore (q := 10) (i := 4) (L' := [(0, _), (1, _), (2, _), (3, _), (4, _)]) hg dX1_settleOnce_8 rfl rfl rfl ?_
  refine wm_iconst (q := 11) 0 hg dX1_settleOnce_10 rfl (by decide) ?_
  refine wm_istore (q := 13) (i := 5) (L' := [(0, _), (1, _), (2, _), (3, _), (4, _), (5, _)]) hg dX1_settleOnce_11 rfl rfl rfl ?_
  suffices hloop : ∀ (n i : Nat), i + n = (szN (M.1 1 c)) → WM Γ K M [(0, .ref (ad Γ 1 c 0)), (1, .null), (2, .int (soA (M.1 1 c) i).1), (3, .int (soA (M.1 1 c) i).2.1), (4, .int (soA (M.1 1 c) i).2.2), (5, .int (nI i))] 13 [] from hloop (szN (M.1 1 c)) 0 (by omega)
  intro n
  induction n with
  | zero =>
    intro i hi 
    refine wm_iload (q := 15) (i := 5) hg dX1_settleOnce_13 rfl rfl ?_
    refine wm_aload_n (q := 16) (i := 0) hg dX1_settleOnce_15 rfl rfl rfl ?_
    refine wm_get (q := 19) hg dX1_settleOnce_16 rfl fl_X1_9 (by first | assumption | decide | omega | (simp only [nO]; omega)) rfl ?_
    refine wm_icmp_ge (q := 134) (q2 := 22) hg dX1_settleOnce_19 (by decide) rfl (fun hb => ?_) (fun hb => ?_)
    · have he : i = szN (M.1 1 c) := by omega
      subst he
      refine wm_iload_n (q := 135) (i := 2) hg dX1_settleOnce_134 rfl rfl rfl ?_
      refine wm_if_ge (q := 140) (q2 := 138) hg dX1_settleOnce_135 (by decide) rfl (fun hq => ?_) (fun hq => ?_)
      · exact absurd hs (Int32.not_lt.mpr hq)
      · refine wm_iconst (q := 139) 0 hg dX1_settleOnce_138 rfl (by decide) ?_
        exact wm_zret hg hr dX1_settleOnce_139 (rfl) (rfl) (by decide)
    · exact absurd hb (fun h => h (lpLe hz.1 (by omega) (by omega)))
  | succ n ih =>
    intro i hi 
    refine wm_iload (q := 15) (i := 5) hg dX1_settleOnce_13 rfl rfl ?_
    refine wm_aload_n (q := 16) (i := 0) hg dX1_settleOnce_15 rfl rfl rfl ?_
    refine wm_get (q := 19) hg dX1_settleOnce_16 rfl fl_X1_9 (by first | assumption | decide | omega | (simp only [nO]; omega)) rfl ?_
    refine wm_icmp_ge (q := 134) (q2 := 22) hg dX1_settleOnce_19 (by decide) rfl (fun hb => ?_) (fun hb => ?_)
    · exact absurd hb (lpLt hz.1 (by omega) (by omega))
    · refine wm_aload_n (q := 23) (i := 0) hg dX1_settleOnce_22 rfl rfl rfl ?_
      refine wm_get (q := 26) hg dX1_settleOnce_23 rfl fl_X1_19 (by first | assumption | decide | omega | (simp only [nO]; omega)) rfl ?_
      refine wm_iload (q := 28) (i := 5) hg dX1_settleOnce_26 rfl rfl ?_
      refine wm_iaload (q := 29) i hg dX1_settleOnce_28 rfl (by first | assumption | decide | omega | (simp only [nO]; omega)) rfl rfl (by simp only [alen]; omega) ?_
      refine wm_iconst (q := 30) 1 hg dX1_settleOnce_29 rfl (by decide) ?_
      refine wm_icmp_ne (q := 36) (q2 := 33) hg dX1_settleOnce_30 (by decide) rfl (fun h1 => ?_) (fun h1 => ?_)
      · refine wm_aload_n (q := 37) (i := 0) hg dX1_settleOnce_36 rfl rfl rfl ?_
        refine wm_iload (q := 39) (i := 5) hg dX1_settleOnce_37 rfl rfl ?_
        refine wm_aload_n (q := 40) (i := 0) hg dX1_settleOnce_39 rfl rfl rfl ?_
        refine wm_get (q := 43) hg dX1_settleOnce_40 rfl fl_X1_15 (by first | assumption | decide | omega | (simp only [nO]; omega)) rfl ?_
        refine wm_iload (q := 45) (i := 5) hg dX1_settleOnce_43 rfl rfl ?_
        refine wm_iaload (q := 46) i hg dX1_settleOnce_45 rfl (by first | assumption | decide | omega | (simp only [nO]; omega)) rfl rfl (by simp only [alen]; omega) ?_
        refine wm_callV1 (q := 49) hg dX1_settleOnce_46 rfl lk_X1_69 (by decide) (c_X1_partOf (by first | assumption | decide | omega) (by first | assumption | decide | omega)) (by first | assumption | decide | omega | (simp only [nO]; omega)) ⟨rfl, by decide⟩ rfl rfl (Nat.le_of_ble_eq_true rfl) ?_
        refine wm_istore (q := 51) (i := 6) (L' := [(0, _), (1, _), (2, _), (3, _), (4, _), (5, _), (6, _)]) hg dX1_settleOnce_49 rfl rfl rfl ?_
        refine wm_iload (q := 53) (i := 6) hg dX1_settleOnce_51 rfl rfl ?_
        refine wm_aload_n (q := 54) (i := 0) hg dX1_settleOnce_53 rfl rfl rfl ?_
        refine wm_iload (q := 56) (i := 5) hg dX1_settleOnce_54 rfl rfl ?_
        refine wm_aload_n (q := 57) (i := 0) hg dX1_settleOnce_56 rfl rfl rfl ?_
        refine wm_get (q := 60) hg dX1_settleOnce_57 rfl fl_X1_15 (by first | assumption | decide | omega | (simp only [nO]; omega)) rfl ?_
        refine wm_iload (q := 62) (i := 5) hg dX1_settleOnce_60 rfl rfl ?_
        refine wm_iaload (q := 63) i hg dX1_settleOnce_62 rfl (by first | assumption | decide | omega | (simp only [nO]; omega)) rfl rfl (by simp only [alen]; omega) ?_
        refine wm_iconst (q := 64) 1 hg dX1_settleOnce_63 rfl (by decide) ?_
        refine wm_iadd (q := 65) hg dX1_settleOnce_64 rfl ?_
        refine wm_callV1 (q := 68) hg dX1_settleOnce_65 rfl lk_X1_69 (by decide) (c_X1_partOf (by first | assumption | decide | omega) (by first | assumption | decide | omega)) (by first | assumption | decide | omega | (simp only [nO]; omega)) ⟨rfl, by decide⟩ rfl rfl (Nat.le_of_ble_eq_true rfl) ?_
        refine wm_isub (q := 69) hg dX1_settleOnce_68 rfl ?_
        refine wm_istore (q := 71) (i := 7) (L' := [(0, _), (1, _), (2, _), (3, _), (4, _), (5, _), (6, _), (7, _)]) hg dX1_settleOnce_69 rfl rfl rfl ?_
        refine wm_iload (q := 73) (i := 6) hg dX1_settleOnce_71 rfl rfl ?_
        refine wm_aload_n (q := 74) (i := 0) hg dX1_settleOnce_73 rfl rfl rfl ?_
        refine wm_iload (q := 76) (i := 5) hg dX1_settleOnce_74 rfl rfl ?_
        refine wm_aload_n (q := 77) (i := 0) hg dX1_settleOnce_76 rfl rfl rfl ?_
        refine wm_get (q := 80) hg dX1_settleOnce_77 rfl fl_X1_15 (by first | assumption | decide | omega | (simp only [nO]; omega)) rfl ?_
        refine wm_iload (q := 82) (i := 5) hg dX1_settleOnce_80 rfl rfl ?_
        refine wm_iaload (q := 83) i hg dX1_settleOnce_82 rfl (by first | assumption | decide | omega | (simp only [nO]; omega)) rfl rfl (by simp only [alen]; omega) ?_
        refine wm_iconst (q := 84) 1 hg dX1_settleOnce_83 rfl (by decide) ?_
        refine wm_isub (q := 85) hg dX1_settleOnce_84 rfl ?_
        refine wm_callV1 (q := 88) hg dX1_settleOnce_85 rfl lk_X1_69 (by decide) (c_X1_partOf (by first | assumption | decide | omega) (by first | assumption | decide | omega)) (by first | assumption | decide | omega | (simp only [nO]; omega)) ⟨rfl, by decide⟩ rfl rfl (Nat.le_of_ble_eq_true rfl) ?_
        refine wm_isub (q := 89) hg dX1_settleOnce_88 rfl ?_
        refine wm_istore (q := 91) (i := 8) (L' := [(0, _), (1, _), (2, _), (3, _), (4, _), (5, _), (6, _), (7, _), (8, _)]) hg dX1_settleOnce_89 rfl rfl rfl ?_
        refine wm_iload (q := 93) (i := 7) hg dX1_settleOnce_91 rfl rfl ?_
        refine wm_iload (q := 95) (i := 8) hg dX1_settleOnce_93 rfl rfl ?_
        refine wm_max (q := 98) hg dX1_settleOnce_95 rfl ml_X1_82 (by decide) (Nat.le_of_ble_eq_true rfl) ?_
        refine wm_iload (q := 100) (i := 4) hg dX1_settleOnce_98 rfl rfl ?_
        refine wm_icmp_le (q := 128) (q2 := 103) hg dX1_settleOnce_100 (by decide) rfl (fun h2 => ?_) (fun h2 => ?_)
        · refine wm_iinc (q := 131) (L' := [(0, _), (1, _), (2, _), (3, _), (4, _), (5, _), (6, _), (7, _), (8, _)]) (nI (i + 1)) hg dX1_settleOnce_128 rfl rfl (nadd rfl rfl) rfl rfl ?_
          refine wm_goto (q := 13) hg dX1_settleOnce_131 (by decide) ?_
          refine wm_L (L' := [(0, _), (1, _), (2, _), (3, _), (4, _), (5, _)]) [0, 1, 2, 3, 4, 5] rfl ?_
          exact wm_Leq (by first | (simp only [soA_h h1]; done) | (simp only [soA_k h1 h2]; done) | (simp only [soA_p h1 h2 h3]; rfl) | (simp only [soA_q h1 h2 h3]; rfl)) (ih (i + 1) (by omega))
        · refine wm_iload (q := 105) (i := 5) hg dX1_settleOnce_103 rfl rfl ?_
          refine wm_istore_n (q := 106) (i := 2) (L' := [(0, _), (1, _), (2, _), (3, _), (4, _), (5, _), (6, _), (7, _), (8, _)]) hg dX1_settleOnce_105 rfl rfl rfl rfl ?_
          refine wm_iload (q := 108) (i := 7) hg dX1_settleOnce_106 rfl rfl ?_
          refine wm_iload (q := 110) (i := 8) hg dX1_settleOnce_108 rfl rfl ?_
          refine wm_icmp_lt (q := 117) (q2 := 113) hg dX1_settleOnce_110 (by decide) rfl (fun h3 => ?_) (fun h3 => ?_)
          · refine wm_iconst (q := 118) (-1) hg dX1_settleOnce_117 rfl (by decide) ?_
            refine wm_istore_n (q := 119) (i := 3) (L' := [(0, _), (1, _), (2, _), (3, _), (4, _), (5, _), (6, _), (7, _), (8, _)]) hg dX1_settleOnce_118 rfl rfl rfl rfl ?_
            refine wm_iload (q := 121) (i := 7) hg dX1_settleOnce_119 rfl rfl ?_
            refine wm_iload (q := 123) (i := 8) hg dX1_settleOnce_121 rfl rfl ?_
            refine wm_max (q := 126) hg dX1_settleOnce_123 rfl ml_X1_82 (by decide) (Nat.le_of_ble_eq_true rfl) ?_
            refine wm_istore (q := 128) (i := 4) (L' := [(0, _), (1, _), (2, _), (3, _), (4, _), (5, _), (6, _), (7, _), (8, _)]) hg dX1_settleOnce_126 rfl rfl rfl ?_
            refine wm_iinc (q := 131) (L' := [(0, _), (1, _), (2, _), (3, _), (4, _), (5, _), (6, _), (7, _), (8, _)]) (nI (i + 1)) hg dX1_settleOnce_128 rfl rfl (nadd rfl rfl) rfl rfl ?_
            refine wm_goto (q := 13) hg dX1_settleOnce_131 (by decide) ?_
            refine wm_L (L' := [(0, _), (1, _), (2, _), (3, _), (4, _), (5, _)]) [0, 1, 2, 3, 4, 5] rfl ?_
            exact wm_Leq (by first | (simp only [soA_h h1]; done) | (simp only [soA_k h1 h2]; done) | (simp only [soA_p h1 h2 h3]; rfl) | (simp only [soA_q h1 h2 h3]; rfl)) (ih (i + 1) (by omega))
          · refine wm_iconst (q := 114) 1 hg dX1_settleOnce_113 rfl (by decide) ?_
            refine wm_goto (q := 118) hg dX1_settleOnce_114 (by decide) ?_
            refine wm_istore_n (q := 119) (i := 3) (L' := [(0, _), (1, _), (2, _), (3, _), (4, _), (5, _), (6, _), (7, _), (8, _)]) hg dX1_settleOnce_118 rfl rfl rfl rfl ?_
            refine wm_iload (q := 121) (i := 7) hg dX1_settleOnce_119 rfl rfl ?_
            refine wm_iload (q := 123) (i := 8) hg dX1_settleOnce_121 rfl rfl ?_
            refine wm_max (q := 126) hg dX1_settleOnce_123 rfl ml_X1_82 (by decide) (Nat.le_of_ble_eq_true rfl) ?_
            refine wm_istore (q := 128) (i := 4) (L' := [(0, _), (1, _), (2, _), (3, _), (4, _), (5, _), (6, _), (7, _), (8, _)]) hg dX1_settleOnce_126 rfl rfl rfl ?_
            refine wm_iinc (q := 131) (L' := [(0, _), (1, _), (2, _), (3, _), (4, _), (5, _), (6, _), (7, _), (8, _)]) (nI (i + 1)) hg dX1_settleOnce_128 rfl rfl (nadd rfl rfl) rfl rfl ?_
            refine wm_goto (q := 13) hg dX1_settleOnce_131 (by decide) ?_
            refine wm_L (L' := [(0, _), (1, _), (2, _), (3, _), (4, _), (5, _)]) [0, 1, 2, 3, 4, 5] rfl ?_
            exact wm_Leq (by first | (simp only [soA_h h1]; done) | (simp only [soA_k h1 h2]; done) | (simp only [soA_p h1 h2 h3]; rfl) | (simp only [soA_q h1 h2 h3]; rfl)) (ih (i + 1) (by omega))
      · refine wm_goto (q := 128) hg dX1_settleOnce_33 (by decide) ?_
        refine wm_iinc (q := 131) (L' := [(0, _), (1, _), (2, _), (3, _), (4, _), (5, _)]) (nI (i + 1)) hg dX1_settleOnce_128 rfl rfl (nadd rfl rfl) rfl rfl ?_
        refine wm_goto (q := 13) hg dX1_settleOnce_131 (by decide) ?_
        exact wm_Leq (by first | (simp only [soA_h h1]; done) | (simp only [soA_k h1 h2]; done) | (simp only [soA_p h1 h2 h3]; rfl) | (simp only [soA_q h1 h2 h3]; rfl)) (ih (i + 1) (by omega))
set_option maxRecDepth 100000 in
set_option maxHeartbeats 4000000 in
theorem c_settleOnce_n1 {Γ : GT} {M : Mem} {c : Nat} (hc : c < 15) (hz : ok10 (M.1 1 c)) (hs : ¬ (soB (M.1 1 c)).1 < 0) : Ct Γ yX1_settleOnce cX1_settleOnce 9 (some .boolean) 3 [.ref (ad Γ 1 c 0), .null] M (some (.int 1)) (sO M 1 c (tn1 (M.1 1 c))) := by
  refine ct_of (by decide) (Nat.le_of_ble_eq_true rfl) (fun K hg hr => ?_)
  show WM Γ K _ [(0, _), (1, _)] 0 []
  have hz2 := hz.2
  refine wm_iconst (q := 1) (-1) hg dX1_settleOnce_0 rfl (by decide) ?_
  refine wm_istore_n (q := 2) (i := 2) (L' := [(0, _), (1, _), (2, _)]) hg dX1_settleOnce_1 rfl rfl rfl rfl ?_
  refine wm_iconst (q := 3) 0 hg dX1_settleOnce_2 rfl (by decide) ?_
  refine wm_istore_n (q := 4) (i := 3) (L' := [(0, _), (1, _), (2, _), (3, _)]) hg dX1_settleOnce_3 rfl rfl rfl rfl ?_
  refine wm_aload_n (q := 5) (i := 0) hg dX1_settleOnce_4 rfl rfl rfl ?_
  refine wm_get (q := 8) hg dX1_settleOnce_5 rfl fl_X1_28 (by first | assumption | decide | omega | (simp only [nO]; omega)) rfl ?_
  refine wm_istore (q := 10) (i := 4) (L' := [(0, _), (1, _), (2, _), (3, _), (4, _)]) hg dX1_settleOnce_8 rfl rfl rfl ?_
  refine wm_iconst (q := 11) 0 hg dX1_settleOnce_10 rfl (by decide) ?_
  refine wm_istore (q := 13) (i := 5) (L' := [(0, _), (1, _), (2, _), (3, _), (4, _), (5, _)]) hg dX1_settleOnce_11 rfl rfl rfl ?_
  suffices hloop : ∀ (n i : Nat), i + n = (szN (M.1 1 c)) → WM Γ K M [(0, .ref (ad Γ 1 c 0)), (1, .null), (2, .int (soA (M.1 1 c) i).1), (3, .int (soA (M.1 1 c) i).2.1), (4, .int (soA (M.1 1 c) i).2.2), (5, .int (nI i))] 13 [] from hloop (szN (M.1 1 c)) 0 (by omega)
  intro n
  induction n with
  | zero =>
    intro i hi 
    refine wm_iload (q := 15) (i := 5) hg dX1_settleOnce_13 rfl rfl ?_
    refine wm_aload_n (q := 16) (i := 0) hg dX1_settleOnce_15 rfl rfl rfl ?_
    refine wm_get (q := 19) hg dX1_settleOnce_16 rfl fl_X1_9 (by first | assumption | decide | omega | (simp only [nO]; omega)) rfl ?_
    refine wm_icmp_ge (q := 134) (q2 := 22) hg dX1_settleOnce_19 (by decide) rfl (fun hb => ?_) (fun hb => ?_)
    · have he : i = szN (M.1 1 c) := by omega
      subst he
      refine wm_iload_n (q := 135) (i := 2) hg dX1_settleOnce_134 rfl rfl rfl ?_
      refine wm_if_ge (q := 140) (q2 := 138) hg dX1_settleOnce_135 (by decide) rfl (fun hq => ?_) (fun hq => ?_)
      · have ht : (soB (M.1 1 c)).1.toNatClampNeg < szN (M.1 1 c) := by
          rcases soA_lt (M.1 1 c) (szN (M.1 1 c)) (by omega) with q | q
          · exact absurd q hs
          · exact q
        refine wm_aload_n (q := 141) (i := 0) hg dX1_settleOnce_140 rfl rfl rfl ?_
        refine wm_iload_n (q := 142) (i := 2) hg dX1_settleOnce_141 rfl rfl rfl ?_
        refine wm_iload_n (q := 143) (i := 3) hg dX1_settleOnce_142 rfl rfl rfl ?_
        refine wm_callV0 (q := 146) hg dX1_settleOnce_143 rfl lk_X1_87 (by decide) (c_X1_turn (t := (soB (M.1 1 c)).1.toNatClampNeg) hc (nI_self hs) (by omega)) (by first | assumption | decide | omega | (simp only [nO]; omega)) ⟨rfl, by decide⟩ rfl rfl (Nat.le_of_ble_eq_true rfl) ?_
        refine wm_aload_nN (q := 147) (i := 1) hg dX1_settleOnce_146 rfl rfl rfl ?_
        refine wm_ifnullN (q := 158) hg dX1_settleOnce_147 (by decide) ?_
        refine wm_iconst (q := 159) 1 hg dX1_settleOnce_158 rfl (by decide) ?_
        exact wm_zret hg hr dX1_settleOnce_159 rfl rfl (by decide)
      · exact absurd (Int32.not_le.mp hq) hs
    · exact absurd hb (fun h => h (lpLe hz.1 (by omega) (by omega)))
  | succ n ih =>
    intro i hi 
    refine wm_iload (q := 15) (i := 5) hg dX1_settleOnce_13 rfl rfl ?_
    refine wm_aload_n (q := 16) (i := 0) hg dX1_settleOnce_15 rfl rfl rfl ?_
    refine wm_get (q := 19) hg dX1_settleOnce_16 rfl fl_X1_9 (by first | assumption | decide | omega | (simp only [nO]; omega)) rfl ?_
    refine wm_icmp_ge (q := 134) (q2 := 22) hg dX1_settleOnce_19 (by decide) rfl (fun hb => ?_) (fun hb => ?_)
    · exact absurd hb (lpLt hz.1 (by omega) (by omega))
    · refine wm_aload_n (q := 23) (i := 0) hg dX1_settleOnce_22 rfl rfl rfl ?_
      refine wm_get (q := 26) hg dX1_settleOnce_23 rfl fl_X1_19 (by first | assumption | decide | omega | (simp only [nO]; omega)) rfl ?_
      refine wm_iload (q := 28) (i := 5) hg dX1_settleOnce_26 rfl rfl ?_
      refine wm_iaload (q := 29) i hg dX1_settleOnce_28 rfl (by first | assumption | decide | omega | (simp only [nO]; omega)) rfl rfl (by simp only [alen]; omega) ?_
      refine wm_iconst (q := 30) 1 hg dX1_settleOnce_29 rfl (by decide) ?_
      refine wm_icmp_ne (q := 36) (q2 := 33) hg dX1_settleOnce_30 (by decide) rfl (fun h1 => ?_) (fun h1 => ?_)
      · refine wm_aload_n (q := 37) (i := 0) hg dX1_settleOnce_36 rfl rfl rfl ?_
        refine wm_iload (q := 39) (i := 5) hg dX1_settleOnce_37 rfl rfl ?_
        refine wm_aload_n (q := 40) (i := 0) hg dX1_settleOnce_39 rfl rfl rfl ?_
        refine wm_get (q := 43) hg dX1_settleOnce_40 rfl fl_X1_15 (by first | assumption | decide | omega | (simp only [nO]; omega)) rfl ?_
        refine wm_iload (q := 45) (i := 5) hg dX1_settleOnce_43 rfl rfl ?_
        refine wm_iaload (q := 46) i hg dX1_settleOnce_45 rfl (by first | assumption | decide | omega | (simp only [nO]; omega)) rfl rfl (by simp only [alen]; omega) ?_
        refine wm_callV1 (q := 49) hg dX1_settleOnce_46 rfl lk_X1_69 (by decide) (c_X1_partOf (by first | assumption | decide | omega) (by first | assumption | decide | omega)) (by first | assumption | decide | omega | (simp only [nO]; omega)) ⟨rfl, by decide⟩ rfl rfl (Nat.le_of_ble_eq_true rfl) ?_
        refine wm_istore (q := 51) (i := 6) (L' := [(0, _), (1, _), (2, _), (3, _), (4, _), (5, _), (6, _)]) hg dX1_settleOnce_49 rfl rfl rfl ?_
        refine wm_iload (q := 53) (i := 6) hg dX1_settleOnce_51 rfl rfl ?_
        refine wm_aload_n (q := 54) (i := 0) hg dX1_settleOnce_53 rfl rfl rfl ?_
        refine wm_iload (q := 56) (i := 5) hg dX1_settleOnce_54 rfl rfl ?_
        refine wm_aload_n (q := 57) (i := 0) hg dX1_settleOnce_56 rfl rfl rfl ?_
        refine wm_get (q := 60) hg dX1_settleOnce_57 rfl fl_X1_15 (by first | assumption | decide | omega | (simp only [nO]; omega)) rfl ?_
        refine wm_iload (q := 62) (i := 5) hg dX1_settleOnce_60 rfl rfl ?_
        refine wm_iaload (q := 63) i hg dX1_settleOnce_62 rfl (by first | assumption | decide | omega | (simp only [nO]; omega)) rfl rfl (by simp only [alen]; omega) ?_
        refine wm_iconst (q := 64) 1 hg dX1_settleOnce_63 rfl (by decide) ?_
        refine wm_iadd (q := 65) hg dX1_settleOnce_64 rfl ?_
        refine wm_callV1 (q := 68) hg dX1_settleOnce_65 rfl lk_X1_69 (by decide) (c_X1_partOf (by first | assumption | decide | omega) (by first | assumption | decide | omega)) (by first | assumption | decide | omega | (simp only [nO]; omega)) ⟨rfl, by decide⟩ rfl rfl (Nat.le_of_ble_eq_true rfl) ?_
        refine wm_isub (q := 69) hg dX1_settleOnce_68 rfl ?_
        refine wm_istore (q := 71) (i := 7) (L' := [(0, _), (1, _), (2, _), (3, _), (4, _), (5, _), (6, _), (7, _)]) hg dX1_settleOnce_69 rfl rfl rfl ?_
        refine wm_iload (q := 73) (i := 6) hg dX1_settleOnce_71 rfl rfl ?_
        refine wm_aload_n (q := 74) (i := 0) hg dX1_settleOnce_73 rfl rfl rfl ?_
        refine wm_iload (q := 76) (i := 5) hg dX1_settleOnce_74 rfl rfl ?_
        refine wm_aload_n (q := 77) (i := 0) hg dX1_settleOnce_76 rfl rfl rfl ?_
        refine wm_get (q := 80) hg dX1_settleOnce_77 rfl fl_X1_15 (by first | assumption | decide | omega | (simp only [nO]; omega)) rfl ?_
        refine wm_iload (q := 82) (i := 5) hg dX1_settleOnce_80 rfl rfl ?_
        refine wm_iaload (q := 83) i hg dX1_settleOnce_82 rfl (by first | assumption | decide | omega | (simp only [nO]; omega)) rfl rfl (by simp only [alen]; omega) ?_
        refine wm_iconst (q := 84) 1 hg dX1_settleOnce_83 rfl (by decide) ?_
        refine wm_isub (q := 85) hg dX1_settleOnce_84 rfl ?_
        refine wm_callV1 (q := 88) hg dX1_settleOnce_85 rfl lk_X1_69 (by decide) (c_X1_partOf (by first | assumption | decide | omega) (by first | assumption | decide | omega)) (by first | assumption | decide | omega | (simp only [nO]; omega)) ⟨rfl, by decide⟩ rfl rfl (Nat.le_of_ble_eq_true rfl) ?_
        refine wm_isub (q := 89) hg dX1_settleOnce_88 rfl ?_
        refine wm_istore (q := 91) (i := 8) (L' := [(0, _), (1, _), (2, _), (3, _), (4, _), (5, _), (6, _), (7, _), (8, _)]) hg dX1_settleOnce_89 rfl rfl rfl ?_
        refine wm_iload (q := 93) (i := 7) hg dX1_settleOnce_91 rfl rfl ?_
        refine wm_iload (q := 95) (i := 8) hg dX1_settleOnce_93 rfl rfl ?_
        refine wm_max (q := 98) hg dX1_settleOnce_95 rfl ml_X1_82 (by decide) (Nat.le_of_ble_eq_true rfl) ?_
        refine wm_iload (q := 100) (i := 4) hg dX1_settleOnce_98 rfl rfl ?_
        refine wm_icmp_le (q := 128) (q2 := 103) hg dX1_settleOnce_100 (by decide) rfl (fun h2 => ?_) (fun h2 => ?_)
        · refine wm_iinc (q := 131) (L' := [(0, _), (1, _), (2, _), (3, _), (4, _), (5, _), (6, _), (7, _), (8, _)]) (nI (i + 1)) hg dX1_settleOnce_128 rfl rfl (nadd rfl rfl) rfl rfl ?_
          refine wm_goto (q := 13) hg dX1_settleOnce_131 (by decide) ?_
          refine wm_L (L' := [(0, _), (1, _), (2, _), (3, _), (4, _), (5, _)]) [0, 1, 2, 3, 4, 5] rfl ?_
          exact wm_Leq (by first | (simp only [soA_h h1]; done) | (simp only [soA_k h1 h2]; done) | (simp only [soA_p h1 h2 h3]; rfl) | (simp only [soA_q h1 h2 h3]; rfl)) (ih (i + 1) (by omega))
        · refine wm_iload (q := 105) (i := 5) hg dX1_settleOnce_103 rfl rfl ?_
          refine wm_istore_n (q := 106) (i := 2) (L' := [(0, _), (1, _), (2, _), (3, _), (4, _), (5, _), (6, _), (7, _), (8, _)]) hg dX1_settleOnce_105 rfl rfl rfl rfl ?_
          refine wm_iload (q := 108) (i := 7) hg dX1_settleOnce_106 rfl rfl ?_
          refine wm_iload (q := 110) (i := 8) hg dX1_settleOnce_108 rfl rfl ?_
          refine wm_icmp_lt (q := 117) (q2 := 113) hg dX1_settleOnce_110 (by decide) rfl (fun h3 => ?_) (fun h3 => ?_)
          · refine wm_iconst (q := 118) (-1) hg dX1_settleOnce_117 rfl (by decide) ?_
            refine wm_istore_n (q := 119) (i := 3) (L' := [(0, _), (1, _), (2, _), (3, _), (4, _), (5, _), (6, _), (7, _), (8, _)]) hg dX1_settleOnce_118 rfl rfl rfl rfl ?_
            refine wm_iload (q := 121) (i := 7) hg dX1_settleOnce_119 rfl rfl ?_
            refine wm_iload (q := 123) (i := 8) hg dX1_settleOnce_121 rfl rfl ?_
            refine wm_max (q := 126) hg dX1_settleOnce_123 rfl ml_X1_82 (by decide) (Nat.le_of_ble_eq_true rfl) ?_
            refine wm_istore (q := 128) (i := 4) (L' := [(0, _), (1, _), (2, _), (3, _), (4, _), (5, _), (6, _), (7, _), (8, _)]) hg dX1_settleOnce_126 rfl rfl rfl ?_
            refine wm_iinc (q := 131) (L' := [(0, _), (1, _), (2, _), (3, _), (4, _), (5, _), (6, _), (7, _), (8, _)]) (nI (i + 1)) hg dX1_settleOnce_128 rfl rfl (nadd rfl rfl) rfl rfl ?_
            refine wm_goto (q := 13) hg dX1_settleOnce_131 (by decide) ?_
            refine wm_L (L' := [(0, _), (1, _), (2, _), (3, _), (4, _), (5, _)]) [0, 1, 2, 3, 4, 5] rfl ?_
            exact wm_Leq (by first | (simp only [soA_h h1]; done) | (simp only [soA_k h1 h2]; done) | (simp only [soA_p h1 h2 h3]; rfl) | (simp only [soA_q h1 h2 h3]; rfl)) (ih (i + 1) (by omega))
          · refine wm_iconst (q := 114) 1 hg dX1_settleOnce_113 rfl (by decide) ?_
            refine wm_goto (q := 118) hg dX1_settleOnce_114 (by decide) ?_
            refine wm_istore_n (q := 119) (i := 3) (L' := [(0, _), (1, _), (2, _), (3, _), (4, _), (5, _), (6, _), (7, _), (8, _)]) hg dX1_settleOnce_118 rfl rfl rfl rfl ?_
            refine wm_iload (q := 121) (i := 7) hg dX1_settleOnce_119 rfl rfl ?_
            refine wm_iload (q := 123) (i := 8) hg dX1_settleOnce_121 rfl rfl ?_
            refine wm_max (q := 126) hg dX1_settleOnce_123 rfl ml_X1_82 (by decide) (Nat.le_of_ble_eq_true rfl) ?_
            refine wm_istore (q := 128) (i := 4) (L' := [(0, _), (1, _), (2, _), (3, _), (4, _), (5, _), (6, _), (7, _), (8, _)]) hg dX1_settleOnce_126 rfl rfl rfl ?_
            refine wm_iinc (q := 131) (L' := [(0, _), (1, _), (2, _), (3, _), (4, _), (5, _), (6, _), (7, _), (8, _)]) (nI (i + 1)) hg dX1_settleOnce_128 rfl rfl (nadd rfl rfl) rfl rfl ?_
            refine wm_goto (q := 13) hg dX1_settleOnce_131 (by decide) ?_
            refine wm_L (L' := [(0, _), (1, _), (2, _), (3, _), (4, _), (5, _)]) [0, 1, 2, 3, 4, 5] rfl ?_
            exact wm_Leq (by first | (simp only [soA_h h1]; done) | (simp only [soA_k h1 h2]; done) | (simp only [soA_p h1 h2 h3]; rfl) | (simp only [soA_q h1 h2 h3]; rfl)) (ih (i + 1) (by omega))
      · refine wm_goto (q := 128) hg dX1_settleOnce_33 (by decide) ?_
        refine wm_iinc (q := 131) (L' := [(0, _), (1, _), (2, _), (3, _), (4, _), (5, _)]) (nI (i + 1)) hg dX1_settleOnce_128 rfl rfl (nadd rfl rfl) rfl rfl ?_
        refine wm_goto (q := 13) hg dX1_settleOnce_131 (by decide) ?_
        exact wm_Leq (by first | (simp only [soA_h h1]; done) | (simp only [soA_k h1 h2]; done) | (simp only [soA_p h1 h2 h3]; rfl) | (simp only [soA_q h1 h2 h3]; rfl)) (ih (i + 1) (by omega))
set_option maxRecDepth 100000 in
set_option maxHeartbeats 4000000 in
theorem c_settleOnce_b0 {Γ : GT} {M : Mem} {c b : Nat} (hc : c < 15) (hz : ok10 (M.1 1 c)) (hbb : b < 11) (hB : okB (M.1 0 b)) (hs : (soB (M.1 1 c)).1 < 0) : Ct Γ yX1_settleOnce cX1_settleOnce 9 (some .boolean) 3 [.ref (ad Γ 1 c 0), .ref (ad Γ 0 b 0)] M (some (.int 0)) M := by
  refine ct_of (by decide) (Nat.le_of_ble_eq_true rfl) (fun K hg hr => ?_)
  show WM Γ K _ [(0, _), (1, _)] 0 []
  have hz2 := hz.2
  refine wm_iconst (q := 1) (-1) hg dX1_settleOnce_0 rfl (by decide) ?_
  refine wm_istore_n (q := 2) (i := 2) (L' := [(0, _), (1, _), (2, _)]) hg dX1_settleOnce_1 rfl rfl rfl rfl ?_
  refine wm_iconst (q := 3) 0 hg dX1_settleOnce_2 rfl (by decide) ?_
  refine wm_istore_n (q := 4) (i := 3) (L' := [(0, _), (1, _), (2, _), (3, _)]) hg dX1_settleOnce_3 rfl rfl rfl rfl ?_
  refine wm_aload_n (q := 5) (i := 0) hg dX1_settleOnce_4 rfl rfl rfl ?_
  refine wm_get (q := 8) hg dX1_settleOnce_5 rfl fl_X1_28 (by first | assumption | decide | omega | (simp only [nO]; omega)) rfl ?_
  refine wm_istore (q := 10) (i := 4) (L' := [(0, _), (1, _), (2, _), (3, _), (4, _)]) hg dX1_settleOnce_8 rfl rfl rfl ?_
  refine wm_iconst (q := 11) 0 hg dX1_settleOnce_10 rfl (by decide) ?_
  refine wm_istore (q := 13) (i := 5) (L' := [(0, _), (1, _), (2, _), (3, _), (4, _), (5, _)]) hg dX1_settleOnce_11 rfl rfl rfl ?_
  suffices hloop : ∀ (n i : Nat), i + n = (szN (M.1 1 c)) → WM Γ K M [(0, .ref (ad Γ 1 c 0)), (1, .ref (ad Γ 0 b 0)), (2, .int (soA (M.1 1 c) i).1), (3, .int (soA (M.1 1 c) i).2.1), (4, .int (soA (M.1 1 c) i).2.2), (5, .int (nI i))] 13 [] from hloop (szN (M.1 1 c)) 0 (by omega)
  intro n
  induction n with
  | zero =>
    intro i hi 
    refine wm_iload (q := 15) (i := 5) hg dX1_settleOnce_13 rfl rfl ?_
    refine wm_aload_n (q := 16) (i := 0) hg dX1_settleOnce_15 rfl rfl rfl ?_
    refine wm_get (q := 19) hg dX1_settleOnce_16 rfl fl_X1_9 (by first | assumption | decide | omega | (simp only [nO]; omega)) rfl ?_
    refine wm_icmp_ge (q := 134) (q2 := 22) hg dX1_settleOnce_19 (by decide) rfl (fun hb => ?_) (fun hb => ?_)
    · have he : i = szN (M.1 1 c) := by omega
      subst he
      refine wm_iload_n (q := 135) (i := 2) hg dX1_settleOnce_134 rfl rfl rfl ?_
      refine wm_if_ge (q := 140) (q2 := 138) hg dX1_settleOnce_135 (by decide) rfl (fun hq => ?_) (fun hq => ?_)
      · exact absurd hs (Int32.not_lt.mpr hq)
      · refine wm_iconst (q := 139) 0 hg dX1_settleOnce_138 rfl (by decide) ?_
        exact wm_zret hg hr dX1_settleOnce_139 (rfl) (rfl) (by decide)
    · exact absurd hb (fun h => h (lpLe hz.1 (by omega) (by omega)))
  | succ n ih =>
    intro i hi 
    refine wm_iload (q := 15) (i := 5) hg dX1_settleOnce_13 rfl rfl ?_
    refine wm_aload_n (q := 16) (i := 0) hg dX1_settleOnce_15 rfl rfl rfl ?_
    refine wm_get (q := 19) hg dX1_settleOnce_16 rfl fl_X1_9 (by first | assumption | decide | omega | (simp only [nO]; omega)) rfl ?_
    refine wm_icmp_ge (q := 134) (q2 := 22) hg dX1_settleOnce_19 (by decide) rfl (fun hb => ?_) (fun hb => ?_)
    · exact absurd hb (lpLt hz.1 (by omega) (by omega))
    · refine wm_aload_n (q := 23) (i := 0) hg dX1_settleOnce_22 rfl rfl rfl ?_
      refine wm_get (q := 26) hg dX1_settleOnce_23 rfl fl_X1_19 (by first | assumption | decide | omega | (simp only [nO]; omega)) rfl ?_
      refine wm_iload (q := 28) (i := 5) hg dX1_settleOnce_26 rfl rfl ?_
      refine wm_iaload (q := 29) i hg dX1_settleOnce_28 rfl (by first | assumption | decide | omega | (simp only [nO]; omega)) rfl rfl (by simp only [alen]; omega) ?_
      refine wm_iconst (q := 30) 1 hg dX1_settleOnce_29 rfl (by decide) ?_
      refine wm_icmp_ne (q := 36) (q2 := 33) hg dX1_settleOnce_30 (by decide) rfl (fun h1 => ?_) (fun h1 => ?_)
      · refine wm_aload_n (q := 37) (i := 0) hg dX1_settleOnce_36 rfl rfl rfl ?_
        refine wm_iload (q := 39) (i := 5) hg dX1_settleOnce_37 rfl rfl ?_
        refine wm_aload_n (q := 40) (i := 0) hg dX1_settleOnce_39 rfl rfl rfl ?_
        refine wm_get (q := 43) hg dX1_settleOnce_40 rfl fl_X1_15 (by first | assumption | decide | omega | (simp only [nO]; omega)) rfl ?_
        refine wm_iload (q := 45) (i := 5) hg dX1_settleOnce_43 rfl rfl ?_
        refine wm_iaload (q := 46) i hg dX1_settleOnce_45 rfl (by first | assumption | decide | omega | (simp only [nO]; omega)) rfl rfl (by simp only [alen]; omega) ?_
        refine wm_callV1 (q := 49) hg dX1_settleOnce_46 rfl lk_X1_69 (by decide) (c_X1_partOf (by first | assumption | decide | omega) (by first | assumption | decide | omega)) (by first | assumption | decide | omega | (simp only [nO]; omega)) ⟨rfl, by decide⟩ rfl rfl (Nat.le_of_ble_eq_true rfl) ?_
        refine wm_istore (q := 51) (i := 6) (L' := [(0, _), (1, _), (2, _), (3, _), (4, _), (5, _), (6, _)]) hg dX1_settleOnce_49 rfl rfl rfl ?_
        refine wm_iload (q := 53) (i := 6) hg dX1_settleOnce_51 rfl rfl ?_
        refine wm_aload_n (q := 54) (i := 0) hg dX1_settleOnce_53 rfl rfl rfl ?_
        refine wm_iload (q := 56) (i := 5) hg dX1_settleOnce_54 rfl rfl ?_
        refine wm_aload_n (q := 57) (i := 0) hg dX1_settleOnce_56 rfl rfl rfl ?_
        refine wm_get (q := 60) hg dX1_settleOnce_57 rfl fl_X1_15 (by first | assumption | decide | omega | (simp only [nO]; omega)) rfl ?_
        refine wm_iload (q := 62) (i := 5) hg dX1_settleOnce_60 rfl rfl ?_
        refine wm_iaload (q := 63) i hg dX1_settleOnce_62 rfl (by first | assumption | decide | omega | (simp only [nO]; omega)) rfl rfl (by simp only [alen]; omega) ?_
        refine wm_iconst (q := 64) 1 hg dX1_settleOnce_63 rfl (by decide) ?_
        refine wm_iadd (q := 65) hg dX1_settleOnce_64 rfl ?_
        refine wm_callV1 (q := 68) hg dX1_settleOnce_65 rfl lk_X1_69 (by decide) (c_X1_partOf (by first | assumption | decide | omega) (by first | assumption | decide | omega)) (by first | assumption | decide | omega | (simp only [nO]; omega)) ⟨rfl, by decide⟩ rfl rfl (Nat.le_of_ble_eq_true rfl) ?_
        refine wm_isub (q := 69) hg dX1_settleOnce_68 rfl ?_
        refine wm_istore (q := 71) (i := 7) (L' := [(0, _), (1, _), (2, _), (3, _), (4, _), (5, _), (6, _), (7, _)]) hg dX1_settleOnce_69 rfl rfl rfl ?_
        refine wm_iload (q := 73) (i := 6) hg dX1_settleOnce_71 rfl rfl ?_
        refine wm_aload_n (q := 74) (i := 0) hg dX1_settleOnce_73 rfl rfl rfl ?_
        refine wm_iload (q := 76) (i := 5) hg dX1_settleOnce_74 rfl rfl ?_
        refine wm_aload_n (q := 77) (i := 0) hg dX1_settleOnce_76 rfl rfl rfl ?_
        refine wm_get (q := 80) hg dX1_settleOnce_77 rfl fl_X1_15 (by first | assumption | decide | omega | (simp only [nO]; omega)) rfl ?_
        refine wm_iload (q := 82) (i := 5) hg dX1_settleOnce_80 rfl rfl ?_
        refine wm_iaload (q := 83) i hg dX1_settleOnce_82 rfl (by first | assumption | decide | omega | (simp only [nO]; omega)) rfl rfl (by simp only [alen]; omega) ?_
        refine wm_iconst (q := 84) 1 hg dX1_settleOnce_83 rfl (by decide) ?_
        refine wm_isub (q := 85) hg dX1_settleOnce_84 rfl ?_
        refine wm_callV1 (q := 88) hg dX1_settleOnce_85 rfl lk_X1_69 (by decide) (c_X1_partOf (by first | assumption | decide | omega) (by first | assumption | decide | omega)) (by first | assumption | decide | omega | (simp only [nO]; omega)) ⟨rfl, by decide⟩ rfl rfl (Nat.le_of_ble_eq_true rfl) ?_
        refine wm_isub (q := 89) hg dX1_settleOnce_88 rfl ?_
        refine wm_istore (q := 91) (i := 8) (L' := [(0, _), (1, _), (2, _), (3, _), (4, _), (5, _), (6, _), (7, _), (8, _)]) hg dX1_settleOnce_89 rfl rfl rfl ?_
        refine wm_iload (q := 93) (i := 7) hg dX1_settleOnce_91 rfl rfl ?_
        refine wm_iload (q := 95) (i := 8) hg dX1_settleOnce_93 rfl rfl ?_
        refine wm_max (q := 98) hg dX1_settleOnce_95 rfl ml_X1_82 (by decide) (Nat.le_of_ble_eq_true rfl) ?_
        refine wm_iload (q := 100) (i := 4) hg dX1_settleOnce_98 rfl rfl ?_
        refine wm_icmp_le (q := 128) (q2 := 103) hg dX1_settleOnce_100 (by decide) rfl (fun h2 => ?_) (fun h2 => ?_)
        · refine wm_iinc (q := 131) (L' := [(0, _), (1, _), (2, _), (3, _), (4, _), (5, _), (6, _), (7, _), (8, _)]) (nI (i + 1)) hg dX1_settleOnce_128 rfl rfl (nadd rfl rfl) rfl rfl ?_
          refine wm_goto (q := 13) hg dX1_settleOnce_131 (by decide) ?_
          refine wm_L (L' := [(0, _), (1, _), (2, _), (3, _), (4, _), (5, _)]) [0, 1, 2, 3, 4, 5] rfl ?_
          exact wm_Leq (by first | (simp only [soA_h h1]; done) | (simp only [soA_k h1 h2]; done) | (simp only [soA_p h1 h2 h3]; rfl) | (simp only [soA_q h1 h2 h3]; rfl)) (ih (i + 1) (by omega))
        · refine wm_iload (q := 105) (i := 5) hg dX1_settleOnce_103 rfl rfl ?_
          refine wm_istore_n (q := 106) (i := 2) (L' := [(0, _), (1, _), (2, _), (3, _), (4, _), (5, _), (6, _), (7, _), (8, _)]) hg dX1_settleOnce_105 rfl rfl rfl rfl ?_
          refine wm_iload (q := 108) (i := 7) hg dX1_settleOnce_106 rfl rfl ?_
          refine wm_iload (q := 110) (i := 8) hg dX1_settleOnce_108 rfl rfl ?_
          refine wm_icmp_lt (q := 117) (q2 := 113) hg dX1_settleOnce_110 (by decide) rfl (fun h3 => ?_) (fun h3 => ?_)
          · refine wm_iconst (q := 118) (-1) hg dX1_settleOnce_117 rfl (by decide) ?_
            refine wm_istore_n (q := 119) (i := 3) (L' := [(0, _), (1, _), (2, _), (3, _), (4, _), (5, _), (6, _), (7, _), (8, _)]) hg dX1_settleOnce_118 rfl rfl rfl rfl ?_
            refine wm_iload (q := 121) (i := 7) hg dX1_settleOnce_119 rfl rfl ?_
            refine wm_iload (q := 123) (i := 8) hg dX1_settleOnce_121 rfl rfl ?_
            refine wm_max (q := 126) hg dX1_settleOnce_123 rfl ml_X1_82 (by decide) (Nat.le_of_ble_eq_true rfl) ?_
            refine wm_istore (q := 128) (i := 4) (L' := [(0, _), (1, _), (2, _), (3, _), (4, _), (5, _), (6, _), (7, _), (8, _)]) hg dX1_settleOnce_126 rfl rfl rfl ?_
            refine wm_iinc (q := 131) (L' := [(0, _), (1, _), (2, _), (3, _), (4, _), (5, _), (6, _), (7, _), (8, _)]) (nI (i + 1)) hg dX1_settleOnce_128 rfl rfl (nadd rfl rfl) rfl rfl ?_
            refine wm_goto (q := 13) hg dX1_settleOnce_131 (by decide) ?_
            refine wm_L (L' := [(0, _), (1, _), (2, _), (3, _), (4, _), (5, _)]) [0, 1, 2, 3, 4, 5] rfl ?_
            exact wm_Leq (by first | (simp only [soA_h h1]; done) | (simp only [soA_k h1 h2]; done) | (simp only [soA_p h1 h2 h3]; rfl) | (simp only [soA_q h1 h2 h3]; rfl)) (ih (i + 1) (by omega))
          · refine wm_iconst (q := 114) 1 hg dX1_settleOnce_113 rfl (by decide) ?_
            refine wm_goto (q := 118) hg dX1_settleOnce_114 (by decide) ?_
            refine wm_istore_n (q := 119) (i := 3) (L' := [(0, _), (1, _), (2, _), (3, _), (4, _), (5, _), (6, _), (7, _), (8, _)]) hg dX1_settleOnce_118 rfl rfl rfl rfl ?_
            refine wm_iload (q := 121) (i := 7) hg dX1_settleOnce_119 rfl rfl ?_
            refine wm_iload (q := 123) (i := 8) hg dX1_settleOnce_121 rfl rfl ?_
            refine wm_max (q := 126) hg dX1_settleOnce_123 rfl ml_X1_82 (by decide) (Nat.le_of_ble_eq_true rfl) ?_
            refine wm_istore (q := 128) (i := 4) (L' := [(0, _), (1, _), (2, _), (3, _), (4, _), (5, _), (6, _), (7, _), (8, _)]) hg dX1_settleOnce_126 rfl rfl rfl ?_
            refine wm_iinc (q := 131) (L' := [(0, _), (1, _), (2, _), (3, _), (4, _), (5, _), (6, _), (7, _), (8, _)]) (nI (i + 1)) hg dX1_settleOnce_128 rfl rfl (nadd rfl rfl) rfl rfl ?_
            refine wm_goto (q := 13) hg dX1_settleOnce_131 (by decide) ?_
            refine wm_L (L' := [(0, _), (1, _), (2, _), (3, _), (4, _), (5, _)]) [0, 1, 2, 3, 4, 5] rfl ?_
            exact wm_Leq (by first | (simp only [soA_h h1]; done) | (simp only [soA_k h1 h2]; done) | (simp only [soA_p h1 h2 h3]; rfl) | (simp only [soA_q h1 h2 h3]; rfl)) (ih (i + 1) (by omega))
      · refine wm_goto (q := 128) hg dX1_settleOnce_33 (by decide) ?_
        refine wm_iinc (q := 131) (L' := [(0, _), (1, _), (2, _), (3, _), (4, _), (5, _)]) (nI (i + 1)) hg dX1_settleOnce_128 rfl rfl (nadd rfl rfl) rfl rfl ?_
        refine wm_goto (q := 13) hg dX1_settleOnce_131 (by decide) ?_
        exact wm_Leq (by first | (simp only [soA_h h1]; done) | (simp only [soA_k h1 h2]; done) | (simp only [soA_p h1 h2 h3]; rfl) | (simp only [soA_q h1 h2 h3]; rfl)) (ih (i + 1) (by omega))
set_option maxRecDepth 100000 in
set_option maxHeartbeats 4000000 in
theorem c_settleOnce_b1 {Γ : GT} {M : Mem} {c b : Nat} (hc : c < 15) (hz : ok10 (M.1 1 c)) (hbb : b < 11) (hB : okB (M.1 0 b)) (hs : ¬ (soB (M.1 1 c)).1 < 0) : Ct Γ yX1_settleOnce cX1_settleOnce 9 (some .boolean) 3 [.ref (ad Γ 1 c 0), .ref (ad Γ 0 b 0)] M (some (.int 1)) (sO (sO M 1 c (tn1 (M.1 1 c))) 0 b (en1 (M.1 1 c) (M.1 0 b))) := by
  refine ct_of (by decide) (Nat.le_of_ble_eq_true rfl) (fun K hg hr => ?_)
  show WM Γ K _ [(0, _), (1, _)] 0 []
  have hz2 := hz.2
  refine wm_iconst (q := 1) (-1) hg dX1_settleOnce_0 rfl (by decide) ?_
  refine wm_istore_n (q := 2) (i := 2) (L' := [(0, _), (1, _), (2, _)]) hg dX1_settleOnce_1 rfl rfl rfl rfl ?_
  refine wm_iconst (q := 3) 0 hg dX1_settleOnce_2 rfl (by decide) ?_
  refine wm_istore_n (q := 4) (i := 3) (L' := [(0, _), (1, _), (2, _), (3, _)]) hg dX1_settleOnce_3 rfl rfl rfl rfl ?_
  refine wm_aload_n (q := 5) (i := 0) hg dX1_settleOnce_4 rfl rfl rfl ?_
  refine wm_get (q := 8) hg dX1_settleOnce_5 rfl fl_X1_28 (by first | assumption | decide | omega | (simp only [nO]; omega)) rfl ?_
  refine wm_istore (q := 10) (i := 4) (L' := [(0, _), (1, _), (2, _), (3, _), (4, _)]) hg dX1_settleOnce_8 rfl rfl rfl ?_
  refine wm_iconst (q := 11) 0 hg dX1_settleOnce_10 rfl (by decide) ?_
  refine wm_istore (q := 13) (i := 5) (L' := [(0, _), (1, _), (2, _), (3, _), (4, _), (5, _)]) hg dX1_settleOnce_11 rfl rfl rfl ?_
  suffices hloop : ∀ (n i : Nat), i + n = (szN (M.1 1 c)) → WM Γ K M [(0, .ref (ad Γ 1 c 0)), (1, .ref (ad Γ 0 b 0)), (2, .int (soA (M.1 1 c) i).1), (3, .int (soA (M.1 1 c) i).2.1), (4, .int (soA (M.1 1 c) i).2.2), (5, .int (nI i))] 13 [] from hloop (szN (M.1 1 c)) 0 (by omega)
  intro n
  induction n with
  | zero =>
    intro i hi 
    refine wm_iload (q := 15) (i := 5) hg dX1_settleOnce_13 rfl rfl ?_
    refine wm_aload_n (q := 16) (i := 0) hg dX1_settleOnce_15 rfl rfl rfl ?_
    refine wm_get (q := 19) hg dX1_settleOnce_16 rfl fl_X1_9 (by first | assumption | decide | omega | (simp only [nO]; omega)) rfl ?_
    refine wm_icmp_ge (q := 134) (q2 := 22) hg dX1_settleOnce_19 (by decide) rfl (fun hb => ?_) (fun hb => ?_)
    · have he : i = szN (M.1 1 c) := by omega
      subst he
      refine wm_iload_n (q := 135) (i := 2) hg dX1_settleOnce_134 rfl rfl rfl ?_
      refine wm_if_ge (q := 140) (q2 := 138) hg dX1_settleOnce_135 (by decide) rfl (fun hq => ?_) (fun hq => ?_)
      · have ht : (soB (M.1 1 c)).1.toNatClampNeg < szN (M.1 1 c) := by
          rcases soA_lt (M.1 1 c) (szN (M.1 1 c)) (by omega) with q | q
          · exact absurd q hs
          · exact q
        refine wm_aload_n (q := 141) (i := 0) hg dX1_settleOnce_140 rfl rfl rfl ?_
        refine wm_iload_n (q := 142) (i := 2) hg dX1_settleOnce_141 rfl rfl rfl ?_
        refine wm_iload_n (q := 143) (i := 3) hg dX1_settleOnce_142 rfl rfl rfl ?_
        refine wm_callV0 (q := 146) hg dX1_settleOnce_143 rfl lk_X1_87 (by decide) (c_X1_turn (t := (soB (M.1 1 c)).1.toNatClampNeg) hc (nI_self hs) (by omega)) (by first | assumption | decide | omega | (simp only [nO]; omega)) ⟨rfl, by decide⟩ rfl rfl (Nat.le_of_ble_eq_true rfl) ?_
        refine wm_aload_n (q := 147) (i := 1) hg dX1_settleOnce_146 rfl rfl rfl ?_
        refine wm_ifnull (q := 150) hg dX1_settleOnce_147 rfl ?_
        refine wm_aload_n (q := 151) (i := 1) hg dX1_settleOnce_150 rfl rfl rfl ?_
        refine wm_iload_n (q := 152) (i := 2) hg dX1_settleOnce_151 rfl rfl rfl ?_
        refine wm_iload_n (q := 153) (i := 3) hg dX1_settleOnce_152 rfl rfl rfl ?_
        refine wm_iload (q := 155) (i := 4) hg dX1_settleOnce_153 rfl rfl ?_
        refine wm_callV0 (q := 158) hg dX1_settleOnce_155 rfl lk_X1_91 (by decide) (c_X0_enter hbb (by rw [sO_kind _ _ _ _ (by decide)]; exact hB)) (by first | assumption | decide | omega | (simp only [nO]; omega)) ⟨rfl, by decide⟩ rfl rfl (Nat.le_of_ble_eq_true rfl) ?_
        refine wm_iconst (q := 159) 1 hg dX1_settleOnce_158 rfl (by decide) ?_
        exact wm_zret hg hr dX1_settleOnce_159 rfl (by rw [sO_kind _ _ _ _ (by decide)]; rfl) (by decide)
      · exact absurd (Int32.not_le.mp hq) hs
    · exact absurd hb (fun h => h (lpLe hz.1 (by omega) (by omega)))
  | succ n ih =>
    intro i hi 
    refine wm_iload (q := 15) (i := 5) hg dX1_settleOnce_13 rfl rfl ?_
    refine wm_aload_n (q := 16) (i := 0) hg dX1_settleOnce_15 rfl rfl rfl ?_
    refine wm_get (q := 19) hg dX1_settleOnce_16 rfl fl_X1_9 (by first | assumption | decide | omega | (simp only [nO]; omega)) rfl ?_
    refine wm_icmp_ge (q := 134) (q2 := 22) hg dX1_settleOnce_19 (by decide) rfl (fun hb => ?_) (fun hb => ?_)
    · exact absurd hb (lpLt hz.1 (by omega) (by omega))
    · refine wm_aload_n (q := 23) (i := 0) hg dX1_settleOnce_22 rfl rfl rfl ?_
      refine wm_get (q := 26) hg dX1_settleOnce_23 rfl fl_X1_19 (by first | assumption | decide | omega | (simp only [nO]; omega)) rfl ?_
      refine wm_iload (q := 28) (i := 5) hg dX1_settleOnce_26 rfl rfl ?_
      refine wm_iaload (q := 29) i hg dX1_settleOnce_28 rfl (by first | assumption | decide | omega | (simp only [nO]; omega)) rfl rfl (by simp only [alen]; omega) ?_
      refine wm_iconst (q := 30) 1 hg dX1_settleOnce_29 rfl (by decide) ?_
      refine wm_icmp_ne (q := 36) (q2 := 33) hg dX1_settleOnce_30 (by decide) rfl (fun h1 => ?_) (fun h1 => ?_)
      · refine wm_aload_n (q := 37) (i := 0) hg dX1_settleOnce_36 rfl rfl rfl ?_
        refine wm_iload (q := 39) (i := 5) hg dX1_settleOnce_37 rfl rfl ?_
        refine wm_aload_n (q := 40) (i := 0) hg dX1_settleOnce_39 rfl rfl rfl ?_
        refine wm_get (q := 43) hg dX1_settleOnce_40 rfl fl_X1_15 (by first | assumption | decide | omega | (simp only [nO]; omega)) rfl ?_
        refine wm_iload (q := 45) (i := 5) hg dX1_settleOnce_43 rfl rfl ?_
        refine wm_iaload (q := 46) i hg dX1_settleOnce_45 rfl (by first | assumption | decide | omega | (simp only [nO]; omega)) rfl rfl (by simp only [alen]; omega) ?_
        refine wm_callV1 (q := 49) hg dX1_settleOnce_46 rfl lk_X1_69 (by decide) (c_X1_partOf (by first | assumption | decide | omega) (by first | assumption | decide | omega)) (by first | assumption | decide | omega | (simp only [nO]; omega)) ⟨rfl, by decide⟩ rfl rfl (Nat.le_of_ble_eq_true rfl) ?_
        refine wm_istore (q := 51) (i := 6) (L' := [(0, _), (1, _), (2, _), (3, _), (4, _), (5, _), (6, _)]) hg dX1_settleOnce_49 rfl rfl rfl ?_
        refine wm_iload (q := 53) (i := 6) hg dX1_settleOnce_51 rfl rfl ?_
        refine wm_aload_n (q := 54) (i := 0) hg dX1_settleOnce_53 rfl rfl rfl ?_
        refine wm_iload (q := 56) (i := 5) hg dX1_settleOnce_54 rfl rfl ?_
        refine wm_aload_n (q := 57) (i := 0) hg dX1_settleOnce_56 rfl rfl rfl ?_
        refine wm_get (q := 60) hg dX1_settleOnce_57 rfl fl_X1_15 (by first | assumption | decide | omega | (simp only [nO]; omega)) rfl ?_
        refine wm_iload (q := 62) (i := 5) hg dX1_settleOnce_60 rfl rfl ?_
        refine wm_iaload (q := 63) i hg dX1_settleOnce_62 rfl (by first | assumption | decide | omega | (simp only [nO]; omega)) rfl rfl (by simp only [alen]; omega) ?_
        refine wm_iconst (q := 64) 1 hg dX1_settleOnce_63 rfl (by decide) ?_
        refine wm_iadd (q := 65) hg dX1_settleOnce_64 rfl ?_
        refine wm_callV1 (q := 68) hg dX1_settleOnce_65 rfl lk_X1_69 (by decide) (c_X1_partOf (by first | assumption | decide | omega) (by first | assumption | decide | omega)) (by first | assumption | decide | omega | (simp only [nO]; omega)) ⟨rfl, by decide⟩ rfl rfl (Nat.le_of_ble_eq_true rfl) ?_
        refine wm_isub (q := 69) hg dX1_settleOnce_68 rfl ?_
        refine wm_istore (q := 71) (i := 7) (L' := [(0, _), (1, _), (2, _), (3, _), (4, _), (5, _), (6, _), (7, _)]) hg dX1_settleOnce_69 rfl rfl rfl ?_
        refine wm_iload (q := 73) (i := 6) hg dX1_settleOnce_71 rfl rfl ?_
        refine wm_aload_n (q := 74) (i := 0) hg dX1_settleOnce_73 rfl rfl rfl ?_
        refine wm_iload (q := 76) (i := 5) hg dX1_settleOnce_74 rfl rfl ?_
        refine wm_aload_n (q := 77) (i := 0) hg dX1_settleOnce_76 rfl rfl rfl ?_
        refine wm_get (q := 80) hg dX1_settleOnce_77 rfl fl_X1_15 (by first | assumption | decide | omega | (simp only [nO]; omega)) rfl ?_
        refine wm_iload (q := 82) (i := 5) hg dX1_settleOnce_80 rfl rfl ?_
        refine wm_iaload (q := 83) i hg dX1_settleOnce_82 rfl (by first | assumption | decide | omega | (simp only [nO]; omega)) rfl rfl (by simp only [alen]; omega) ?_
        refine wm_iconst (q := 84) 1 hg dX1_settleOnce_83 rfl (by decide) ?_
        refine wm_isub (q := 85) hg dX1_settleOnce_84 rfl ?_
        refine wm_callV1 (q := 88) hg dX1_settleOnce_85 rfl lk_X1_69 (by decide) (c_X1_partOf (by first | assumption | decide | omega) (by first | assumption | decide | omega)) (by first | assumption | decide | omega | (simp only [nO]; omega)) ⟨rfl, by decide⟩ rfl rfl (Nat.le_of_ble_eq_true rfl) ?_
        refine wm_isub (q := 89) hg dX1_settleOnce_88 rfl ?_
        refine wm_istore (q := 91) (i := 8) (L' := [(0, _), (1, _), (2, _), (3, _), (4, _), (5, _), (6, _), (7, _), (8, _)]) hg dX1_settleOnce_89 rfl rfl rfl ?_
        refine wm_iload (q := 93) (i := 7) hg dX1_settleOnce_91 rfl rfl ?_
        refine wm_iload (q := 95) (i := 8) hg dX1_settleOnce_93 rfl rfl ?_
        refine wm_max (q := 98) hg dX1_settleOnce_95 rfl ml_X1_82 (by decide) (Nat.le_of_ble_eq_true rfl) ?_
        refine wm_iload (q := 100) (i := 4) hg dX1_settleOnce_98 rfl rfl ?_
        refine wm_icmp_le (q := 128) (q2 := 103) hg dX1_settleOnce_100 (by decide) rfl (fun h2 => ?_) (fun h2 => ?_)
        · refine wm_iinc (q := 131) (L' := [(0, _), (1, _), (2, _), (3, _), (4, _), (5, _), (6, _), (7, _), (8, _)]) (nI (i + 1)) hg dX1_settleOnce_128 rfl rfl (nadd rfl rfl) rfl rfl ?_
          refine wm_goto (q := 13) hg dX1_settleOnce_131 (by decide) ?_
          refine wm_L (L' := [(0, _), (1, _), (2, _), (3, _), (4, _), (5, _)]) [0, 1, 2, 3, 4, 5] rfl ?_
          exact wm_Leq (by first | (simp only [soA_h h1]; done) | (simp only [soA_k h1 h2]; done) | (simp only [soA_p h1 h2 h3]; rfl) | (simp only [soA_q h1 h2 h3]; rfl)) (ih (i + 1) (by omega))
        · refine wm_iload (q := 105) (i := 5) hg dX1_settleOnce_103 rfl rfl ?_
          refine wm_istore_n (q := 106) (i := 2) (L' := [(0, _), (1, _), (2, _), (3, _), (4, _), (5, _), (6, _), (7, _), (8, _)]) hg dX1_settleOnce_105 rfl rfl rfl rfl ?_
          refine wm_iload (q := 108) (i := 7) hg dX1_settleOnce_106 rfl rfl ?_
          refine wm_iload (q := 110) (i := 8) hg dX1_settleOnce_108 rfl rfl ?_
          refine wm_icmp_lt (q := 117) (q2 := 113) hg dX1_settleOnce_110 (by decide) rfl (fun h3 => ?_) (fun h3 => ?_)
          · refine wm_iconst (q := 118) (-1) hg dX1_settleOnce_117 rfl (by decide) ?_
            refine wm_istore_n (q := 119) (i := 3) (L' := [(0, _), (1, _), (2, _), (3, _), (4, _), (5, _), (6, _), (7, _), (8, _)]) hg dX1_settleOnce_118 rfl rfl rfl rfl ?_
            refine wm_iload (q := 121) (i := 7) hg dX1_settleOnce_119 rfl rfl ?_
            refine wm_iload (q := 123) (i := 8) hg dX1_settleOnce_121 rfl rfl ?_
            refine wm_max (q := 126) hg dX1_settleOnce_123 rfl ml_X1_82 (by decide) (Nat.le_of_ble_eq_true rfl) ?_
            refine wm_istore (q := 128) (i := 4) (L' := [(0, _), (1, _), (2, _), (3, _), (4, _), (5, _), (6, _), (7, _), (8, _)]) hg dX1_settleOnce_126 rfl rfl rfl ?_
            refine wm_iinc (q := 131) (L' := [(0, _), (1, _), (2, _), (3, _), (4, _), (5, _), (6, _), (7, _), (8, _)]) (nI (i + 1)) hg dX1_settleOnce_128 rfl rfl (nadd rfl rfl) rfl rfl ?_
            refine wm_goto (q := 13) hg dX1_settleOnce_131 (by decide) ?_
            refine wm_L (L' := [(0, _), (1, _), (2, _), (3, _), (4, _), (5, _)]) [0, 1, 2, 3, 4, 5] rfl ?_
            exact wm_Leq (by first | (simp only [soA_h h1]; done) | (simp only [soA_k h1 h2]; done) | (simp only [soA_p h1 h2 h3]; rfl) | (simp only [soA_q h1 h2 h3]; rfl)) (ih (i + 1) (by omega))
          · refine wm_iconst (q := 114) 1 hg dX1_settleOnce_113 rfl (by decide) ?_
            refine wm_goto (q := 118) hg dX1_settleOnce_114 (by decide) ?_
            refine wm_istore_n (q := 119) (i := 3) (L' := [(0, _), (1, _), (2, _), (3, _), (4, _), (5, _), (6, _), (7, _), (8, _)]) hg dX1_settleOnce_118 rfl rfl rfl rfl ?_
            refine wm_iload (q := 121) (i := 7) hg dX1_settleOnce_119 rfl rfl ?_
            refine wm_iload (q := 123) (i := 8) hg dX1_settleOnce_121 rfl rfl ?_
            refine wm_max (q := 126) hg dX1_settleOnce_123 rfl ml_X1_82 (by decide) (Nat.le_of_ble_eq_true rfl) ?_
            refine wm_istore (q := 128) (i := 4) (L' := [(0, _), (1, _), (2, _), (3, _), (4, _), (5, _), (6, _), (7, _), (8, _)]) hg dX1_settleOnce_126 rfl rfl rfl ?_
            refine wm_iinc (q := 131) (L' := [(0, _), (1, _), (2, _), (3, _), (4, _), (5, _), (6, _), (7, _), (8, _)]) (nI (i + 1)) hg dX1_settleOnce_128 rfl rfl (nadd rfl rfl) rfl rfl ?_
            refine wm_goto (q := 13) hg dX1_settleOnce_131 (by decide) ?_
            refine wm_L (L' := [(0, _), (1, _), (2, _), (3, _), (4, _), (5, _)]) [0, 1, 2, 3, 4, 5] rfl ?_
            exact wm_Leq (by first | (simp only [soA_h h1]; done) | (simp only [soA_k h1 h2]; done) | (simp only [soA_p h1 h2 h3]; rfl) | (simp only [soA_q h1 h2 h3]; rfl)) (ih (i + 1) (by omega))
      · refine wm_goto (q := 128) hg dX1_settleOnce_33 (by decide) ?_
        refine wm_iinc (q := 131) (L' := [(0, _), (1, _), (2, _), (3, _), (4, _), (5, _)]) (nI (i + 1)) hg dX1_settleOnce_128 rfl rfl (nadd rfl rfl) rfl rfl ?_
        refine wm_goto (q := 13) hg dX1_settleOnce_131 (by decide) ?_
        exact wm_Leq (by first | (simp only [soA_h h1]; done) | (simp only [soA_k h1 h2]; done) | (simp only [soA_p h1 h2 h3]; rfl) | (simp only [soA_q h1 h2 h3]; rfl)) (ih (i + 1) (by omega))
set_option maxRecDepth 100000 in
set_option maxHeartbeats 4000000 in
theorem c_settle_n {Γ : GT} {M : Mem} {c : Nat} (hc : c < 15) (hz : ok10 (M.1 1 c)) : Ct Γ yX1_settle cX1_settle 3 (some .int) 4 [.ref (ad Γ 1 c 0), .null] M (some (.int (nI (stX 200 (M.1 1 c)).1))) (sO M 1 c (stX 200 (M.1 1 c)).2) := by
  refine ct_of (by decide) (Nat.le_of_ble_eq_true rfl) (fun K hg hr => ?_)
  show WM Γ K _ [(0, _), (1, _)] 0 []
  refine wm_iconst (q := 1) 0 hg dX1_settle_0 rfl (by decide) ?_
  refine wm_istore_n (q := 2) (i := 2) (L' := [(0, _), (1, _), (2, _)]) hg dX1_settle_1 rfl rfl rfl rfl ?_
  suffices hloop : ∀ (f dn : Nat) (Y : OV), dn + f = 200 → ok10 Y → nI (dn + (stX f Y).1) = nI (stX 200 (M.1 1 c)).1 → (stX f Y).2 = (stX 200 (M.1 1 c)).2 → WM Γ K (sO M 1 c Y) [(0, .ref (ad Γ 1 c 0)), (1, .null), (2, .int (nI dn))] 2 [] from wm_mem (sO_self M 1 c).symm (hloop 200 0 (M.1 1 c) rfl hz (by rw [Nat.zero_add]) rfl)
  intro f
  induction f with
  | zero =>
    intro dn Y hd hY h1 h2
    refine wm_iload_n (q := 3) (i := 2) hg dX1_settle_2 rfl rfl rfl ?_
    refine wm_sipush (q := 6) 200 hg dX1_settle_3 rfl (by decide) ?_
    refine wm_icmp_ge (q := 25) (q2 := 9) hg dX1_settle_6 (by decide) rfl (fun hb2 => ?_) (fun hb2 => ?_)
    · refine wm_sipush (q := 28) 200 hg dX1_settle_25 rfl (by decide) ?_
      exact wm_iret hg hr dX1_settle_28 (by rw [← h1, show dn = 200 from hd]; rfl) (by rw [← h2]; rfl)
    · exact absurd (nI_le (a := 200) (b := dn) (by omega) (by omega)) hb2
  | succ f ih =>
    intro dn Y hd hY h1 h2
    have eY : ((sO M 1 c Y)).1 1 c = Y := by rw [sO_same]
    refine wm_iload_n (q := 3) (i := 2) hg dX1_settle_2 rfl rfl rfl ?_
    refine wm_sipush (q := 6) 200 hg dX1_settle_3 rfl (by decide) ?_
    refine wm_icmp_ge (q := 25) (q2 := 9) hg dX1_settle_6 (by decide) rfl (fun hb2 => ?_) (fun hb2 => ?_)
    · exact absurd hb2 (nI_ge (a := dn) (b := 200) (by omega) (by decide))
    · by_cases hs : (soB Y).1 < 0
      · have e3 : stX (f + 1) Y = (0, Y) := if_pos hs
        rw [e3] at h1 h2
        refine wm_aload_n (q := 10) (i := 0) hg dX1_settle_9 rfl rfl rfl ?_
        refine wm_aload_nN (q := 11) (i := 1) hg dX1_settle_10 rfl rfl rfl ?_
        refine wm_callV1 (q := 14) hg dX1_settle_11 rfl lk_X1_78 (by decide) (c_settleOnce_n0 hc (by rw [eY]; exact hY) (by rw [eY]; exact hs)) (by first | assumption | decide | omega | (simp only [nO]; omega)) ⟨rfl, by decide⟩ rfl rfl (Nat.le_of_ble_eq_true rfl) ?_
        refine wm_if_ne (q := 19) (q2 := 17) hg dX1_settle_14 (by decide) rfl (fun hb3 => ?_) (fun hb3 => ?_)
        · exact absurd rfl hb3
        · refine wm_iload_n (q := 18) (i := 2) hg dX1_settle_17 rfl rfl rfl ?_
          exact wm_iret hg hr dX1_settle_18 (by rw [← h1]; rfl) (by rw [← h2])
      · have e3 : stX (f + 1) Y = ((stX f (tn1 Y)).1 + 1, (stX f (tn1 Y)).2) := if_neg hs
        rw [e3] at h1 h2
        refine wm_aload_n (q := 10) (i := 0) hg dX1_settle_9 rfl rfl rfl ?_
        refine wm_aload_nN (q := 11) (i := 1) hg dX1_settle_10 rfl rfl rfl ?_
        refine wm_callV1 (q := 14) hg dX1_settle_11 rfl lk_X1_78 (by decide) (c_settleOnce_n1 hc (by rw [eY]; exact hY) (by rw [eY]; exact hs)) (by first | assumption | decide | omega | (simp only [nO]; omega)) ⟨rfl, by decide⟩ rfl rfl (Nat.le_of_ble_eq_true rfl) ?_
        refine wm_if_ne (q := 19) (q2 := 17) hg dX1_settle_14 (by decide) rfl (fun hb3 => ?_) (fun hb3 => ?_)
        · refine wm_iinc (q := 22) (L' := [(0, _), (1, _), (2, _)]) (nI (dn + 1)) hg dX1_settle_19 rfl rfl (nadd rfl rfl) rfl rfl ?_
          refine wm_goto (q := 2) hg dX1_settle_22 (by decide) ?_
          refine wm_mem ?_ (ih (dn + 1) (tn1 Y) (by omega) (ok10_1 rfl hY) ?_ h2)
          · rw [eY, sO_sO]
          · exact (congrArg nI (by omega)).trans h1
        · exact absurd hb3 (by decide)
set_option maxRecDepth 100000 in
set_option maxHeartbeats 4000000 in
theorem c_settle_b {Γ : GT} {M : Mem} {c b : Nat} (hc : c < 15) (hz : ok10 (M.1 1 c)) (hbb : b < 11) (hB : okB (M.1 0 b)) : Ct Γ yX1_settle cX1_settle 3 (some .int) 4 [.ref (ad Γ 1 c 0), .ref (ad Γ 0 b 0)] M (some (.int (nI (stB 200 (M.1 1 c) (M.1 0 b)).1))) (sO (sO M 1 c (stB 200 (M.1 1 c) (M.1 0 b)).2.1) 0 b (stB 200 (M.1 1 c) (M.1 0 b)).2.2) := by
  refine ct_of (by decide) (Nat.le_of_ble_eq_true rfl) (fun K hg hr => ?_)
  show WM Γ K _ [(0, _), (1, _)] 0 []
  refine wm_iconst (q := 1) 0 hg dX1_settle_0 rfl (by decide) ?_
  refine wm_istore_n (q := 2) (i := 2) (L' := [(0, _), (1, _), (2, _)]) hg dX1_settle_1 rfl rfl rfl rfl ?_
  suffices hloop : ∀ (f dn : Nat) (Y B : OV), dn + f = 200 → ok10 Y → okB B → nI (dn + (stB f Y B).1) = nI (stB 200 (M.1 1 c) (M.1 0 b)).1 → (stB f Y B).2 = (stB 200 (M.1 1 c) (M.1 0 b)).2 → WM Γ K (sO (sO M 1 c Y) 0 b B) [(0, .ref (ad Γ 1 c 0)), (1, .ref (ad Γ 0 b 0)), (2, .int (nI dn))] 2 [] from wm_mem (by rw [sO_self, sO_self]) (hloop 200 0 (M.1 1 c) (M.1 0 b) rfl hz hB (by rw [Nat.zero_add]) rfl)
  intro f
  induction f with
  | zero =>
    intro dn Y B hd hY hBB h1 h2
    refine wm_iload_n (q := 3) (i := 2) hg dX1_settle_2 rfl rfl rfl ?_
    refine wm_sipush (q := 6) 200 hg dX1_settle_3 rfl (by decide) ?_
    refine wm_icmp_ge (q := 25) (q2 := 9) hg dX1_settle_6 (by decide) rfl (fun hb2 => ?_) (fun hb2 => ?_)
    · refine wm_sipush (q := 28) 200 hg dX1_settle_25 rfl (by decide) ?_
      exact wm_iret hg hr dX1_settle_28 (by rw [← h1, show dn = 200 from hd]; rfl) (by rw [← h2]; rfl)
    · exact absurd (nI_le (a := 200) (b := dn) (by omega) (by omega)) hb2
  | succ f ih =>
    intro dn Y B hd hY hBB h1 h2
    have eY : ((sO (sO M 1 c Y) 0 b B)).1 1 c = Y := by rw [sO_kind _ _ _ _ (by decide), sO_same]
    have eB : ((sO (sO M 1 c Y) 0 b B)).1 0 b = B := by rw [sO_same]
    refine wm_iload_n (q := 3) (i := 2) hg dX1_settle_2 rfl rfl rfl ?_
    refine wm_sipush (q := 6) 200 hg dX1_settle_3 rfl (by decide) ?_
    refine wm_icmp_ge (q := 25) (q2 := 9) hg dX1_settle_6 (by decide) rfl (fun hb2 => ?_) (fun hb2 => ?_)
    · exact absurd hb2 (nI_ge (a := dn) (b := 200) (by omega) (by decide))
    · by_cases hs : (soB Y).1 < 0
      · have e3 : stB (f + 1) Y B = (0, Y, B) := if_pos hs
        rw [e3] at h1 h2
        refine wm_aload_n (q := 10) (i := 0) hg dX1_settle_9 rfl rfl rfl ?_
        refine wm_aload_n (q := 11) (i := 1) hg dX1_settle_10 rfl rfl rfl ?_
        refine wm_callV1 (q := 14) hg dX1_settle_11 rfl lk_X1_78 (by decide) (c_settleOnce_b0 hc (by rw [eY]; exact hY) hbb (by rw [eB]; exact hBB) (by rw [eY]; exact hs)) (by first | assumption | decide | omega | (simp only [nO]; omega)) ⟨rfl, by decide⟩ rfl rfl (Nat.le_of_ble_eq_true rfl) ?_
        refine wm_if_ne (q := 19) (q2 := 17) hg dX1_settle_14 (by decide) rfl (fun hb3 => ?_) (fun hb3 => ?_)
        · exact absurd rfl hb3
        · refine wm_iload_n (q := 18) (i := 2) hg dX1_settle_17 rfl rfl rfl ?_
          exact wm_iret hg hr dX1_settle_18 (by rw [← h1]; rfl) (by rw [← h2])
      · have e3 : stB (f + 1) Y B = ((stB f (tn1 Y) (en1 Y B)).1 + 1, (stB f (tn1 Y) (en1 Y B)).2) := if_neg hs
        rw [e3] at h1 h2
        refine wm_aload_n (q := 10) (i := 0) hg dX1_settle_9 rfl rfl rfl ?_
        refine wm_aload_n (q := 11) (i := 1) hg dX1_settle_10 rfl rfl rfl ?_
        refine wm_callV1 (q := 14) hg dX1_settle_11 rfl lk_X1_78 (by decide) (c_settleOnce_b1 hc (by rw [eY]; exact hY) hbb (by rw [eB]; exact hBB) (by rw [eY]; exact hs)) (by first | assumption | decide | omega | (simp only [nO]; omega)) ⟨rfl, by decide⟩ rfl rfl (Nat.le_of_ble_eq_true rfl) ?_
        refine wm_if_ne (q := 19) (q2 := 17) hg dX1_settle_14 (by decide) rfl (fun hb3 => ?_) (fun hb3 => ?_)
        · refine wm_iinc (q := 22) (L' := [(0, _), (1, _), (2, _)]) (nI (dn + 1)) hg dX1_settle_19 rfl rfl (nadd rfl rfl) rfl rfl ?_
          refine wm_goto (q := 2) hg dX1_settle_22 (by decide) ?_
          refine wm_mem ?_ (ih (dn + 1) (tn1 Y) (en1 Y B) (by omega) (ok10_1 rfl hY) (okB_en hBB _ _ _) ?_ h2)
          · rw [eY, eB]; rw [sO_comm (sO M 1 c Y) b c B (tn1 Y) (Or.inl (by decide)), sO_sO, sO_sO]
          · exact (congrArg nI (by omega)).trans h1
        · exact absurd hb3 (by decide)
end
section
/-! ===== the text; recording; the frame of a change ===== -/
def txN (T : OV) : Nat := (T.1 1).toNatClampNeg
def okT (T : OV) : Prop := T.1 1 = nI (txN T) ∧ txN T ≤ 40
def rfX (T : OV) (k p : Int32) : OV := (upd (upd T.1 2 k) 3 p, T.2)
def taX (T : OV) (v : Int32) : OV := (upd T.1 1 (T.1 1 + 1), updA T.2 0 (upd (T.2 0) (txN T) v))
/-- bytes from place i on, n of them: kind of fault (0: none), its place, the chain read -/
def rdG (T : OV) : Nat → Nat → OV → Int32 → Int32 × Nat × OV
  | 0, i, X, _ => (if 0 < X.1 0 then 0 else 3, i, X)
  | n + 1, i, X, bh =>
    if wthn (T.2 0 i) 48 55 = 0 then
      (if T.2 0 i = 33 then (if bh = 0 then (if T.2 0 i = 32 then rdG T n (i + 1) X (wthn (T.2 0 i) 48 55) else (1, i, X)) else if X.1 0 ≤ 0 then (if T.2 0 i = 32 then rdG T n (i + 1) X (wthn (T.2 0 i) 48 55) else (1, i, X)) else rdG T n (i + 1) (oA X 2 (upd (X.2 2) (szN X - 1) 1)) (wthn (T.2 0 i) 48 55))
       else if T.2 0 i = 32 then rdG T n (i + 1) X (wthn (T.2 0 i) 48 55) else (1, i, X))
    else if X.1 0 < 10 then rdG T n (i + 1) (piX X (szN X) (T.2 0 i - 48)) (wthn (T.2 0 i) 48 55) else (2, i, X)
def rdR (T X : OV) : Int32 × Nat × OV := rdG T (txN T) 0 (oI X 0 0) 0
theorem ok10_pi {X : OV} (hX : ok10 X) (h : szN X < 10) (p : Nat) (a : Int32) : ok10 (piX X p a) := by
  have e : (piX X p a).1 0 = nI (szN X + 1) := by
    show upd X.1 0 (X.1 0 + 1) 0 = _
    rw [upd_same, hX.1]
    exact nI_1 _
  have e2 : szN (piX X p a) = szN X + 1 := by
    unfold szN at *
    rw [e, nI_clamp (by omega)]
  exact ⟨by rw [e, e2], by omega⟩
theorem ok10_sz {X : OV} {n : Nat} (h : X.1 0 = nI n) (hn : n ≤ 10) : ok10 X := by
  have e : szN X = n := by
    unfold szN
    rw [h, nI_clamp (by omega)]
  exact ⟨by rw [e]; exact h, by omega⟩
theorem szN_of {X : OV} {n : Nat} (h : X.1 0 = nI n) (hn : n < 2 ^ 31) : szN X = n := by
  unfold szN
  rw [h, nI_clamp hn]
theorem ok10_to {X : OV} (hX : ok10 X) {p : Nat} (h : p < szN X) : ok10 (toX X p) := by
  refine ok10_sz (n := szN X - 1) ?_ (by have := hX.2; omega)
  show (toL X p (szN X - 1 - p)).1 0 = _
  rw [toL_1, upd_same]
  exact nsub hX.1 rfl (by omega)
theorem swX_0 (X : OV) (v : Int32) : (swX X v).1 0 = v := by simp [swX, upd]
theorem piX_0 (X : OV) (p : Nat) (a : Int32) : (piX X p a).1 0 = X.1 0 + 1 := by simp [piX, upd]
theorem toX_0 (X : OV) (p : Nat) : (toX X p).1 0 = X.1 0 - 1 := by
  show (toL X p (szN X - 1 - p)).1 0 = _
  rw [toL_1, upd_same]
theorem clX_4 (B : OV) : (clX B).1 4 = 0 := by simp [clX, upd]
theorem okB_cl (B : OV) : okB (clX B) := by
  have e : lgN (clX B) = 0 := by unfold lgN; rw [clX_4]; decide
  exact ⟨by rw [clX_4, e]; rfl, by rw [e]; decide⟩
theorem ok10_set {X : OV} (hX : ok10 X) {j : Nat} (v : Int32) (h : (0 : Nat) ≠ j) : ok10 (oI X j v) := by
  have e : (oI X j v).1 0 = X.1 0 := upd_ne _ _ h
  exact ok10_sz (n := szN X) (by rw [e]; exact hX.1) hX.2
def unN (M : Mem) : Nat := ((M.1 4 0).1 2).toNatClampNeg
def HU (M : Mem) : Prop := (M.1 4 0).1 2 = nI (unN M) ∧ unN M ≤ 8 ∧ (∀ k, k < 8 → 1 ≤ M.2 k ∧ M.2 k ≤ 8) ∧ ∀ a b, a < 8 → b < 8 → M.2 a = M.2 b → a = b
def hiL (g : Nat → Nat) (i : Nat) : Nat → Nat := fun k => if k + 1 < i then g (k + 1) else g k
def drM (M : Mem) : Mem := sI (sH M (fun k => if k = 7 then M.2 0 else hiL M.2 8 k)) 4 0 2 7
def reY (M : Mem) : Mem := sI (sO (sO M 1 (M.2 (unN M)) (M.1 1 0)) 0 (M.2 (unN M)) (M.1 0 0)) 4 0 2 ((M.1 4 0).1 2 + 1)
def recM (M : Mem) : Mem := if (M.1 4 0).1 2 < 8 then reY M else reY (drM M)
theorem hiL_s (g : Nat → Nat) (i : Nat) : (fun k => if k = i then g (i + 1) else hiL g (i + 1) k) = hiL g (i + 1 + 1) := by
  funext k
  unfold hiL
  by_cases h : k = i
  · subst h; simp
  · by_cases h2 : k + 1 < i + 1
    · have h3 : k + 1 < i + 1 + 1 := by omega
      rw [if_neg h, if_pos h2, if_pos h3]
    · have h3 : ¬ k + 1 < i + 1 + 1 := by omega
      rw [if_neg h, if_neg h2, if_neg h3]
theorem unN_dr (M : Mem) : unN (drM M) = 7 := by
  unfold unN drM
  rw [sI, sO_same]
  simp only [oI, upd_same]
  decide
theorem HU_dr {M : Mem} (h : HU M) : HU (drM M) := by
  have eh : ∀ k, k < 8 → (drM M).2 k = if k = 7 then M.2 0 else M.2 (k + 1) := by
    intro k hk
    show (if k = 7 then M.2 0 else hiL M.2 8 k) = _
    by_cases h7 : k = 7
    · simp [h7]
    · have h8 : k + 1 < 8 := by omega
      simp only [if_neg h7, hiL, if_pos h8]
  refine ⟨?_, by rw [unN_dr]; decide, fun k hk => ?_, fun a b ha hb hab => ?_⟩
  · rw [unN_dr]
    unfold drM
    rw [sI, sO_same]
    simp only [oI, upd_same]
    rfl
  · rw [eh k hk]
    by_cases h7 : k = 7
    · rw [if_pos h7]; exact h.2.2.1 0 (by decide)
    · rw [if_neg h7]; exact h.2.2.1 (k + 1) (by omega)
  · rw [eh a ha, eh b hb] at hab
    by_cases h7 : a = 7 <;> by_cases h8 : b = 7
    · omega
    · rw [if_pos h7, if_neg h8] at hab
      have := h.2.2.2 0 (b + 1) (by decide) (by omega) hab
      omega
    · rw [if_neg h7, if_pos h8] at hab
      have := h.2.2.2 (a + 1) 0 (by omega) (by decide) hab
      omega
    · rw [if_neg h7, if_neg h8] at hab
      have := h.2.2.2 (a + 1) (b + 1) (by omega) (by omega) hab
      omega
/-- what recording leaves: all chains and books but those of the history, the text, the reference -/
theorem reY_kind {M : Mem} {ci : Nat} (i : Nat) (h0 : ci ≠ 0) (h1 : ci ≠ 1) (h4 : ci ≠ 4) : (reY M).1 ci i = M.1 ci i := by
  unfold reY
  rw [sI, sO_kind _ _ _ _ h4, sO_kind _ _ _ _ h0, sO_kind _ _ _ _ h1]
theorem drM_kind {M : Mem} {ci : Nat} (i : Nat) (h4 : ci ≠ 4) : (drM M).1 ci i = M.1 ci i := by
  unfold drM
  rw [sI, sO_kind _ _ _ _ h4]
theorem reY_c {M : Mem} {g : Nat} (h : M.2 (unN M) ≠ g) : (reY M).1 1 g = M.1 1 g := by
  unfold reY
  rw [sI, sO_kind _ _ _ _ (by decide), sO_kind _ _ _ _ (by decide), sO_idx _ _ _ _ (Ne.symm h)]
theorem reY_b {M : Mem} {g : Nat} (h : M.2 (unN M) ≠ g) : (reY M).1 0 g = M.1 0 g := by
  unfold reY
  rw [sI, sO_kind _ _ _ _ (by decide), sO_idx _ _ _ _ (Ne.symm h), sO_kind _ _ _ _ (by decide)]
theorem un_lt {M : Mem} (h : HU M) (h8 : (M.1 4 0).1 2 < 8) : unN M < 8 := by
  rcases Nat.lt_or_ge (unN M) 8 with q | q
  · exact q
  · exact absurd h8 (by rw [h.1]; exact nI_nlt (a := unN M) (b := 8) q (by have := h.2.1; omega))
theorem recM_c {M : Mem} (h : HU M) {g : Nat} (hg : g = 0 ∨ 8 < g) : (recM M).1 1 g = M.1 1 g := by
  unfold recM
  split
  · next h8 =>
    have := h.2.2.1 _ (un_lt h h8)
    exact reY_c (by omega)
  · have := (HU_dr h).2.2.1 7 (by decide)
    rw [reY_c (by rw [unN_dr]; omega), drM_kind _ (by decide)]
theorem recM_b {M : Mem} (h : HU M) {g : Nat} (hg : g = 0 ∨ 8 < g) : (recM M).1 0 g = M.1 0 g := by
  unfold recM
  split
  · next h8 =>
    have := h.2.2.1 _ (un_lt h h8)
    exact reY_b (by omega)
  · have := (HU_dr h).2.2.1 7 (by decide)
    rw [reY_b (by rw [unN_dr]; omega), drM_kind _ (by decide)]
theorem recM_kind {M : Mem} {ci : Nat} (i : Nat) (h0 : ci ≠ 0) (h1 : ci ≠ 1) (h4 : ci ≠ 4) : (recM M).1 ci i = M.1 ci i := by
  unfold recM
  split
  · exact reY_kind i h0 h1 h4
  · rw [reY_kind i h0 h1 h4, drM_kind i h4]
def setP (M : Mem) (X B : OV) : Mem := sO (sO M 1 0 X) 0 0 B
def endX (X B : OV) (e : Int32) : Nat × OV × OV := stB 200 X (oI B 0 (B.1 0 + (energy X - e)))
def chM (M : Mem) (X1 B1 : OV) : Mem := setP (recM M) (endX X1 B1 (energy (M.1 1 0))).2.1 (endX X1 B1 (energy (M.1 1 0))).2.2
def chN (M : Mem) (X1 B1 : OV) : Int32 := nI (endX X1 B1 (energy (M.1 1 0))).1
theorem okB_w {B : OV} (hB : okB B) {j : Nat} (v : Int32) (h : (4 : Nat) ≠ j) : okB (oI B j v) := by
  have e : (oI B j v).1 4 = B.1 4 := upd_ne _ _ h
  have e2 : lgN (oI B j v) = lgN B := by unfold lgN; rw [e]
  exact ⟨by rw [e, e2]; exact hB.1, by rw [e2]; exact hB.2⟩
set_option maxRecDepth 100000 in
set_option maxHeartbeats 4000000 in
theorem c_X3_refuse {Γ : GT} {M : Mem} {k p : Int32}  : Ct Γ yX3_refuse cX3_refuse 3 (some .boolean) 0 [.ref (ad Γ 3 0 0), .int k, .int p] M (some (.int 0)) (sO M 3 0 (rfX (M.1 3 0) k p)) := by
  refine ct_of (by decide) (Nat.le_of_ble_eq_true rfl) (fun K hg hr => ?_)
  show WM Γ K _ [(0, _), (1, _), (2, _)] 0 []
  refine wm_aload_n (q := 1) (i := 0) hg dX3_refuse_0 rfl rfl rfl ?_
  refine wm_iload_n (q := 2) (i := 1) hg dX3_refuse_1 rfl rfl rfl ?_
  refine wm_put (q := 5) hg dX3_refuse_2 rfl fl_X3_20 (by first | assumption | decide | omega | (simp only [nO]; omega)) rfl ?_
  refine wm_aload_n (q := 6) (i := 0) hg dX3_refuse_5 rfl rfl rfl ?_
  refine wm_iload_n (q := 7) (i := 2) hg dX3_refuse_6 rfl rfl rfl ?_
  refine wm_put (q := 10) hg dX3_refuse_7 rfl fl_X3_23 (by first | assumption | decide | omega | (simp only [nO]; omega)) rfl ?_
  refine wm_iconst (q := 11) 0 hg dX3_refuse_10 rfl (by decide) ?_
  exact wm_zret hg hr dX3_refuse_11 (rfl) (by simp [rfX, sO_same, sO_sO, oI, oA, updA_same, updA_ne, updA_updA, upd_same, upd_ne]) (by decide)
set_option maxRecDepth 100000 in
set_option maxHeartbeats 4000000 in
theorem c_X3_append0 {Γ : GT} {M : Mem} {v : Int32} (ht : okT (M.1 3 0)) (h : ¬ (M.1 3 0).1 1 < 40) : Ct Γ yX3_append cX3_append 2 (some .boolean) 0 [.ref (ad Γ 3 0 0), .int v] M (some (.int 0)) M := by
  refine ct_of (by decide) (Nat.le_of_ble_eq_true rfl) (fun K hg hr => ?_)
  show WM Γ K _ [(0, _), (1, _)] 0 []
  refine wm_aload_n (q := 1) (i := 0) hg dX3_append_0 rfl rfl rfl ?_
  refine wm_get (q := 4) hg dX3_append_1 rfl fl_X3_15 (by first | assumption | decide | omega | (simp only [nO]; omega)) rfl ?_
  refine wm_bipush (q := 6) 40 hg dX3_append_4 rfl (by decide) ?_
  refine wm_icmp_lt (q := 11) (q2 := 9) hg dX3_append_6 (by decide) rfl (fun h1 => ?_) (fun h1 => ?_)
  · exact absurd h1 h
  · refine wm_iconst (q := 10) 0 hg dX3_append_9 rfl (by decide) ?_
    exact wm_zret hg hr dX3_append_10 (rfl) (rfl) (by decide)
set_option maxRecDepth 100000 in
set_option maxHeartbeats 4000000 in
theorem c_X3_append1 {Γ : GT} {M : Mem} {v : Int32} (ht : okT (M.1 3 0)) (h : (M.1 3 0).1 1 < 40) : Ct Γ yX3_append cX3_append 2 (some .boolean) 0 [.ref (ad Γ 3 0 0), .int v] M (some (.int 1)) (sO M 3 0 (taX (M.1 3 0) v)) := by
  refine ct_of (by decide) (Nat.le_of_ble_eq_true rfl) (fun K hg hr => ?_)
  show WM Γ K _ [(0, _), (1, _)] 0 []
  refine wm_aload_n (q := 1) (i := 0) hg dX3_append_0 rfl rfl rfl ?_
  refine wm_get (q := 4) hg dX3_append_1 rfl fl_X3_15 (by first | assumption | decide | omega | (simp only [nO]; omega)) rfl ?_
  refine wm_bipush (q := 6) 40 hg dX3_append_4 rfl (by decide) ?_
  refine wm_icmp_lt (q := 11) (q2 := 9) hg dX3_append_6 (by decide) rfl (fun h1 => ?_) (fun h1 => ?_)
  · have hlt : txN (M.1 3 0) < 40 := by
      rcases Nat.lt_or_ge (txN (M.1 3 0)) 40 with q | q
      · exact q
      · exact absurd h (by rw [ht.1]; exact nI_nlt (a := txN (M.1 3 0)) (b := 40) q (by have := ht.2; omega))
    refine wm_aload_n (q := 12) (i := 0) hg dX3_append_11 rfl rfl rfl ?_
    refine wm_get (q := 15) hg dX3_append_12 rfl fl_X3_9 (by first | assumption | decide | omega | (simp only [nO]; omega)) rfl ?_
    refine wm_aload_n (q := 16) (i := 0) hg dX3_append_15 rfl rfl rfl ?_
    refine wm_get (q := 19) hg dX3_append_16 rfl fl_X3_15 (by first | assumption | decide | omega | (simp only [nO]; omega)) rfl ?_
    refine wm_iload_n (q := 20) (i := 1) hg dX3_append_19 rfl rfl rfl ?_
    refine wm_iastore (q := 21) (txN (M.1 3 0)) hg dX3_append_20 rfl (by first | assumption | decide | omega | (simp only [nO]; omega)) rfl ht.1 hlt ?_
    refine wm_aload_n (q := 22) (i := 0) hg dX3_append_21 rfl rfl rfl ?_
    refine wm_dup (q := 23) hg dX3_append_22 rfl rfl ?_
    refine wm_get (q := 26) hg dX3_append_23 rfl fl_X3_15 (by first | assumption | decide | omega | (simp only [nO]; omega)) rfl ?_
    refine wm_iconst (q := 27) 1 hg dX3_append_26 rfl (by decide) ?_
    refine wm_iadd (q := 28) hg dX3_append_27 rfl ?_
    refine wm_put (q := 31) hg dX3_append_28 rfl fl_X3_15 (by first | assumption | decide | omega | (simp only [nO]; omega)) rfl ?_
    refine wm_iconst (q := 32) 1 hg dX3_append_31 rfl (by decide) ?_
    exact wm_zret hg hr dX3_append_32 (rfl) (by simp [taX, sO_same, sO_sO, oI, oA, updA_same, updA_ne, updA_updA, upd_same, upd_ne]) (by decide)
  · exact absurd h h1
set_option maxRecDepth 100000 in
set_option maxHeartbeats 4000000 in
theorem c_X3_readInto0 {Γ : GT} {M : Mem}  (ht : okT (M.1 3 0)) (h : ¬ (rdR (M.1 3 0) (M.1 1 11)).1 = 0) : Ct Γ yX3_readInto cX3_readInto 6 (some .boolean) 2 [.ref (ad Γ 3 0 0), .ref (ad Γ 1 11 0)] M (some (.int 0)) (sO (sO M 1 11 (rdR (M.1 3 0) (M.1 1 11)).2.2) 3 0 (rfX (M.1 3 0) (rdR (M.1 3 0) (M.1 1 11)).1 (nI (rdR (M.1 3 0) (M.1 1 11)).2.1))) := by
  refine ct_of (by decide) (Nat.le_of_ble_eq_true rfl) (fun K hg hr => ?_)
  show WM Γ K _ [(0, _), (1, _)] 0 []
  have ht2 := ht.2
  refine wm_iconst (q := 1) 0 hg dX3_readInto_0 rfl (by decide) ?_
  refine wm_istore_n (q := 2) (i := 2) (L' := [(0, _), (1, _), (2, _)]) hg dX3_readInto_1 rfl rfl rfl rfl ?_
  refine wm_aload_n (q := 3) (i := 1) hg dX3_readInto_2 rfl rfl rfl ?_
  refine wm_iconst (q := 4) 0 hg dX3_readInto_3 rfl (by decide) ?_
  refine wm_put (q := 7) hg dX3_readInto_4 rfl fl_X3_26 (by first | assumption | decide | omega | (simp only [nO]; omega)) rfl ?_
  refine wm_iconst (q := 8) 0 hg dX3_readInto_7 rfl (by decide) ?_
  refine wm_istore_n (q := 9) (i := 3) (L' := [(0, _), (1, _), (2, _), (3, _)]) hg dX3_readInto_8 rfl rfl rfl rfl ?_
  suffices hloop : ∀ (n i : Nat) (Y : OV) (bh : Int32), i + n = txN (M.1 3 0) → ok10 Y → rdG (M.1 3 0) n i Y bh = (rdR (M.1 3 0) (M.1 1 11)) → WM Γ K (sO M 1 11 Y) [(0, .ref (ad Γ 3 0 0)), (1, .ref (ad Γ 1 11 0)), (2, .int bh), (3, .int (nI i))] 9 [] from hloop (txN (M.1 3 0)) 0 (oI (M.1 1 11) 0 0) 0 (by omega) (ok10_sz (n := 0) (by simp only [oI, upd_same]; rfl) (by decide)) rfl
  intro n
  induction n with
  | zero =>
    intro i Y bh hi hY hR
    have hY2 := hY.2
    have eT : (sO M 1 11 Y).1 3 0 = (M.1 3 0) := sO_kind _ _ _ _ (by decide)
    have eY : (sO M 1 11 Y).1 1 11 = Y := sO_same _ _ _ _
    have hT1 : ((sO M 1 11 Y).1 3 0).1 1 = nI (txN (M.1 3 0)) := by rw [eT]; exact ht.1
    have hR2 : (rdR (M.1 3 0) (M.1 1 11)) = (if 0 < Y.1 0 then 0 else 3, i, Y) := hR.symm
    rw [hR2] at h hr
    refine wm_iload_n (q := 10) (i := 3) hg dX3_readInto_9 rfl rfl rfl ?_
    refine wm_aload_n (q := 11) (i := 0) hg dX3_readInto_10 rfl rfl rfl ?_
    refine wm_get (q := 14) hg dX3_readInto_11 rfl fl_X3_15 (by first | assumption | decide | omega | (simp only [nO]; omega)) rfl ?_
    refine wm_icmp_ge (q := 129) (q2 := 17) hg dX3_readInto_14 (by decide) rfl (fun hb => ?_) (fun hb => ?_)
    · refine wm_aload_n (q := 130) (i := 1) hg dX3_readInto_129 rfl rfl rfl ?_
      refine wm_get (q := 133) hg dX3_readInto_130 rfl fl_X3_26 (by first | assumption | decide | omega | (simp only [nO]; omega)) rfl ?_
      refine wm_if_gt (q := 148) (q2 := 136) hg dX3_readInto_133 (by decide) rfl (fun hp => ?_) (fun hp => ?_)
      · rw [eY] at hp
        exact absurd (if_pos hp) h
      · rw [eY] at hp
        refine wm_aload_n (q := 137) (i := 0) hg dX3_readInto_136 rfl rfl rfl ?_
        refine wm_iconst (q := 138) 3 hg dX3_readInto_137 rfl (by decide) ?_
        refine wm_aload_n (q := 139) (i := 0) hg dX3_readInto_138 rfl rfl rfl ?_
        refine wm_get (q := 142) hg dX3_readInto_139 rfl fl_X3_15 (by first | assumption | decide | omega | (simp only [nO]; omega)) rfl ?_
        refine wm_callV1 (q := 145) hg dX3_readInto_142 rfl lk_X3_35 (by decide) c_X3_refuse (by first | assumption | decide | omega | (simp only [nO]; omega)) ⟨rfl, by decide⟩ rfl rfl (Nat.le_of_ble_eq_true rfl) ?_
        refine wm_if_eq (q := 152) (q2 := 148) hg dX3_readInto_145 (by decide) rfl (fun hz0 => ?_) (fun hz0 => ?_)
        · refine wm_iconst (q := 153) 0 hg dX3_readInto_152 rfl (by decide) ?_
          exact wm_zret hg hr dX3_readInto_153 (rfl) (by rw [eT, ht.1, show txN (M.1 3 0) = i by omega]; simp only [if_neg hp]) (by decide)
        · exact absurd rfl hz0
    · exact absurd (lpLe hT1 (by omega) (by omega)) hb
  | succ n ih =>
    intro i Y bh hi hY hR
    have hY2 := hY.2
    have eT : (sO M 1 11 Y).1 3 0 = (M.1 3 0) := sO_kind _ _ _ _ (by decide)
    have eY : (sO M 1 11 Y).1 1 11 = Y := sO_same _ _ _ _
    have hT1 : ((sO M 1 11 Y).1 3 0).1 1 = nI (txN (M.1 3 0)) := by rw [eT]; exact ht.1
    simp only [rdG] at hR
    refine wm_iload_n (q := 10) (i := 3) hg dX3_readInto_9 rfl rfl rfl ?_
    refine wm_aload_n (q := 11) (i := 0) hg dX3_readInto_10 rfl rfl rfl ?_
    refine wm_get (q := 14) hg dX3_readInto_11 rfl fl_X3_15 (by first | assumption | decide | omega | (simp only [nO]; omega)) rfl ?_
    refine wm_icmp_ge (q := 129) (q2 := 17) hg dX3_readInto_14 (by decide) rfl (fun hb => ?_) (fun hb => ?_)
    · exact absurd hb (lpLt hT1 (by omega) (by omega))
    · refine wm_aload_n (q := 18) (i := 0) hg dX3_readInto_17 rfl rfl rfl ?_
      refine wm_get (q := 21) hg dX3_readInto_18 rfl fl_X3_9 (by first | assumption | decide | omega | (simp only [nO]; omega)) rfl ?_
      refine wm_iload_n (q := 22) (i := 3) hg dX3_readInto_21 rfl rfl rfl ?_
      refine wm_iaload (q := 23) i hg dX3_readInto_22 rfl (by first | assumption | decide | omega | (simp only [nO]; omega)) rfl rfl (by simp only [alen]; omega) ?_
      refine wm_istore (q := 25) (i := 4) (L' := [(0, _), (1, _), (2, _), (3, _), (4, _)]) hg dX3_readInto_23 rfl rfl rfl ?_
      refine wm_iload (q := 27) (i := 4) hg dX3_readInto_25 rfl rfl ?_
      refine wm_bipush (q := 29) 48 hg dX3_readInto_27 rfl (by decide) ?_
      refine wm_bipush (q := 31) 55 hg dX3_readInto_29 rfl (by decide) ?_
      refine wm_callN1 (q := 34) hg dX3_readInto_31 rfl lkN_X4_isWithin (fun h => h.2.2) (by decide) c_X4_isWithin rfl rfl (Nat.le_of_ble_eq_true rfl) ?_
      refine wm_istore (q := 36) (i := 5) (L' := [(0, _), (1, _), (2, _), (3, _), (4, _), (5, _)]) hg dX3_readInto_34 rfl rfl rfl ?_
      refine wm_iload (q := 38) (i := 5) hg dX3_readInto_36 rfl rfl ?_
      refine wm_if_eq (q := 73) (q2 := 41) hg dX3_readInto_38 (by decide) rfl (fun h1 => ?_) (fun h1 => ?_)
      · rw [eT] at h1
        rw [if_pos h1] at hR
        refine wm_iload (q := 75) (i := 4) hg dX3_readInto_73 rfl rfl ?_
        refine wm_bipush (q := 77) 33 hg dX3_readInto_75 rfl (by decide) ?_
        refine wm_icmp_ne (q := 106) (q2 := 80) hg dX3_readInto_77 (by decide) rfl (fun h2 => ?_) (fun h2 => ?_)
        · rw [eT] at h2
          rw [if_neg h2] at hR
          refine wm_iload (q := 108) (i := 4) hg dX3_readInto_106 rfl rfl ?_
          refine wm_bipush (q := 110) 32 hg dX3_readInto_108 rfl (by decide) ?_
          refine wm_icmp_eq (q := 120) (q2 := 113) hg dX3_readInto_110 (by decide) rfl (fun h5 => ?_) (fun h5 => ?_)
          · rw [eT] at h5
            rw [if_pos h5] at hR
            refine wm_iload (q := 122) (i := 5) hg dX3_readInto_120 rfl rfl ?_
            refine wm_istore_n (q := 123) (i := 2) (L' := [(0, _), (1, _), (2, _), (3, _), (4, _), (5, _)]) hg dX3_readInto_122 rfl rfl rfl rfl ?_
            refine wm_iinc (q := 126) (L' := [(0, _), (1, _), (2, _), (3, _), (4, _), (5, _)]) (nI (i + 1)) hg dX3_readInto_123 rfl rfl (nadd rfl rfl) rfl rfl ?_
            refine wm_goto (q := 9) hg dX3_readInto_126 (by decide) ?_
            refine wm_L (L' := [(0, _), (1, _), (2, _), (3, _)]) [0, 1, 2, 3] rfl ?_
            refine wm_Leq (by rw [eT]) ?_
            exact ih (i + 1) Y _ (by omega) hY hR
          · rw [eT] at h5
            rw [if_neg h5] at hR
            refine wm_aload_n (q := 114) (i := 0) hg dX3_readInto_113 rfl rfl rfl ?_
            refine wm_iconst (q := 115) 1 hg dX3_readInto_114 rfl (by decide) ?_
            refine wm_iload_n (q := 116) (i := 3) hg dX3_readInto_115 rfl rfl rfl ?_
            refine wm_callV1 (q := 119) hg dX3_readInto_116 rfl lk_X3_35 (by decide) c_X3_refuse (by first | assumption | decide | omega | (simp only [nO]; omega)) ⟨rfl, by decide⟩ rfl rfl (Nat.le_of_ble_eq_true rfl) ?_
            exact wm_zret hg hr dX3_readInto_119 rfl (by rw [← hR, eT]) (by decide)
        · rw [eT] at h2
          rw [if_pos h2] at hR
          refine wm_iload_n (q := 81) (i := 2) hg dX3_readInto_80 rfl rfl rfl ?_
          refine wm_if_eq (q := 106) (q2 := 84) hg dX3_readInto_81 (by decide) rfl (fun h3 => ?_) (fun h3 => ?_)
          · rw [if_pos h3] at hR
            refine wm_iload (q := 108) (i := 4) hg dX3_readInto_106 rfl rfl ?_
            refine wm_bipush (q := 110) 32 hg dX3_readInto_108 rfl (by decide) ?_
            refine wm_icmp_eq (q := 120) (q2 := 113) hg dX3_readInto_110 (by decide) rfl (fun h5 => ?_) (fun h5 => ?_)
            · rw [eT] at h5
              rw [if_pos h5] at hR
              refine wm_iload (q := 122) (i := 5) hg dX3_readInto_120 rfl rfl ?_
              refine wm_istore_n (q := 123) (i := 2) (L' := [(0, _), (1, _), (2, _), (3, _), (4, _), (5, _)]) hg dX3_readInto_122 rfl rfl rfl rfl ?_
              refine wm_iinc (q := 126) (L' := [(0, _), (1, _), (2, _), (3, _), (4, _), (5, _)]) (nI (i + 1)) hg dX3_readInto_123 rfl rfl (nadd rfl rfl) rfl rfl ?_
              refine wm_goto (q := 9) hg dX3_readInto_126 (by decide) ?_
              refine wm_L (L' := [(0, _), (1, _), (2, _), (3, _)]) [0, 1, 2, 3] rfl ?_
              refine wm_Leq (by rw [eT]) ?_
              exact ih (i + 1) Y _ (by omega) hY hR
            · rw [eT] at h5
              rw [if_neg h5] at hR
              refine wm_aload_n (q := 114) (i := 0) hg dX3_readInto_113 rfl rfl rfl ?_
              refine wm_iconst (q := 115) 1 hg dX3_readInto_114 rfl (by decide) ?_
              refine wm_iload_n (q := 116) (i := 3) hg dX3_readInto_115 rfl rfl rfl ?_
              refine wm_callV1 (q := 119) hg dX3_readInto_116 rfl lk_X3_35 (by decide) c_X3_refuse (by first | assumption | decide | omega | (simp only [nO]; omega)) ⟨rfl, by decide⟩ rfl rfl (Nat.le_of_ble_eq_true rfl) ?_
              exact wm_zret hg hr dX3_readInto_119 rfl (by rw [← hR, eT]) (by decide)
          · rw [if_neg h3] at hR
            refine wm_aload_n (q := 85) (i := 1) hg dX3_readInto_84 rfl rfl rfl ?_
            refine wm_get (q := 88) hg dX3_readInto_85 rfl fl_X3_26 (by first | assumption | decide | omega | (simp only [nO]; omega)) rfl ?_
            refine wm_if_le (q := 106) (q2 := 91) hg dX3_readInto_88 (by decide) rfl (fun h4 => ?_) (fun h4 => ?_)
            · rw [eY] at h4
              rw [if_pos h4] at hR
              refine wm_iload (q := 108) (i := 4) hg dX3_readInto_106 rfl rfl ?_
              refine wm_bipush (q := 110) 32 hg dX3_readInto_108 rfl (by decide) ?_
              refine wm_icmp_eq (q := 120) (q2 := 113) hg dX3_readInto_110 (by decide) rfl (fun h5 => ?_) (fun h5 => ?_)
              · rw [eT] at h5
                rw [if_pos h5] at hR
                refine wm_iload (q := 122) (i := 5) hg dX3_readInto_120 rfl rfl ?_
                refine wm_istore_n (q := 123) (i := 2) (L' := [(0, _), (1, _), (2, _), (3, _), (4, _), (5, _)]) hg dX3_readInto_122 rfl rfl rfl rfl ?_
                refine wm_iinc (q := 126) (L' := [(0, _), (1, _), (2, _), (3, _), (4, _), (5, _)]) (nI (i + 1)) hg dX3_readInto_123 rfl rfl (nadd rfl rfl) rfl rfl ?_
                refine wm_goto (q := 9) hg dX3_readInto_126 (by decide) ?_
                refine wm_L (L' := [(0, _), (1, _), (2, _), (3, _)]) [0, 1, 2, 3] rfl ?_
                refine wm_Leq (by rw [eT]) ?_
                exact ih (i + 1) Y _ (by omega) hY hR
              · rw [eT] at h5
                rw [if_neg h5] at hR
                refine wm_aload_n (q := 114) (i := 0) hg dX3_readInto_113 rfl rfl rfl ?_
                refine wm_iconst (q := 115) 1 hg dX3_readInto_114 rfl (by decide) ?_
                refine wm_iload_n (q := 116) (i := 3) hg dX3_readInto_115 rfl rfl rfl ?_
                refine wm_callV1 (q := 119) hg dX3_readInto_116 rfl lk_X3_35 (by decide) c_X3_refuse (by first | assumption | decide | omega | (simp only [nO]; omega)) ⟨rfl, by decide⟩ rfl rfl (Nat.le_of_ble_eq_true rfl) ?_
                exact wm_zret hg hr dX3_readInto_119 rfl (by rw [← hR, eT]) (by decide)
            · rw [eY] at h4
              rw [if_neg h4] at hR
              have hpos : 1 ≤ szN Y := by
                rcases Nat.lt_or_ge (szN Y) 1 with q | q
                · exact absurd (by rw [hY.1, show szN Y = 0 by omega]; decide) h4
                · exact q
              refine wm_aload_n (q := 92) (i := 1) hg dX3_readInto_91 rfl rfl rfl ?_
              refine wm_get (q := 95) hg dX3_readInto_92 rfl fl_X3_43 (by first | assumption | decide | omega | (simp only [nO]; omega)) rfl ?_
              refine wm_aload_n (q := 96) (i := 1) hg dX3_readInto_95 rfl rfl rfl ?_
              refine wm_get (q := 99) hg dX3_readInto_96 rfl fl_X3_26 (by first | assumption | decide | omega | (simp only [nO]; omega)) rfl ?_
              refine wm_iconst (q := 100) 1 hg dX3_readInto_99 rfl (by decide) ?_
              refine wm_isub (q := 101) hg dX3_readInto_100 rfl ?_
              refine wm_iconst (q := 102) 1 hg dX3_readInto_101 rfl (by decide) ?_
              refine wm_iastore (q := 103) (szN Y - 1) hg dX3_readInto_102 rfl (by first | assumption | decide | omega | (simp only [nO]; omega)) rfl (by rw [eY]; exact nsub hY.1 rfl hpos) (by simp only [alen]; omega) ?_
              refine wm_goto (q := 120) hg dX3_readInto_103 (by decide) ?_
              refine wm_iload (q := 122) (i := 5) hg dX3_readInto_120 rfl rfl ?_
              refine wm_istore_n (q := 123) (i := 2) (L' := [(0, _), (1, _), (2, _), (3, _), (4, _), (5, _)]) hg dX3_readInto_122 rfl rfl rfl rfl ?_
              refine wm_iinc (q := 126) (L' := [(0, _), (1, _), (2, _), (3, _), (4, _), (5, _)]) (nI (i + 1)) hg dX3_readInto_123 rfl rfl (nadd rfl rfl) rfl rfl ?_
              refine wm_goto (q := 9) hg dX3_readInto_126 (by decide) ?_
              refine wm_L (L' := [(0, _), (1, _), (2, _), (3, _)]) [0, 1, 2, 3] rfl ?_
              refine wm_Leq (by rw [eT]) ?_
              refine wm_mem (M' := sO M 1 11 (oA Y 2 (upd (Y.2 2) (szN Y - 1) 1))) (by simp only [eY, sO_sO]) (ih (i + 1) (oA Y 2 (upd (Y.2 2) (szN Y - 1) 1)) _ (by omega) (ok10_1 rfl hY) hR)
      · rw [eT] at h1
        rw [if_neg h1] at hR
        refine wm_aload_n (q := 42) (i := 1) hg dX3_readInto_41 rfl rfl rfl ?_
        refine wm_get (q := 45) hg dX3_readInto_42 rfl fl_X3_26 (by first | assumption | decide | omega | (simp only [nO]; omega)) rfl ?_
        refine wm_bipush (q := 47) 10 hg dX3_readInto_45 rfl (by decide) ?_
        refine wm_icmp_lt (q := 57) (q2 := 50) hg dX3_readInto_47 (by decide) rfl (fun h2 => ?_) (fun h2 => ?_)
        · rw [eY] at h2
          rw [if_pos h2] at hR
          have hlt : szN Y < 10 := by
            rcases Nat.lt_or_ge (szN Y) 10 with q | q
            · exact q
            · exact absurd h2 (by rw [hY.1]; exact nI_nlt (a := szN Y) (b := 10) q (by omega))
          refine wm_aload_n (q := 58) (i := 1) hg dX3_readInto_57 rfl rfl rfl ?_
          refine wm_aload_n (q := 59) (i := 1) hg dX3_readInto_58 rfl rfl rfl ?_
          refine wm_get (q := 62) hg dX3_readInto_59 rfl fl_X3_26 (by first | assumption | decide | omega | (simp only [nO]; omega)) rfl ?_
          refine wm_iload (q := 64) (i := 4) hg dX3_readInto_62 rfl rfl ?_
          refine wm_bipush (q := 66) 48 hg dX3_readInto_64 rfl (by decide) ?_
          refine wm_isub (q := 67) hg dX3_readInto_66 rfl ?_
          refine wm_callV0 (q := 70) hg dX3_readInto_67 rfl lk_X3_39 (by decide) (c_X1_putIn (p := szN Y) (by decide) (by rw [eY]; exact hY) (by rw [eY]; exact hlt) (by rw [eY]; exact hY.1) (by rw [eY]; exact Nat.le_refl _)) (by first | assumption | decide | omega | (simp only [nO]; omega)) ⟨rfl, by decide⟩ rfl rfl (Nat.le_of_ble_eq_true rfl) ?_
          refine wm_goto (q := 120) hg dX3_readInto_70 (by decide) ?_
          refine wm_iload (q := 122) (i := 5) hg dX3_readInto_120 rfl rfl ?_
          refine wm_istore_n (q := 123) (i := 2) (L' := [(0, _), (1, _), (2, _), (3, _), (4, _), (5, _)]) hg dX3_readInto_122 rfl rfl rfl rfl ?_
          refine wm_iinc (q := 126) (L' := [(0, _), (1, _), (2, _), (3, _), (4, _), (5, _)]) (nI (i + 1)) hg dX3_readInto_123 rfl rfl (nadd rfl rfl) rfl rfl ?_
          refine wm_goto (q := 9) hg dX3_readInto_126 (by decide) ?_
          refine wm_L (L' := [(0, _), (1, _), (2, _), (3, _)]) [0, 1, 2, 3] rfl ?_
          refine wm_Leq (by rw [eT]) ?_
          refine wm_mem (M' := sO M 1 11 (piX Y (szN Y) ((M.1 3 0).2 0 i - 48))) (by simp only [eY, eT, sO_sO]) (ih (i + 1) _ _ (by omega) (ok10_pi hY hlt _ _) hR)
        · rw [eY] at h2
          rw [if_neg h2] at hR
          refine wm_aload_n (q := 51) (i := 0) hg dX3_readInto_50 rfl rfl rfl ?_
          refine wm_iconst (q := 52) 2 hg dX3_readInto_51 rfl (by decide) ?_
          refine wm_iload_n (q := 53) (i := 3) hg dX3_readInto_52 rfl rfl rfl ?_
          refine wm_callV1 (q := 56) hg dX3_readInto_53 rfl lk_X3_35 (by decide) c_X3_refuse (by first | assumption | decide | omega | (simp only [nO]; omega)) ⟨rfl, by decide⟩ rfl rfl (Nat.le_of_ble_eq_true rfl) ?_
          exact wm_zret hg hr dX3_readInto_56 rfl (by rw [← hR, eT]) (by decide)
set_option maxRecDepth 100000 in
set_option maxHeartbeats 4000000 in
theorem c_X3_readInto1 {Γ : GT} {M : Mem}  (ht : okT (M.1 3 0)) (h : (rdR (M.1 3 0) (M.1 1 11)).1 = 0) : Ct Γ yX3_readInto cX3_readInto 6 (some .boolean) 2 [.ref (ad Γ 3 0 0), .ref (ad Γ 1 11 0)] M (some (.int 1)) (sO M 1 11 (rdR (M.1 3 0) (M.1 1 11)).2.2) := by
  refine ct_of (by decide) (Nat.le_of_ble_eq_true rfl) (fun K hg hr => ?_)
  show WM Γ K _ [(0, _), (1, _)] 0 []
  have ht2 := ht.2
  refine wm_iconst (q := 1) 0 hg dX3_readInto_0 rfl (by decide) ?_
  refine wm_istore_n (q := 2) (i := 2) (L' := [(0, _), (1, _), (2, _)]) hg dX3_readInto_1 rfl rfl rfl rfl ?_
  refine wm_aload_n (q := 3) (i := 1) hg dX3_readInto_2 rfl rfl rfl ?_
  refine wm_iconst (q := 4) 0 hg dX3_readInto_3 rfl (by decide) ?_
  refine wm_put (q := 7) hg dX3_readInto_4 rfl fl_X3_26 (by first | assumption | decide | omega | (simp only [nO]; omega)) rfl ?_
  refine wm_iconst (q := 8) 0 hg dX3_readInto_7 rfl (by decide) ?_
  refine wm_istore_n (q := 9) (i := 3) (L' := [(0, _), (1, _), (2, _), (3, _)]) hg dX3_readInto_8 rfl rfl rfl rfl ?_
  suffices hloop : ∀ (n i : Nat) (Y : OV) (bh : Int32), i + n = txN (M.1 3 0) → ok10 Y → rdG (M.1 3 0) n i Y bh = (rdR (M.1 3 0) (M.1 1 11)) → WM Γ K (sO M 1 11 Y) [(0, .ref (ad Γ 3 0 0)), (1, .ref (ad Γ 1 11 0)), (2, .int bh), (3, .int (nI i))] 9 [] from hloop (txN (M.1 3 0)) 0 (oI (M.1 1 11) 0 0) 0 (by omega) (ok10_sz (n := 0) (by simp only [oI, upd_same]; rfl) (by decide)) rfl
  intro n
  induction n with
  | zero =>
    intro i Y bh hi hY hR
    have hY2 := hY.2
    have eT : (sO M 1 11 Y).1 3 0 = (M.1 3 0) := sO_kind _ _ _ _ (by decide)
    have eY : (sO M 1 11 Y).1 1 11 = Y := sO_same _ _ _ _
    have hT1 : ((sO M 1 11 Y).1 3 0).1 1 = nI (txN (M.1 3 0)) := by rw [eT]; exact ht.1
    have hR2 : (rdR (M.1 3 0) (M.1 1 11)) = (if 0 < Y.1 0 then 0 else 3, i, Y) := hR.symm
    rw [hR2] at h hr
    refine wm_iload_n (q := 10) (i := 3) hg dX3_readInto_9 rfl rfl rfl ?_
    refine wm_aload_n (q := 11) (i := 0) hg dX3_readInto_10 rfl rfl rfl ?_
    refine wm_get (q := 14) hg dX3_readInto_11 rfl fl_X3_15 (by first | assumption | decide | omega | (simp only [nO]; omega)) rfl ?_
    refine wm_icmp_ge (q := 129) (q2 := 17) hg dX3_readInto_14 (by decide) rfl (fun hb => ?_) (fun hb => ?_)
    · refine wm_aload_n (q := 130) (i := 1) hg dX3_readInto_129 rfl rfl rfl ?_
      refine wm_get (q := 133) hg dX3_readInto_130 rfl fl_X3_26 (by first | assumption | decide | omega | (simp only [nO]; omega)) rfl ?_
      refine wm_if_gt (q := 148) (q2 := 136) hg dX3_readInto_133 (by decide) rfl (fun hp => ?_) (fun hp => ?_)
      · rw [eY] at hp
        have hr := hr
        refine wm_iconst (q := 149) 1 hg dX3_readInto_148 rfl (by decide) ?_
        refine wm_goto (q := 153) hg dX3_readInto_149 (by decide) ?_
        exact wm_zret hg hr dX3_readInto_153 (rfl) (rfl) (by decide)
      · rw [eY] at hp
        exact absurd h (by simp only [if_neg hp]; decide)
    · exact absurd (lpLe hT1 (by omega) (by omega)) hb
  | succ n ih =>
    intro i Y bh hi hY hR
    have hY2 := hY.2
    have eT : (sO M 1 11 Y).1 3 0 = (M.1 3 0) := sO_kind _ _ _ _ (by decide)
    have eY : (sO M 1 11 Y).1 1 11 = Y := sO_same _ _ _ _
    have hT1 : ((sO M 1 11 Y).1 3 0).1 1 = nI (txN (M.1 3 0)) := by rw [eT]; exact ht.1
    simp only [rdG] at hR
    refine wm_iload_n (q := 10) (i := 3) hg dX3_readInto_9 rfl rfl rfl ?_
    refine wm_aload_n (q := 11) (i := 0) hg dX3_readInto_10 rfl rfl rfl ?_
    refine wm_get (q := 14) hg dX3_readInto_11 rfl fl_X3_15 (by first | assumption | decide | omega | (simp only [nO]; omega)) rfl ?_
    refine wm_icmp_ge (q := 129) (q2 := 17) hg dX3_readInto_14 (by decide) rfl (fun hb => ?_) (fun hb => ?_)
    · exact absurd hb (lpLt hT1 (by omega) (by omega))
    · refine wm_aload_n (q := 18) (i := 0) hg dX3_readInto_17 rfl rfl rfl ?_
      refine wm_get (q := 21) hg dX3_readInto_18 rfl fl_X3_9 (by first | assumption | decide | omega | (simp only [nO]; omega)) rfl ?_
      refine wm_iload_n (q := 22) (i := 3) hg dX3_readInto_21 rfl rfl rfl ?_
      refine wm_iaload (q := 23) i hg dX3_readInto_22 rfl (by first | assumption | decide | omega | (simp only [nO]; omega)) rfl rfl (by simp only [alen]; omega) ?_
      refine wm_istore (q := 25) (i := 4) (L' := [(0, _), (1, _), (2, _), (3, _), (4, _)]) hg dX3_readInto_23 rfl rfl rfl ?_
      refine wm_iload (q := 27) (i := 4) hg dX3_readInto_25 rfl rfl ?_
      refine wm_bipush (q := 29) 48 hg dX3_readInto_27 rfl (by decide) ?_
      refine wm_bipush (q := 31) 55 hg dX3_readInto_29 rfl (by decide) ?_
      refine wm_callN1 (q := 34) hg dX3_readInto_31 rfl lkN_X4_isWithin (fun h => h.2.2) (by decide) c_X4_isWithin rfl rfl (Nat.le_of_ble_eq_true rfl) ?_
      refine wm_istore (q := 36) (i := 5) (L' := [(0, _), (1, _), (2, _), (3, _), (4, _), (5, _)]) hg dX3_readInto_34 rfl rfl rfl ?_
      refine wm_iload (q := 38) (i := 5) hg dX3_readInto_36 rfl rfl ?_
      refine wm_if_eq (q := 73) (q2 := 41) hg dX3_readInto_38 (by decide) rfl (fun h1 => ?_) (fun h1 => ?_)
      · rw [eT] at h1
        rw [if_pos h1] at hR
        refine wm_iload (q := 75) (i := 4) hg dX3_readInto_73 rfl rfl ?_
        refine wm_bipush (q := 77) 33 hg dX3_readInto_75 rfl (by decide) ?_
        refine wm_icmp_ne (q := 106) (q2 := 80) hg dX3_readInto_77 (by decide) rfl (fun h2 => ?_) (fun h2 => ?_)
        · rw [eT] at h2
          rw [if_neg h2] at hR
          refine wm_iload (q := 108) (i := 4) hg dX3_readInto_106 rfl rfl ?_
          refine wm_bipush (q := 110) 32 hg dX3_readInto_108 rfl (by decide) ?_
          refine wm_icmp_eq (q := 120) (q2 := 113) hg dX3_readInto_110 (by decide) rfl (fun h5 => ?_) (fun h5 => ?_)
          · rw [eT] at h5
            rw [if_pos h5] at hR
            refine wm_iload (q := 122) (i := 5) hg dX3_readInto_120 rfl rfl ?_
            refine wm_istore_n (q := 123) (i := 2) (L' := [(0, _), (1, _), (2, _), (3, _), (4, _), (5, _)]) hg dX3_readInto_122 rfl rfl rfl rfl ?_
            refine wm_iinc (q := 126) (L' := [(0, _), (1, _), (2, _), (3, _), (4, _), (5, _)]) (nI (i + 1)) hg dX3_readInto_123 rfl rfl (nadd rfl rfl) rfl rfl ?_
            refine wm_goto (q := 9) hg dX3_readInto_126 (by decide) ?_
            refine wm_L (L' := [(0, _), (1, _), (2, _), (3, _)]) [0, 1, 2, 3] rfl ?_
            refine wm_Leq (by rw [eT]) ?_
            exact ih (i + 1) Y _ (by omega) hY hR
          · rw [eT] at h5
            rw [if_neg h5] at hR
            exact absurd h (by rw [← hR]; exact (by decide : ¬ (1 : Int32) = 0))
        · rw [eT] at h2
          rw [if_pos h2] at hR
          refine wm_iload_n (q := 81) (i := 2) hg dX3_readInto_80 rfl rfl rfl ?_
          refine wm_if_eq (q := 106) (q2 := 84) hg dX3_readInto_81 (by decide) rfl (fun h3 => ?_) (fun h3 => ?_)
          · rw [if_pos h3] at hR
            refine wm_iload (q := 108) (i := 4) hg dX3_readInto_106 rfl rfl ?_
            refine wm_bipush (q := 110) 32 hg dX3_readInto_108 rfl (by decide) ?_
            refine wm_icmp_eq (q := 120) (q2 := 113) hg dX3_readInto_110 (by decide) rfl (fun h5 => ?_) (fun h5 => ?_)
            · rw [eT] at h5
              rw [if_pos h5] at hR
              refine wm_iload (q := 122) (i := 5) hg dX3_readInto_120 rfl rfl ?_
              refine wm_istore_n (q := 123) (i := 2) (L' := [(0, _), (1, _), (2, _), (3, _), (4, _), (5, _)]) hg dX3_readInto_122 rfl rfl rfl rfl ?_
              refine wm_iinc (q := 126) (L' := [(0, _), (1, _), (2, _), (3, _), (4, _), (5, _)]) (nI (i + 1)) hg dX3_readInto_123 rfl rfl (nadd rfl rfl) rfl rfl ?_
              refine wm_goto (q := 9) hg dX3_readInto_126 (by decide) ?_
              refine wm_L (L' := [(0, _), (1, _), (2, _), (3, _)]) [0, 1, 2, 3] rfl ?_
              refine wm_Leq (by rw [eT]) ?_
              exact ih (i + 1) Y _ (by omega) hY hR
            · rw [eT] at h5
              rw [if_neg h5] at hR
              exact absurd h (by rw [← hR]; exact (by decide : ¬ (1 : Int32) = 0))
          · rw [if_neg h3] at hR
            refine wm_aload_n (q := 85) (i := 1) hg dX3_readInto_84 rfl rfl rfl ?_
            refine wm_get (q := 88) hg dX3_readInto_85 rfl fl_X3_26 (by first | assumption | decide | omega | (simp only [nO]; omega)) rfl ?_
            refine wm_if_le (q := 106) (q2 := 91) hg dX3_readInto_88 (by decide) rfl (fun h4 => ?_) (fun h4 => ?_)
            · rw [eY] at h4
              rw [if_pos h4] at hR
              refine wm_iload (q := 108) (i := 4) hg dX3_readInto_106 rfl rfl ?_
              refine wm_bipush (q := 110) 32 hg dX3_readInto_108 rfl (by decide) ?_
              refine wm_icmp_eq (q := 120) (q2 := 113) hg dX3_readInto_110 (by decide) rfl (fun h5 => ?_) (fun h5 => ?_)
              · rw [eT] at h5
                rw [if_pos h5] at hR
                refine wm_iload (q := 122) (i := 5) hg dX3_readInto_120 rfl rfl ?_
                refine wm_istore_n (q := 123) (i := 2) (L' := [(0, _), (1, _), (2, _), (3, _), (4, _), (5, _)]) hg dX3_readInto_122 rfl rfl rfl rfl ?_
                refine wm_iinc (q := 126) (L' := [(0, _), (1, _), (2, _), (3, _), (4, _), (5, _)]) (nI (i + 1)) hg dX3_readInto_123 rfl rfl (nadd rfl rfl) rfl rfl ?_
                refine wm_goto (q := 9) hg dX3_readInto_126 (by decide) ?_
                refine wm_L (L' := [(0, _), (1, _), (2, _), (3, _)]) [0, 1, 2, 3] rfl ?_
                refine wm_Leq (by rw [eT]) ?_
                exact ih (i + 1) Y _ (by omega) hY hR
              · rw [eT] at h5
                rw [if_neg h5] at hR
                exact absurd h (by rw [← hR]; exact (by decide : ¬ (1 : Int32) = 0))
            · rw [eY] at h4
              rw [if_neg h4] at hR
              have hpos : 1 ≤ szN Y := by
                rcases Nat.lt_or_ge (szN Y) 1 with q | q
                · exact absurd (by rw [hY.1, show szN Y = 0 by omega]; decide) h4
                · exact q
              refine wm_aload_n (q := 92) (i := 1) hg dX3_readInto_91 rfl rfl rfl ?_
              refine wm_get (q := 95) hg dX3_readInto_92 rfl fl_X3_43 (by first | assumption | decide | omega | (simp only [nO]; omega)) rfl ?_
              refine wm_aload_n (q := 96) (i := 1) hg dX3_readInto_95 rfl rfl rfl ?_
              refine wm_get (q := 99) hg dX3_readInto_96 rfl fl_X3_26 (by first | assumption | decide | omega | (simp only [nO]; omega)) rfl ?_
              refine wm_iconst (q := 100) 1 hg dX3_readInto_99 rfl (by decide) ?_
              refine wm_isub (q := 101) hg dX3_readInto_100 rfl ?_
              refine wm_iconst (q := 102) 1 hg dX3_readInto_101 rfl (by decide) ?_
              refine wm_iastore (q := 103) (szN Y - 1) hg dX3_readInto_102 rfl (by first | assumption | decide | omega | (simp only [nO]; omega)) rfl (by rw [eY]; exact nsub hY.1 rfl hpos) (by simp only [alen]; omega) ?_
              refine wm_goto (q := 120) hg dX3_readInto_103 (by decide) ?_
              refine wm_iload (q := 122) (i := 5) hg dX3_readInto_120 rfl rfl ?_
              refine wm_istore_n (q := 123) (i := 2) (L' := [(0, _), (1, _), (2, _), (3, _), (4, _), (5, _)]) hg dX3_readInto_122 rfl rfl rfl rfl ?_
              refine wm_iinc (q := 126) (L' := [(0, _), (1, _), (2, _), (3, _), (4, _), (5, _)]) (nI (i + 1)) hg dX3_readInto_123 rfl rfl (nadd rfl rfl) rfl rfl ?_
              refine wm_goto (q := 9) hg dX3_readInto_126 (by decide) ?_
              refine wm_L (L' := [(0, _), (1, _), (2, _), (3, _)]) [0, 1, 2, 3] rfl ?_
              refine wm_Leq (by rw [eT]) ?_
              refine wm_mem (M' := sO M 1 11 (oA Y 2 (upd (Y.2 2) (szN Y - 1) 1))) (by simp only [eY, sO_sO]) (ih (i + 1) (oA Y 2 (upd (Y.2 2) (szN Y - 1) 1)) _ (by omega) (ok10_1 rfl hY) hR)
      · rw [eT] at h1
        rw [if_neg h1] at hR
        refine wm_aload_n (q := 42) (i := 1) hg dX3_readInto_41 rfl rfl rfl ?_
        refine wm_get (q := 45) hg dX3_readInto_42 rfl fl_X3_26 (by first | assumption | decide | omega | (simp only [nO]; omega)) rfl ?_
        refine wm_bipush (q := 47) 10 hg dX3_readInto_45 rfl (by decide) ?_
        refine wm_icmp_lt (q := 57) (q2 := 50) hg dX3_readInto_47 (by decide) rfl (fun h2 => ?_) (fun h2 => ?_)
        · rw [eY] at h2
          rw [if_pos h2] at hR
          have hlt : szN Y < 10 := by
            rcases Nat.lt_or_ge (szN Y) 10 with q | q
            · exact q
            · exact absurd h2 (by rw [hY.1]; exact nI_nlt (a := szN Y) (b := 10) q (by omega))
          refine wm_aload_n (q := 58) (i := 1) hg dX3_readInto_57 rfl rfl rfl ?_
          refine wm_aload_n (q := 59) (i := 1) hg dX3_readInto_58 rfl rfl rfl ?_
          refine wm_get (q := 62) hg dX3_readInto_59 rfl fl_X3_26 (by first | assumption | decide | omega | (simp only [nO]; omega)) rfl ?_
          refine wm_iload (q := 64) (i := 4) hg dX3_readInto_62 rfl rfl ?_
          refine wm_bipush (q := 66) 48 hg dX3_readInto_64 rfl (by decide) ?_
          refine wm_isub (q := 67) hg dX3_readInto_66 rfl ?_
          refine wm_callV0 (q := 70) hg dX3_readInto_67 rfl lk_X3_39 (by decide) (c_X1_putIn (p := szN Y) (by decide) (by rw [eY]; exact hY) (by rw [eY]; exact hlt) (by rw [eY]; exact hY.1) (by rw [eY]; exact Nat.le_refl _)) (by first | assumption | decide | omega | (simp only [nO]; omega)) ⟨rfl, by decide⟩ rfl rfl (Nat.le_of_ble_eq_true rfl) ?_
          refine wm_goto (q := 120) hg dX3_readInto_70 (by decide) ?_
          refine wm_iload (q := 122) (i := 5) hg dX3_readInto_120 rfl rfl ?_
          refine wm_istore_n (q := 123) (i := 2) (L' := [(0, _), (1, _), (2, _), (3, _), (4, _), (5, _)]) hg dX3_readInto_122 rfl rfl rfl rfl ?_
          refine wm_iinc (q := 126) (L' := [(0, _), (1, _), (2, _), (3, _), (4, _), (5, _)]) (nI (i + 1)) hg dX3_readInto_123 rfl rfl (nadd rfl rfl) rfl rfl ?_
          refine wm_goto (q := 9) hg dX3_readInto_126 (by decide) ?_
          refine wm_L (L' := [(0, _), (1, _), (2, _), (3, _)]) [0, 1, 2, 3] rfl ?_
          refine wm_Leq (by rw [eT]) ?_
          refine wm_mem (M' := sO M 1 11 (piX Y (szN Y) ((M.1 3 0).2 0 i - 48))) (by simp only [eY, eT, sO_sO]) (ih (i + 1) _ _ (by omega) (ok10_pi hY hlt _ _) hR)
        · rw [eY] at h2
          rw [if_neg h2] at hR
          exact absurd h (by rw [← hR]; exact (by decide : ¬ (2 : Int32) = 0))
set_option maxRecDepth 100000 in
set_option maxHeartbeats 4000000 in
theorem c_X4_dropOldest {Γ : GT} {M : Mem}  (hU : HU M) : Ct Γ yX4_dropOldest cX4_dropOldest 3 none 0 [.ref (ad Γ 4 0 0)] M none (drM M) := by
  refine ct_of (by decide) (Nat.le_of_ble_eq_true rfl) (fun K hg hr => ?_)
  show WM Γ K _ [(0, _)] 0 []
  refine wm_aload_n (q := 1) (i := 0) hg dX4_dropOldest_0 rfl rfl rfl ?_
  refine wm_get (q := 4) hg dX4_dropOldest_1 rfl fl_X4_16 (by first | assumption | decide | omega | (simp only [nO]; omega)) rfl ?_
  refine wm_iconst (q := 5) 0 hg dX4_dropOldest_4 rfl (by decide) ?_
  refine wm_hload (q := 6) 0 hg dX4_dropOldest_5 rfl (rfl : (0 : Int32) = nI 0) (by omega) ?_
  refine wm_astore_n (q := 7) (i := 1) (L' := [(0, _), (1, _)]) hg dX4_dropOldest_6 rfl rfl rfl rfl ?_
  refine wm_iconst (q := 8) 1 hg dX4_dropOldest_7 rfl (by decide) ?_
  refine wm_istore_n (q := 9) (i := 2) (L' := [(0, _), (1, _), (2, _)]) hg dX4_dropOldest_8 rfl rfl rfl rfl ?_
  have hst : ∀ k, k < 8 → M.2 k < 11 := fun k hk => by have := hU.2.2.1 k hk; omega
  suffices hloop : ∀ (n i : Nat), i + n = 7 → WM Γ K (sH M (hiL M.2 (i + 1))) [(0, .ref (ad Γ 4 0 0)), (1, .ref (ad Γ 2 (M.2 0) 0)), (2, .int (nI (i + 1)))] 9 [] from wm_mem (by have e : hiL M.2 (0 + 1) = M.2 := (by funext k; simp [hiL]); rw [e]) (hloop 7 0 (by omega))
  intro n
  induction n with
  | zero =>
    intro i hi 
    have hx : hiL M.2 (i + 1) (i + 1) = M.2 (i + 1) := by unfold hiL; rw [if_neg (by omega)]
    refine wm_iload_n (q := 10) (i := 2) hg dX4_dropOldest_9 rfl rfl rfl ?_
    refine wm_aload_n (q := 11) (i := 0) hg dX4_dropOldest_10 rfl rfl rfl ?_
    refine wm_get (q := 14) hg dX4_dropOldest_11 rfl fl_X4_16 (by first | assumption | decide | omega | (simp only [nO]; omega)) rfl ?_
    refine wm_alenR (q := 15) (v := 8) hg dX4_dropOldest_14 rfl (Or.inl ⟨rfl, rfl⟩) ?_
    refine wm_icmp_ge (q := 38) (q2 := 18) hg dX4_dropOldest_15 (by decide) rfl (fun hb => ?_) (fun hb => ?_)
    · have e7 : i = 7 := by omega
      subst e7
      have h11 := hst 0 (by decide)
      refine wm_aload_n (q := 39) (i := 0) hg dX4_dropOldest_38 rfl rfl rfl ?_
      refine wm_aload_n (q := 40) (i := 0) hg dX4_dropOldest_39 rfl rfl rfl ?_
      refine wm_get (q := 43) hg dX4_dropOldest_40 rfl fl_X4_16 (by first | assumption | decide | omega | (simp only [nO]; omega)) rfl ?_
      refine wm_alenR (q := 44) (v := 8) hg dX4_dropOldest_43 rfl (Or.inl ⟨rfl, rfl⟩) ?_
      refine wm_iconst (q := 45) 1 hg dX4_dropOldest_44 rfl (by decide) ?_
      refine wm_isub (q := 46) hg dX4_dropOldest_45 rfl ?_
      refine wm_put (q := 49) hg dX4_dropOldest_46 rfl fl_X4_20 (by first | assumption | decide | omega | (simp only [nO]; omega)) rfl ?_
      refine wm_aload_n (q := 50) (i := 0) hg dX4_dropOldest_49 rfl rfl rfl ?_
      refine wm_get (q := 53) hg dX4_dropOldest_50 rfl fl_X4_16 (by first | assumption | decide | omega | (simp only [nO]; omega)) rfl ?_
      refine wm_aload_n (q := 54) (i := 0) hg dX4_dropOldest_53 rfl rfl rfl ?_
      refine wm_get (q := 57) hg dX4_dropOldest_54 rfl fl_X4_20 (by first | assumption | decide | omega | (simp only [nO]; omega)) rfl ?_
      refine wm_aload_n (q := 58) (i := 1) hg dX4_dropOldest_57 rfl rfl rfl ?_
      refine wm_hstore (q := 59) 7 hg dX4_dropOldest_58 rfl (by simp [sO_same, oI, upd_same]; rfl) (by decide) (by first | assumption | decide | omega | (simp only [nO]; omega)) ?_
      exact wm_vret hg hr dX4_dropOldest_59 rfl
    · exact absurd (nI_le (a := 8) (b := i + 1) (by omega) (by omega)) hb
  | succ n ih =>
    intro i hi 
    have hx : hiL M.2 (i + 1) (i + 1) = M.2 (i + 1) := by unfold hiL; rw [if_neg (by omega)]
    refine wm_iload_n (q := 10) (i := 2) hg dX4_dropOldest_9 rfl rfl rfl ?_
    refine wm_aload_n (q := 11) (i := 0) hg dX4_dropOldest_10 rfl rfl rfl ?_
    refine wm_get (q := 14) hg dX4_dropOldest_11 rfl fl_X4_16 (by first | assumption | decide | omega | (simp only [nO]; omega)) rfl ?_
    refine wm_alenR (q := 15) (v := 8) hg dX4_dropOldest_14 rfl (Or.inl ⟨rfl, rfl⟩) ?_
    refine wm_icmp_ge (q := 38) (q2 := 18) hg dX4_dropOldest_15 (by decide) rfl (fun hb => ?_) (fun hb => ?_)
    · exact absurd hb (nI_ge (a := i + 1) (b := 8) (by omega) (by decide))
    · refine wm_aload_n (q := 19) (i := 0) hg dX4_dropOldest_18 rfl rfl rfl ?_
      refine wm_get (q := 22) hg dX4_dropOldest_19 rfl fl_X4_16 (by first | assumption | decide | omega | (simp only [nO]; omega)) rfl ?_
      refine wm_iload_n (q := 23) (i := 2) hg dX4_dropOldest_22 rfl rfl rfl ?_
      refine wm_iconst (q := 24) 1 hg dX4_dropOldest_23 rfl (by decide) ?_
      refine wm_isub (q := 25) hg dX4_dropOldest_24 rfl ?_
      refine wm_aload_n (q := 26) (i := 0) hg dX4_dropOldest_25 rfl rfl rfl ?_
      refine wm_get (q := 29) hg dX4_dropOldest_26 rfl fl_X4_16 (by first | assumption | decide | omega | (simp only [nO]; omega)) rfl ?_
      refine wm_iload_n (q := 30) (i := 2) hg dX4_dropOldest_29 rfl rfl rfl ?_
      refine wm_hload (q := 31) (i + 1) hg dX4_dropOldest_30 rfl rfl (by omega) ?_
      refine wm_hstore (q := 32) ((i + 1) - 1) hg dX4_dropOldest_31 rfl (nsub (a := (i + 1)) (b := 1) rfl (rfl : (1 : Int32) = nI 1) (by omega)) (by omega) (by show hiL M.2 (i + 1) (i + 1) < 11; rw [hx]; exact hst (i + 1) (by omega)) ?_
      refine wm_iinc (q := 35) (L' := [(0, _), (1, _), (2, _)]) (nI ((i + 1) + 1)) hg dX4_dropOldest_32 rfl rfl (nadd rfl rfl) rfl rfl ?_
      refine wm_goto (q := 9) hg dX4_dropOldest_35 (by decide) ?_
      exact wm_mem (by simp only [hx, Nat.add_sub_cancel]; exact congrArg (fun g => sH M g) (hiL_s M.2 i)) (ih (i + 1) (by omega))
set_option maxRecDepth 100000 in
set_option maxHeartbeats 4000000 in
theorem c_X4_record {Γ : GT} {M : Mem}  (hU : HU M) : Ct Γ yX4_record cX4_record 1 none 5 [.ref (ad Γ 4 0 0)] M none (recM M) := by
  refine ct_of (by decide) (Nat.le_of_ble_eq_true rfl) (fun K hg hr => ?_)
  show WM Γ K _ [(0, _)] 0 []
  refine wm_aload_n (q := 1) (i := 0) hg dX4_record_0 rfl rfl rfl ?_
  refine wm_get (q := 4) hg dX4_record_1 rfl fl_X4_20 (by first | assumption | decide | omega | (simp only [nO]; omega)) rfl ?_
  refine wm_aload_n (q := 5) (i := 0) hg dX4_record_4 rfl rfl rfl ?_
  refine wm_get (q := 8) hg dX4_record_5 rfl fl_X4_16 (by first | assumption | decide | omega | (simp only [nO]; omega)) rfl ?_
  refine wm_alenR (q := 9) (v := 8) hg dX4_record_8 rfl (Or.inl ⟨rfl, rfl⟩) ?_
  refine wm_icmp_lt (q := 16) (q2 := 12) hg dX4_record_9 (by decide) rfl (fun h8 => ?_) (fun h8 => ?_)
  · have h1 := hU.2.2.1 (unN M) (un_lt hU h8)
    refine wm_aload_n (q := 17) (i := 0) hg dX4_record_16 rfl rfl rfl ?_
    refine wm_get (q := 20) hg dX4_record_17 rfl fl_X4_16 (by first | assumption | decide | omega | (simp only [nO]; omega)) rfl ?_
    refine wm_aload_n (q := 21) (i := 0) hg dX4_record_20 rfl rfl rfl ?_
    refine wm_get (q := 24) hg dX4_record_21 rfl fl_X4_20 (by first | assumption | decide | omega | (simp only [nO]; omega)) rfl ?_
    refine wm_hload (q := 25) (unN M) hg dX4_record_24 rfl hU.1 (un_lt hU h8) ?_
    refine wm_aload_n (q := 26) (i := 0) hg dX4_record_25 rfl rfl rfl ?_
    refine wm_get (q := 29) hg dX4_record_26 rfl fl_X4_10 (by first | assumption | decide | omega | (simp only [nO]; omega)) rfl ?_
    refine wm_callV0 (q := 32) hg dX4_record_29 rfl lk_X4_155 (by decide) (c_X2_takeFrom (by omega) (by decide) (by omega)) (by first | assumption | decide | omega | (simp only [nO]; omega)) ⟨rfl, by decide⟩ rfl rfl (Nat.le_of_ble_eq_true rfl) ?_
    refine wm_aload_n (q := 33) (i := 0) hg dX4_record_32 rfl rfl rfl ?_
    refine wm_dup (q := 34) hg dX4_record_33 rfl rfl ?_
    refine wm_get (q := 37) hg dX4_record_34 rfl fl_X4_20 (by first | assumption | decide | omega | (simp only [nO]; omega)) rfl ?_
    refine wm_iconst (q := 38) 1 hg dX4_record_37 rfl (by decide) ?_
    refine wm_iadd (q := 39) hg dX4_record_38 rfl ?_
    refine wm_put (q := 42) hg dX4_record_39 rfl fl_X4_20 (by first | assumption | decide | omega | (simp only [nO]; omega)) rfl ?_
    exact wm_vret hg hr dX4_record_42 (by simp only [recM, if_pos h8, reY, sI, sO_kind _ _ _ _ (show (4:Nat) ≠ 0 by decide), sO_kind _ _ _ _ (show (4:Nat) ≠ 1 by decide)])
  · refine wm_aload_n (q := 13) (i := 0) hg dX4_record_12 rfl rfl rfl ?_
    refine wm_callV0 (q := 16) hg dX4_record_13 rfl lk_X4_235 (by decide) (c_X4_dropOldest (by first | assumption | decide | omega)) (by first | assumption | decide | omega | (simp only [nO]; omega)) ⟨rfl, by decide⟩ rfl rfl (Nat.le_of_ble_eq_true rfl) ?_
    have h1 := (HU_dr hU).2.2.1 7 (by decide)
    refine wm_aload_n (q := 17) (i := 0) hg dX4_record_16 rfl rfl rfl ?_
    refine wm_get (q := 20) hg dX4_record_17 rfl fl_X4_16 (by first | assumption | decide | omega | (simp only [nO]; omega)) rfl ?_
    refine wm_aload_n (q := 21) (i := 0) hg dX4_record_20 rfl rfl rfl ?_
    refine wm_get (q := 24) hg dX4_record_21 rfl fl_X4_20 (by first | assumption | decide | omega | (simp only [nO]; omega)) rfl ?_
    refine wm_hload (q := 25) 7 hg dX4_record_24 rfl (by have := (HU_dr hU).1; rw [unN_dr] at this; exact this) (by decide) ?_
    refine wm_aload_n (q := 26) (i := 0) hg dX4_record_25 rfl rfl rfl ?_
    refine wm_get (q := 29) hg dX4_record_26 rfl fl_X4_10 (by first | assumption | decide | omega | (simp only [nO]; omega)) rfl ?_
    refine wm_callV0 (q := 32) hg dX4_record_29 rfl lk_X4_155 (by decide) (c_X2_takeFrom (by omega) (by decide) (by omega)) (by first | assumption | decide | omega | (simp only [nO]; omega)) ⟨rfl, by decide⟩ rfl rfl (Nat.le_of_ble_eq_true rfl) ?_
    refine wm_aload_n (q := 33) (i := 0) hg dX4_record_32 rfl rfl rfl ?_
    refine wm_dup (q := 34) hg dX4_record_33 rfl rfl ?_
    refine wm_get (q := 37) hg dX4_record_34 rfl fl_X4_20 (by first | assumption | decide | omega | (simp only [nO]; omega)) rfl ?_
    refine wm_iconst (q := 38) 1 hg dX4_record_37 rfl (by decide) ?_
    refine wm_iadd (q := 39) hg dX4_record_38 rfl ?_
    refine wm_put (q := 42) hg dX4_record_39 rfl fl_X4_20 (by first | assumption | decide | omega | (simp only [nO]; omega)) rfl ?_
    exact wm_vret hg hr dX4_record_42 (by simp only [recM, if_neg h8, reY, unN_dr, sI, sO_kind _ _ _ _ (show (4:Nat) ≠ 0 by decide), sO_kind _ _ _ _ (show (4:Nat) ≠ 1 by decide)])
set_option maxRecDepth 100000 in
set_option maxHeartbeats 4000000 in
theorem c_X4_isMagnet {Γ : GT} {M : Mem} {i : Int32}  : Ct Γ yX4_isMagnet cX4_isMagnet 2 (some .boolean) 1 [.ref (ad Γ 4 0 0), .int i] M (some (.int (wthn i 0 ((M.1 1 0).1 0 - 1)))) M := by
  refine ct_of (by decide) (Nat.le_of_ble_eq_true rfl) (fun K hg hr => ?_)
  show WM Γ K _ [(0, _), (1, _)] 0 []
  refine wm_iload_n (q := 1) (i := 1) hg dX4_isMagnet_0 rfl rfl rfl ?_
  refine wm_iconst (q := 2) 0 hg dX4_isMagnet_1 rfl (by decide) ?_
  refine wm_aload_n (q := 3) (i := 0) hg dX4_isMagnet_2 rfl rfl rfl ?_
  refine wm_get (q := 6) hg dX4_isMagnet_3 rfl fl_X4_10 (by first | assumption | decide | omega | (simp only [nO]; omega)) rfl ?_
  refine wm_get (q := 9) hg dX4_isMagnet_6 rfl fl_X4_50 (by first | assumption | decide | omega | (simp only [nO]; omega)) rfl ?_
  refine wm_get (q := 12) hg dX4_isMagnet_9 rfl fl_X4_54 (by first | assumption | decide | omega | (simp only [nO]; omega)) rfl ?_
  refine wm_iconst (q := 13) 1 hg dX4_isMagnet_12 rfl (by decide) ?_
  refine wm_isub (q := 14) hg dX4_isMagnet_13 rfl ?_
  refine wm_callS1 (q := 17) hg dX4_isMagnet_14 rfl lk_X4_45 (by decide) c_X4_isWithin rfl rfl (Nat.le_of_ble_eq_true rfl) ?_
  exact wm_zret hg hr dX4_isMagnet_17 (rfl) (rfl) (wthn_01 _ _ _)
set_option maxRecDepth 100000 in
set_option maxHeartbeats 4000000 in
theorem c_X4_startChange {Γ : GT} {M : Mem}  (hU : HU M) (hz : ok10 (M.1 1 0)) : Ct Γ yX4_startChange cX4_startChange 1 (some .int) 6 [.ref (ad Γ 4 0 0)] M (some (.int (energy (M.1 1 0)))) (recM M) := by
  refine ct_of (by decide) (Nat.le_of_ble_eq_true rfl) (fun K hg hr => ?_)
  show WM Γ K _ [(0, _)] 0 []
  have e0 := recM_c hU (g := 0) (Or.inl rfl)
  refine wm_aload_n (q := 1) (i := 0) hg dX4_startChange_0 rfl rfl rfl ?_
  refine wm_callV0 (q := 4) hg dX4_startChange_1 rfl lk_X4_57 (by decide) (c_X4_record (by first | assumption | decide | omega)) (by first | assumption | decide | omega | (simp only [nO]; omega)) ⟨rfl, by decide⟩ rfl rfl (Nat.le_of_ble_eq_true rfl) ?_
  refine wm_aload_n (q := 5) (i := 0) hg dX4_startChange_4 rfl rfl rfl ?_
  refine wm_get (q := 8) hg dX4_startChange_5 rfl fl_X4_10 (by first | assumption | decide | omega | (simp only [nO]; omega)) rfl ?_
  refine wm_get (q := 11) hg dX4_startChange_8 rfl fl_X4_50 (by first | assumption | decide | omega | (simp only [nO]; omega)) rfl ?_
  refine wm_callV1 (q := 14) hg dX4_startChange_11 rfl lk_X4_159 (by decide) (c_X1_energy (by decide) (by rw [e0]; exact hz)) (by first | assumption | decide | omega | (simp only [nO]; omega)) ⟨rfl, by decide⟩ rfl rfl (Nat.le_of_ble_eq_true rfl) ?_
  exact wm_iret hg hr dX4_startChange_14 (by rw [e0]; rfl) (rfl)
set_option maxRecDepth 100000 in
set_option maxHeartbeats 4000000 in
theorem c_X4_endChange {Γ : GT} {M : Mem} {e : Int32} (hz : ok10 (M.1 1 0)) (hB : okB (M.1 0 0)) : Ct Γ yX4_endChange cX4_endChange 2 (some .int) 5 [.ref (ad Γ 4 0 0), .int e] M (some (.int (nI (endX (M.1 1 0) (M.1 0 0) e).1))) (setP M (endX (M.1 1 0) (M.1 0 0) e).2.1 (endX (M.1 1 0) (M.1 0 0) e).2.2) := by
  refine ct_of (by decide) (Nat.le_of_ble_eq_true rfl) (fun K hg hr => ?_)
  show WM Γ K _ [(0, _), (1, _)] 0 []
  refine wm_aload_n (q := 1) (i := 0) hg dX4_endChange_0 rfl rfl rfl ?_
  refine wm_get (q := 4) hg dX4_endChange_1 rfl fl_X4_10 (by first | assumption | decide | omega | (simp only [nO]; omega)) rfl ?_
  refine wm_get (q := 7) hg dX4_endChange_4 rfl fl_X4_64 (by first | assumption | decide | omega | (simp only [nO]; omega)) rfl ?_
  refine wm_dup (q := 8) hg dX4_endChange_7 rfl rfl ?_
  refine wm_get (q := 11) hg dX4_endChange_8 rfl fl_X4_162 (by first | assumption | decide | omega | (simp only [nO]; omega)) rfl ?_
  refine wm_aload_n (q := 12) (i := 0) hg dX4_endChange_11 rfl rfl rfl ?_
  refine wm_get (q := 15) hg dX4_endChange_12 rfl fl_X4_10 (by first | assumption | decide | omega | (simp only [nO]; omega)) rfl ?_
  refine wm_get (q := 18) hg dX4_endChange_15 rfl fl_X4_50 (by first | assumption | decide | omega | (simp only [nO]; omega)) rfl ?_
  refine wm_callV1 (q := 21) hg dX4_endChange_18 rfl lk_X4_159 (by decide) (c_X1_energy (by first | assumption | decide | omega) (by first | assumption | decide | omega)) (by first | assumption | decide | omega | (simp only [nO]; omega)) ⟨rfl, by decide⟩ rfl rfl (Nat.le_of_ble_eq_true rfl) ?_
  refine wm_iload_n (q := 22) (i := 1) hg dX4_endChange_21 rfl rfl rfl ?_
  refine wm_isub (q := 23) hg dX4_endChange_22 rfl ?_
  refine wm_iadd (q := 24) hg dX4_endChange_23 rfl ?_
  refine wm_put (q := 27) hg dX4_endChange_24 rfl fl_X4_162 (by first | assumption | decide | omega | (simp only [nO]; omega)) rfl ?_
  refine wm_aload_n (q := 28) (i := 0) hg dX4_endChange_27 rfl rfl rfl ?_
  refine wm_get (q := 31) hg dX4_endChange_28 rfl fl_X4_10 (by first | assumption | decide | omega | (simp only [nO]; omega)) rfl ?_
  refine wm_get (q := 34) hg dX4_endChange_31 rfl fl_X4_50 (by first | assumption | decide | omega | (simp only [nO]; omega)) rfl ?_
  refine wm_aload_n (q := 35) (i := 0) hg dX4_endChange_34 rfl rfl rfl ?_
  refine wm_get (q := 38) hg dX4_endChange_35 rfl fl_X4_10 (by first | assumption | decide | omega | (simp only [nO]; omega)) rfl ?_
  refine wm_get (q := 41) hg dX4_endChange_38 rfl fl_X4_64 (by first | assumption | decide | omega | (simp only [nO]; omega)) rfl ?_
  refine wm_callV1 (q := 44) hg dX4_endChange_41 rfl lk_X4_73 (by decide) (c_settle_b (by decide) (by rw [sO_kind _ _ _ _ (by decide)]; exact hz) (by decide) (by rw [sO_same]; exact okB_w hB _ (by decide))) (by first | assumption | decide | omega | (simp only [nO]; omega)) ⟨rfl, by decide⟩ rfl rfl (Nat.le_of_ble_eq_true rfl) ?_
  exact wm_iret hg hr dX4_endChange_44 (by rw [sO_kind _ _ _ _ (by decide), sO_same]; rfl) (by rw [sO_kind _ _ _ _ (by decide), sO_same]; rw [sO_comm M 0 0 _ _ (Or.inl (by decide)), sO_sO]; rfl)
end
section
/-! ===== the public methods of MagnetChain ===== -/
theorem wthn_n {v : Int32} {lo hi : Nat} (h : ¬ wthn v (nI lo) (nI hi) = 0) (hh : hi < 2 ^ 31) (hl : lo ≤ hi) : ∃ k, lo ≤ k ∧ k ≤ hi ∧ v = nI k := by
  rw [wthn_iff] at h
  have h1 : ¬ v < nI lo := fun z => h (Or.inl z)
  have h2 : ¬ nI hi < v := fun z => h (Or.inr z)
  have h3 : ¬ v < 0 := by
    intro z
    have a1 : (nI lo).toInt = lo := nI_toInt (by omega)
    have a2 := Int32.lt_iff_toInt_lt.mp z
    have a3 : ¬ v.toInt < (nI lo).toInt := fun q => h1 (Int32.lt_iff_toInt_lt.mpr q)
    have a4 : (0 : Int32).toInt = 0 := by decide
    omega
  obtain ⟨k, hk, rfl⟩ := nI_of h3
  refine ⟨k, ?_, ?_, rfl⟩
  · rcases Nat.lt_or_ge k lo with q | q
    · exact absurd (nI_lt q (by omega)) h1
    · exact q
  · rcases Nat.lt_or_ge hi k with q | q
    · exact absurd (nI_lt q hk) h2
    · exact q
theorem wthn_sz {v : Int32} {X : OV} (hX : ok10 X) (h : ¬ wthn v 0 (X.1 0 - 1) = 0) : v = nI v.toNatClampNeg ∧ v.toNatClampNeg < szN X ∧ v.toNatClampNeg < 10 := by
  rw [wthn_iff] at h
  have h1 : ¬ v < 0 := fun z => h (Or.inl z)
  have h2 : ¬ X.1 0 - 1 < v := fun z => h (Or.inr z)
  obtain ⟨k, hk, rfl⟩ := nI_of h1
  rw [nI_clamp hk]
  have h10 := hX.2
  rw [hX.1] at h2
  by_cases h0 : szN X = 0
  · rw [h0] at h2
    have e : nI 0 - 1 = -1 := by decide
    rw [e] at h2
    refine absurd (Int32.lt_iff_toInt_lt.mpr ?_) h2
    rw [nI_toInt hk]
    have : (-1 : Int32).toInt = -1 := by decide
    omega
  · have e : nI (szN X) - 1 = nI (szN X - 1) := nsub rfl rfl (by omega)
    rw [e] at h2
    have : k < szN X := by
      rcases Nat.lt_or_ge k (szN X) with q | q
      · exact q
      · exact absurd (nI_lt (a := szN X - 1) (b := k) (by omega) hk) h2
    exact ⟨rfl, this, by omega⟩
def InvC (M : Mem) : Prop := HU M ∧ (∀ g, g < 15 → ok10 (M.1 1 g)) ∧ (∀ g, g < 11 → okB (M.1 0 g)) ∧ okT (M.1 3 0)
theorem setP_c (M : Mem) (X B : OV) : (setP M X B).1 1 0 = X := by
  unfold setP
  rw [sO_kind _ _ _ _ (by decide), sO_same]
theorem setP_b (M : Mem) (X B : OV) : (setP M X B).1 0 0 = B := by
  unfold setP
  rw [sO_same]
theorem setP_1 (M : Mem) (X B Y : OV) : sO (setP M X B) 1 0 Y = setP M Y B := by
  unfold setP
  rw [sO_comm _ 0 0 B Y (Or.inl (by decide)), sO_sO]
theorem setP_0 (M : Mem) (X B C : OV) : sO (setP M X B) 0 0 C = setP M X C := by
  unfold setP
  rw [sO_sO]
theorem setP_setP (M : Mem) (X B Y C : OV) : setP (setP M X B) Y C = setP M Y C := by
  show sO (sO (setP M X B) 1 0 Y) 0 0 C = _
  rw [setP_1, setP_0]
theorem setP_self (M : Mem) : setP M (M.1 1 0) (M.1 0 0) = M := by
  unfold setP
  rw [sO_self, sO_self]
theorem setP_cg (M : Mem) (X B : OV) {g : Nat} (h : g ≠ 0) : (setP M X B).1 1 g = M.1 1 g := by
  unfold setP
  rw [sO_kind _ _ _ _ (by decide), sO_idx _ _ _ _ h]
theorem setP_bg (M : Mem) (X B : OV) {g : Nat} (h : g ≠ 0) : (setP M X B).1 0 g = M.1 0 g := by
  unfold setP
  rw [sO_idx _ _ _ _ h, sO_kind _ _ _ _ (by decide)]
theorem setP_k (M : Mem) (X B : OV) {ci : Nat} (i : Nat) (h0 : ci ≠ 0) (h1 : ci ≠ 1) : (setP M X B).1 ci i = M.1 ci i := by
  unfold setP
  rw [sO_kind _ _ _ _ h0, sO_kind _ _ _ _ h1]
theorem recP {M : Mem} (h : HU M) : recM M = setP (recM M) (M.1 1 0) (M.1 0 0) := by
  have e := setP_self (recM M)
  rw [recM_c h (Or.inl rfl), recM_b h (Or.inl rfl)] at e
  exact e.symm
theorem stB_1 : ∀ (f : Nat) (X B : OV), (stB f X B).2.1.1 = X.1
  | 0, _, _ => rfl
  | f + 1, X, B => by
    unfold stB
    split
    · rfl
    · exact stB_1 f (tn1 X) (en1 X B)
theorem stX_1 : ∀ (f : Nat) (X : OV), (stX f X).2.1 = X.1
  | 0, _ => rfl
  | f + 1, X => by
    unfold stX
    split
    · rfl
    · exact stX_1 f (tn1 X)
theorem c_endCh {Γ : GT} {R : Mem} {X B : OV} {e : Int32} (hz : ok10 X) (hB : okB B) : Ct Γ yX4_endChange cX4_endChange 2 (some .int) 5 [.ref (ad Γ 4 0 0), .int e] (setP R X B) (some (.int (nI (endX X B e).1))) (setP R (endX X B e).2.1 (endX X B e).2.2) := by
  have h := c_X4_endChange (Γ := Γ) (M := setP R X B) (e := e) (by rw [setP_c]; exact hz) (by rw [setP_b]; exact hB)
  rw [setP_c, setP_b, setP_setP] at h
  exact h
def fBegin (M : Mem) (n : Int32) : Int32 × Mem := if wthn n 1 10 = 0 then (-1000000001, M) else ((M.1 1 0).1 0, setP (recM M) (stB 200 (swX (M.1 1 0) n) (clX (M.1 0 0))).2.1 (stB 200 (swX (M.1 1 0) n) (clX (M.1 0 0))).2.2)
def fIns (M : Mem) (p a : Int32) : Int32 × Mem := if wthn p 0 ((M.1 1 0).1 0) = 0 then (-1000000001, M) else if isAng a = 0 then (-1000000001, M) else if (M.1 1 0).1 0 < 10 then ((M.1 1 0).1 0 + 1, chM M (piX (M.1 1 0) p.toNatClampNeg a) (M.1 0 0)) else (-1000000003, M)
def fRem (M : Mem) (i : Int32) : Int32 × Mem := if wthn i 0 ((M.1 1 0).1 0 - 1) = 0 then (-1000000001, M) else if (M.1 1 0).1 0 = 1 then (-1000000002, M) else ((M.1 1 0).2 1 i.toNatClampNeg, chM M (toX (M.1 1 0) i.toNatClampNeg) (M.1 0 0))
def fHold (M : Mem) (i on : Int32) : Int32 × Mem := if wthn i 0 ((M.1 1 0).1 0 - 1) = 0 then (-1000000001, M) else if wthn on 0 1 = 0 then (-1000000001, M) else ((M.1 1 0).2 2 i.toNatClampNeg, chM M (oA (M.1 1 0) 2 (upd ((M.1 1 0).2 2) i.toNatClampNeg on)) (M.1 0 0))
def fPush (M : Mem) (i b : Int32) : Int32 × Mem := if wthn i 0 ((M.1 1 0).1 0 - 1) = 0 then (-1000000001, M) else if isPsh b = 0 then (-1000000001, M) else if (M.1 1 0).2 2 i.toNatClampNeg = 1 then (-1000000002, M) else (chN M (turnX (M.1 1 0) i.toNatClampNeg b) (oI (M.1 0 0) 3 ((M.1 0 0).1 3 + 1)), chM M (turnX (M.1 1 0) i.toNatClampNeg b) (oI (M.1 0 0) 3 ((M.1 0 0).1 3 + 1)))
def setX (X : OV) (what v : Int32) : OV := if what = 0 then oI X 4 v else if what = 1 then oI X 5 v else if what = 2 then oI X 6 v else oI X 7 v
def fSet (M : Mem) (what v : Int32) : Int32 × Mem := if isSet what v = 0 then (-1000000001, M) else (chN M (setX (M.1 1 0) what v) (M.1 0 0), chM M (setX (M.1 1 0) what v) (M.1 0 0))
def fGoal (M : Mem) (i a : Int32) : Int32 × Mem := if wthn i 0 ((M.1 1 0).1 0 - 1) = 0 then (-1000000001, M) else if a = -1000000009 ∨ ¬ isAng a = 0 then ((M.1 1 0).2 3 i.toNatClampNeg, chM M (oA (M.1 1 0) 3 (upd ((M.1 1 0).2 3) i.toNatClampNeg a)) (M.1 0 0)) else (-1000000001, M)
def fUndo (M : Mem) : Int32 × Mem := if 0 < (M.1 4 0).1 2 then ((M.1 4 0).1 2 - 1, setP (sI M 4 0 2 ((M.1 4 0).1 2 - 1)) (M.1 1 (M.2 (unN M - 1))) (M.1 0 (M.2 (unN M - 1)))) else (-1000000002, M)
def fTold (M : Mem) (w : Int32) : Int32 :=
  if w = 0 then (M.1 1 0).1 0 else if w = 1 then energy (M.1 1 0) else if w = 2 then (M.1 0 0).1 0 else if w = 3 then (M.1 0 0).1 1 else if w = 4 then (M.1 1 0).1 4 else if w = 5 then (M.1 1 0).1 5 else if w = 6 then (M.1 1 0).1 6 else if w = 7 then (M.1 1 0).1 7 else if w = 8 then (M.1 0 0).1 2 else if w = 9 then (M.1 0 0).1 3 else if w = 10 then (M.1 0 0).1 4 else if w = 11 then waS (M.1 1 0) (szN (M.1 1 0) - 1) else if w = 12 then gmS (M.1 1 0) (szN (M.1 1 0)) else if w = 13 then heS (M.1 1 0) (szN (M.1 1 0)) else if w = 14 then (M.1 3 0).1 1 else if w = 15 then (M.1 4 0).1 2 else -1000000001
def fMag (M : Mem) (i w : Int32) : Int32 := if wthn i 0 ((M.1 1 0).1 0 - 1) = 0 then -1000000001 else
  if w = 0 then (M.1 1 0).2 1 i.toNatClampNeg else if w = 1 then (M.1 1 0).2 2 i.toNatClampNeg else if w = 2 then (M.1 1 0).2 3 i.toNatClampNeg else if w = 3 then freed (M.1 1 0) i.toNatClampNeg 1 else if w = 4 then freed (M.1 1 0) i.toNatClampNeg (-1) else if w = 5 then part (M.1 1 0) i ((M.1 1 0).2 1 i.toNatClampNeg) else -1000000001
def fLog (M : Mem) (k w : Int32) : Int32 := if k < 0 then -1000000001 else if wthn w 0 2 = 0 then -1000000001 else if k < (M.1 0 0).1 4 then (if w = 0 then (M.1 0 0).2 5 (lgN (M.1 0 0) - 1 - k.toNatClampNeg) else if w = 1 then (M.1 0 0).2 6 (lgN (M.1 0 0) - 1 - k.toNatClampNeg) else (M.1 0 0).2 7 (lgN (M.1 0 0) - 1 - k.toNatClampNeg)) else -1000000009
def fPts (M : Mem) (s : Int32) : Int32 := if isAng s = 0 then -1000000001 else ptS (M.1 1 0) s (szN (M.1 1 0))
def fMov (M : Mem) (i b : Int32) : Int32 × Mem := if wthn i 0 ((M.1 1 0).1 0 - 1) = 0 then (-1000000001, M) else if isPsh b = 0 then (-1000000001, M) else if (M.1 1 0).2 2 i.toNatClampNeg = 1 then (-1000000002, M) else (nI (stX 200 (turnX (M.1 1 0) i.toNatClampNeg b)).1, sO M 1 11 (stX 200 (turnX (M.1 1 0) i.toNatClampNeg b)).2)
def fWrite (M : Mem) (v : Int32) : Int32 × Mem := if wthn v 32 126 = 0 then (-1000000001, M) else if (M.1 3 0).1 1 < 40 then ((M.1 3 0).1 1 + 1, sO M 3 0 (taX (M.1 3 0) v)) else (-1000000003, M)
def fFault (M : Mem) (w : Int32) : Int32 := if w = 0 then (M.1 3 0).1 2 else if w = 1 then (M.1 3 0).1 3 else -1000000001
def keM (M : Mem) (k : Nat) : Mem := sA (sO (sO M 1 (9 + k) (M.1 1 0)) 0 (9 + k) (M.1 0 0)) 4 0 4 (upd ((M.1 4 0).2 4) k 1)
def fKeep (M : Mem) (i : Int32) : Int32 × Mem := if wthn i 0 1 = 0 then (-1000000001, M) else ((M.1 1 0).1 0, keM M i.toNatClampNeg)
def fBack (M : Mem) (i : Int32) : Int32 × Mem := if wthn i 0 1 = 0 then (-1000000001, M) else if (M.1 4 0).2 4 i.toNatClampNeg = 0 then (-1000000002, M) else ((M.1 1 (9 + i.toNatClampNeg)).1 0, setP (recM M) (M.1 1 (9 + i.toNatClampNeg)) (M.1 0 (9 + i.toNatClampNeg)))
set_option maxRecDepth 100000 in
set_option maxHeartbeats 4000000 in
theorem c_X4_isSetting {Γ : GT} {M : Mem} {a v : Int32} : Ct Γ yX4_isSetting cX4_isSetting 2 (some .boolean) 2 [.int a, .int v] M (some (.int (isSet a v))) M := by
  refine ct_of (by decide) (Nat.le_of_ble_eq_true rfl) (fun K hg hr => ?_)
  show WM Γ K _ [(0, _), (1, _)] 0 []
  refine wm_iload_n (q := 1) (i := 0) hg dX4_isSetting_0 rfl rfl rfl ?_
  by_cases hk0 : a = 0
  · subst hk0
    refine wm_tableIn (q := 32) hg dX4_isSetting_1 (by decide) (by decide) rfl (by decide) ?_
    refine wm_iload_n (q := 33) (i := 1) hg dX4_isSetting_32 rfl rfl rfl ?_
    refine wm_iconst (q := 34) 0 hg dX4_isSetting_33 rfl (by decide) ?_
    refine wm_bipush (q := 36) 20 hg dX4_isSetting_34 rfl (by decide) ?_
    refine wm_callS1 (q := 39) hg dX4_isSetting_36 rfl lk_X4_45 (by decide) c_X4_isWithin rfl rfl (Nat.le_of_ble_eq_true rfl) ?_
    exact wm_zret hg hr dX4_isSetting_39 (rfl) (rfl) (wthn_01 _ _ _)
  · by_cases hk1 : a = 1
    · subst hk1
      refine wm_tableIn (q := 40) hg dX4_isSetting_1 (by decide) (by decide) rfl (by decide) ?_
      refine wm_iload_n (q := 41) (i := 1) hg dX4_isSetting_40 rfl rfl rfl ?_
      refine wm_iconst (q := 42) 0 hg dX4_isSetting_41 rfl (by decide) ?_
      refine wm_sipush (q := 45) 2000 hg dX4_isSetting_42 rfl (by decide) ?_
      refine wm_callS1 (q := 48) hg dX4_isSetting_45 rfl lk_X4_45 (by decide) c_X4_isWithin rfl rfl (Nat.le_of_ble_eq_true rfl) ?_
      exact wm_zret hg hr dX4_isSetting_48 (rfl) (rfl) (wthn_01 _ _ _)
    · by_cases hk2 : a = 2
      · subst hk2
        refine wm_tableIn (q := 49) hg dX4_isSetting_1 (by decide) (by decide) rfl (by decide) ?_
        refine wm_iload_n (q := 50) (i := 1) hg dX4_isSetting_49 rfl rfl rfl ?_
        refine wm_iconst (q := 51) 0 hg dX4_isSetting_50 rfl (by decide) ?_
        refine wm_bipush (q := 53) 100 hg dX4_isSetting_51 rfl (by decide) ?_
        refine wm_callS1 (q := 56) hg dX4_isSetting_53 rfl lk_X4_45 (by decide) c_X4_isWithin rfl rfl (Nat.le_of_ble_eq_true rfl) ?_
        exact wm_zret hg hr dX4_isSetting_56 (rfl) (rfl) (wthn_01 _ _ _)
      · by_cases hk3 : a = 3
        · subst hk3
          refine wm_tableIn (q := 57) hg dX4_isSetting_1 (by decide) (by decide) rfl (by decide) ?_
          refine wm_iload_n (q := 58) (i := 1) hg dX4_isSetting_57 rfl rfl rfl ?_
          refine wm_callS1 (q := 61) hg dX4_isSetting_58 rfl lk_X4_77 (by decide) c_X4_isAngle rfl rfl (Nat.le_of_ble_eq_true rfl) ?_
          exact wm_zret hg hr dX4_isSetting_61 (rfl) (rfl) (wthn_01 _ _ _)
        · have hj0 : a.toInt ≠ 0 := fun z => hk0 (Int32.toInt_inj.mp (z.trans (by decide)))
          have hj1 : a.toInt ≠ 1 := fun z => hk1 (Int32.toInt_inj.mp (z.trans (by decide)))
          have hj2 : a.toInt ≠ 2 := fun z => hk2 (Int32.toInt_inj.mp (z.trans (by decide)))
          have hj3 : a.toInt ≠ 3 := fun z => hk3 (Int32.toInt_inj.mp (z.trans (by decide)))
          refine wm_tableOut (q := 62) hg dX4_isSetting_1 (by omega) (by decide) ?_
          refine wm_iconst (q := 63) 0 hg dX4_isSetting_62 rfl (by decide) ?_
          exact wm_zret hg hr dX4_isSetting_63 (by simp only [isSet, if_neg hk0, if_neg hk1, if_neg hk2, if_neg hk3]) (rfl) (by decide)
set_option maxRecDepth 100000 in
set_option maxHeartbeats 4000000 in
theorem c_X4_begin {Γ : GT} {M : Mem} {n : Int32} (hI : InvC M) : Ct Γ yX4_begin cX4_begin 3 (some .int) 6 [.ref (ad Γ 4 0 0), .int n] M (some (.int (fBegin M n).1)) (fBegin M n).2 := by
  refine ct_of (by decide) (Nat.le_of_ble_eq_true rfl) (fun K hg hr => ?_)
  show WM Γ K _ [(0, _), (1, _)] 0 []
  obtain ⟨hU, hC, hBB, hT⟩ := hI
  have hz := hC 0 (by decide)
  have hB := hBB 0 (by decide)
  have hz2 := hz.2
  refine wm_iload_n (q := 1) (i := 1) hg dX4_begin_0 rfl rfl rfl ?_
  refine wm_iconst (q := 2) 1 hg dX4_begin_1 rfl (by decide) ?_
  refine wm_bipush (q := 4) 10 hg dX4_begin_2 rfl (by decide) ?_
  refine wm_callS1 (q := 7) hg dX4_begin_4 rfl lk_X4_45 (by decide) c_X4_isWithin rfl rfl (Nat.le_of_ble_eq_true rfl) ?_
  refine wm_if_ne (q := 13) (q2 := 10) hg dX4_begin_7 (by decide) rfl (fun h1 => ?_) (fun h1 => ?_)
  · obtain ⟨k, hk1, hk2, hk⟩ := wthn_n (lo := 1) (hi := 10) h1 (by decide) (by decide)
    refine wm_aload_n (q := 14) (i := 0) hg dX4_begin_13 rfl rfl rfl ?_
    refine wm_get (q := 17) hg dX4_begin_14 rfl fl_X4_10 (by first | assumption | decide | omega | (simp only [nO]; omega)) rfl ?_
    refine wm_get (q := 20) hg dX4_begin_17 rfl fl_X4_50 (by first | assumption | decide | omega | (simp only [nO]; omega)) rfl ?_
    refine wm_get (q := 23) hg dX4_begin_20 rfl fl_X4_54 (by first | assumption | decide | omega | (simp only [nO]; omega)) rfl ?_
    refine wm_istore_n (q := 24) (i := 2) (L' := [(0, _), (1, _), (2, _)]) hg dX4_begin_23 rfl rfl rfl rfl ?_
    refine wm_aload_n (q := 25) (i := 0) hg dX4_begin_24 rfl rfl rfl ?_
    refine wm_callV0 (q := 28) hg dX4_begin_25 rfl lk_X4_57 (by decide) (c_X4_record (by first | assumption | decide | omega)) (by first | assumption | decide | omega | (simp only [nO]; omega)) ⟨rfl, by decide⟩ rfl rfl (Nat.le_of_ble_eq_true rfl) ?_
    refine wm_mem (recP hU) ?_
    refine wm_aload_n (q := 29) (i := 0) hg dX4_begin_28 rfl rfl rfl ?_
    refine wm_get (q := 32) hg dX4_begin_29 rfl fl_X4_10 (by first | assumption | decide | omega | (simp only [nO]; omega)) rfl ?_
    refine wm_get (q := 35) hg dX4_begin_32 rfl fl_X4_50 (by first | assumption | decide | omega | (simp only [nO]; omega)) rfl ?_
    refine wm_iload_n (q := 36) (i := 1) hg dX4_begin_35 rfl rfl rfl ?_
    refine wm_callV0 (q := 39) hg dX4_begin_36 rfl lk_X4_60 (by decide) (c_X1_startWith (by first | assumption | decide | omega)) (by first | assumption | decide | omega | (simp only [nO]; omega)) ⟨rfl, by decide⟩ rfl rfl (Nat.le_of_ble_eq_true rfl) ?_
    refine wm_mem (M' := setP (recM M) (swX (M.1 1 0) n) (M.1 0 0)) (by simp only [setP_c, setP_b, setP_1, setP_0]) ?_
    refine wm_aload_n (q := 40) (i := 0) hg dX4_begin_39 rfl rfl rfl ?_
    refine wm_get (q := 43) hg dX4_begin_40 rfl fl_X4_10 (by first | assumption | decide | omega | (simp only [nO]; omega)) rfl ?_
    refine wm_get (q := 46) hg dX4_begin_43 rfl fl_X4_64 (by first | assumption | decide | omega | (simp only [nO]; omega)) rfl ?_
    refine wm_callV0 (q := 49) hg dX4_begin_46 rfl lk_X4_68 (by decide) (c_X0_clear (by first | assumption | decide | omega)) (by first | assumption | decide | omega | (simp only [nO]; omega)) ⟨rfl, by decide⟩ rfl rfl (Nat.le_of_ble_eq_true rfl) ?_
    refine wm_mem (M' := setP (recM M) (swX (M.1 1 0) n) (clX (M.1 0 0))) (by simp only [setP_c, setP_b, setP_1, setP_0]) ?_
    refine wm_aload_n (q := 50) (i := 0) hg dX4_begin_49 rfl rfl rfl ?_
    refine wm_get (q := 53) hg dX4_begin_50 rfl fl_X4_10 (by first | assumption | decide | omega | (simp only [nO]; omega)) rfl ?_
    refine wm_get (q := 56) hg dX4_begin_53 rfl fl_X4_50 (by first | assumption | decide | omega | (simp only [nO]; omega)) rfl ?_
    refine wm_aload_n (q := 57) (i := 0) hg dX4_begin_56 rfl rfl rfl ?_
    refine wm_get (q := 60) hg dX4_begin_57 rfl fl_X4_10 (by first | assumption | decide | omega | (simp only [nO]; omega)) rfl ?_
    refine wm_get (q := 63) hg dX4_begin_60 rfl fl_X4_64 (by first | assumption | decide | omega | (simp only [nO]; omega)) rfl ?_
    refine wm_callV1 (q := 66) hg dX4_begin_63 rfl lk_X4_73 (by decide) (c_settle_b (b := 0) (by decide) (by rw [setP_c]; exact ok10_sz (n := k) (by rw [swX_0, hk]) hk2) (by decide) (by rw [setP_b]; exact okB_cl _)) (by first | assumption | decide | omega | (simp only [nO]; omega)) ⟨rfl, by decide⟩ rfl rfl (Nat.le_of_ble_eq_true rfl) ?_
    refine wm_pop (q := 67) hg dX4_begin_66 rfl rfl ?_
    refine wm_iload_n (q := 68) (i := 2) hg dX4_begin_67 rfl rfl rfl ?_
    exact wm_iret hg hr dX4_begin_68 (by simp only [fBegin, if_neg h1]) (by simp only [fBegin, if_neg h1, setP_c, setP_b, setP_1, setP_0])
  · refine wm_ldc (q := 12) (-1000000001) hg dX4_begin_10 rfl ld_X4_49 ?_
    exact wm_iret hg hr dX4_begin_12 (by simp only [fBegin, if_pos h1]) (by simp only [fBegin, if_pos h1])
set_option maxRecDepth 100000 in
set_option maxHeartbeats 4000000 in
theorem c_X4_insert {Γ : GT} {M : Mem} {p a : Int32} (hI : InvC M) : Ct Γ yX4_insert cX4_insert 5 (some .int) 7 [.ref (ad Γ 4 0 0), .int p, .int a] M (some (.int (fIns M p a).1)) (fIns M p a).2 := by
  refine ct_of (by decide) (Nat.le_of_ble_eq_true rfl) (fun K hg hr => ?_)
  show WM Γ K _ [(0, _), (1, _), (2, _)] 0 []
  obtain ⟨hU, hC, hBB, hT⟩ := hI
  have hz := hC 0 (by decide)
  have hB := hBB 0 (by decide)
  have hz2 := hz.2
  refine wm_aload_n (q := 1) (i := 0) hg dX4_insert_0 rfl rfl rfl ?_
  refine wm_get (q := 4) hg dX4_insert_1 rfl fl_X4_10 (by first | assumption | decide | omega | (simp only [nO]; omega)) rfl ?_
  refine wm_get (q := 7) hg dX4_insert_4 rfl fl_X4_50 (by first | assumption | decide | omega | (simp only [nO]; omega)) rfl ?_
  refine wm_astore_n (q := 8) (i := 3) (L' := [(0, _), (1, _), (2, _), (3, _)]) hg dX4_insert_7 rfl rfl rfl rfl ?_
  refine wm_iload_n (q := 9) (i := 1) hg dX4_insert_8 rfl rfl rfl ?_
  refine wm_iconst (q := 10) 0 hg dX4_insert_9 rfl (by decide) ?_
  refine wm_aload_n (q := 11) (i := 3) hg dX4_insert_10 rfl rfl rfl ?_
  refine wm_get (q := 14) hg dX4_insert_11 rfl fl_X4_54 (by first | assumption | decide | omega | (simp only [nO]; omega)) rfl ?_
  refine wm_callS1 (q := 17) hg dX4_insert_14 rfl lk_X4_45 (by decide) c_X4_isWithin rfl rfl (Nat.le_of_ble_eq_true rfl) ?_
  refine wm_if_eq (q := 27) (q2 := 20) hg dX4_insert_17 (by decide) rfl (fun h1 => ?_) (fun h1 => ?_)
  · refine wm_ldc (q := 29) (-1000000001) hg dX4_insert_27 rfl ld_X4_49 ?_
    exact wm_iret hg hr dX4_insert_29 (by simp only [fIns, if_pos h1]) (by simp only [fIns, if_pos h1])
  · refine wm_iload_n (q := 21) (i := 2) hg dX4_insert_20 rfl rfl rfl ?_
    refine wm_callS1 (q := 24) hg dX4_insert_21 rfl lk_X4_77 (by decide) c_X4_isAngle rfl rfl (Nat.le_of_ble_eq_true rfl) ?_
    refine wm_if_ne (q := 30) (q2 := 27) hg dX4_insert_24 (by decide) rfl (fun h2 => ?_) (fun h2 => ?_)
    · refine wm_aload_n (q := 31) (i := 3) hg dX4_insert_30 rfl rfl rfl ?_
      refine wm_get (q := 34) hg dX4_insert_31 rfl fl_X4_54 (by first | assumption | decide | omega | (simp only [nO]; omega)) rfl ?_
      refine wm_bipush (q := 36) 10 hg dX4_insert_34 rfl (by decide) ?_
      refine wm_icmp_lt (q := 42) (q2 := 39) hg dX4_insert_36 (by decide) rfl (fun h3 => ?_) (fun h3 => ?_)
      · have hlt : szN (M.1 1 0) < 10 := by
          rcases Nat.lt_or_ge (szN (M.1 1 0)) 10 with q | q
          · exact q
          · exact absurd h3 (by rw [hz.1]; exact nI_nlt (a := szN (M.1 1 0)) (b := 10) q (by omega))
        obtain ⟨k, -, hk2, hk⟩ := wthn_n (lo := 0) (hi := szN (M.1 1 0)) (by rw [← hz.1]; exact h1) (by omega) (by omega)
        have hpk : p.toNatClampNeg = k := by rw [hk, nI_clamp (by omega)]
        refine wm_aload_n (q := 43) (i := 0) hg dX4_insert_42 rfl rfl rfl ?_
        refine wm_callV1 (q := 46) hg dX4_insert_43 rfl lk_X4_82 (by decide) (c_X4_startChange (by first | assumption | decide | omega) (by first | assumption | decide | omega)) (by first | assumption | decide | omega | (simp only [nO]; omega)) ⟨rfl, by decide⟩ rfl rfl (Nat.le_of_ble_eq_true rfl) ?_
        refine wm_mem (recP hU) ?_
        refine wm_istore (q := 48) (i := 4) (L' := [(0, _), (1, _), (2, _), (3, _), (4, _)]) hg dX4_insert_46 rfl rfl rfl ?_
        refine wm_aload_n (q := 49) (i := 3) hg dX4_insert_48 rfl rfl rfl ?_
        refine wm_iload_n (q := 50) (i := 1) hg dX4_insert_49 rfl rfl rfl ?_
        refine wm_iload_n (q := 51) (i := 2) hg dX4_insert_50 rfl rfl rfl ?_
        refine wm_callV0 (q := 54) hg dX4_insert_51 rfl lk_X4_86 (by decide) (c_X1_putIn (p := k) (by decide) (by rw [setP_c]; exact hz) (by rw [setP_c]; exact hlt) hk (by rw [setP_c]; exact hk2)) (by first | assumption | decide | omega | (simp only [nO]; omega)) ⟨rfl, by decide⟩ rfl rfl (Nat.le_of_ble_eq_true rfl) ?_
        refine wm_mem (M' := setP (recM M) (piX (M.1 1 0) k a) (M.1 0 0)) (by simp only [setP_c, setP_b, setP_1, setP_0]) ?_
        refine wm_aload_n (q := 55) (i := 0) hg dX4_insert_54 rfl rfl rfl ?_
        refine wm_iload (q := 57) (i := 4) hg dX4_insert_55 rfl rfl ?_
        refine wm_callV1 (q := 60) hg dX4_insert_57 rfl lk_X4_90 (by decide) (c_endCh (ok10_pi hz hlt _ _) hB) (by first | assumption | decide | omega | (simp only [nO]; omega)) ⟨rfl, by decide⟩ rfl rfl (Nat.le_of_ble_eq_true rfl) ?_
        refine wm_pop (q := 61) hg dX4_insert_60 rfl rfl ?_
        refine wm_aload_n (q := 62) (i := 3) hg dX4_insert_61 rfl rfl rfl ?_
        refine wm_get (q := 65) hg dX4_insert_62 rfl fl_X4_54 (by first | assumption | decide | omega | (simp only [nO]; omega)) rfl ?_
        exact wm_iret hg hr dX4_insert_65 (by simp only [fIns, if_neg h1, if_neg h2, if_pos h3, setP_c, endX, stB_1, piX_0]) (by simp only [fIns, if_neg h1, if_neg h2, if_pos h3, chM, hpk])
      · refine wm_ldc (q := 41) (-1000000003) hg dX4_insert_39 rfl ld_X4_81 ?_
        exact wm_iret hg hr dX4_insert_41 (by simp only [fIns, if_neg h1, if_neg h2, if_neg h3]) (by simp only [fIns, if_neg h1, if_neg h2, if_neg h3])
    · refine wm_ldc (q := 29) (-1000000001) hg dX4_insert_27 rfl ld_X4_49 ?_
      exact wm_iret hg hr dX4_insert_29 (by simp only [fIns, if_neg h1, if_pos h2]) (by simp only [fIns, if_neg h1, if_pos h2])
set_option maxRecDepth 100000 in
set_option maxHeartbeats 4000000 in
theorem c_X4_remove {Γ : GT} {M : Mem} {i : Int32} (hI : InvC M) : Ct Γ yX4_remove cX4_remove 5 (some .int) 7 [.ref (ad Γ 4 0 0), .int i] M (some (.int (fRem M i).1)) (fRem M i).2 := by
  refine ct_of (by decide) (Nat.le_of_ble_eq_true rfl) (fun K hg hr => ?_)
  show WM Γ K _ [(0, _), (1, _)] 0 []
  obtain ⟨hU, hC, hBB, hT⟩ := hI
  have hz := hC 0 (by decide)
  have hB := hBB 0 (by decide)
  have hz2 := hz.2
  refine wm_aload_n (q := 1) (i := 0) hg dX4_remove_0 rfl rfl rfl ?_
  refine wm_get (q := 4) hg dX4_remove_1 rfl fl_X4_10 (by first | assumption | decide | omega | (simp only [nO]; omega)) rfl ?_
  refine wm_get (q := 7) hg dX4_remove_4 rfl fl_X4_50 (by first | assumption | decide | omega | (simp only [nO]; omega)) rfl ?_
  refine wm_astore_n (q := 8) (i := 2) (L' := [(0, _), (1, _), (2, _)]) hg dX4_remove_7 rfl rfl rfl rfl ?_
  refine wm_aload_n (q := 9) (i := 0) hg dX4_remove_8 rfl rfl rfl ?_
  refine wm_iload_n (q := 10) (i := 1) hg dX4_remove_9 rfl rfl rfl ?_
  refine wm_callV1 (q := 13) hg dX4_remove_10 rfl lk_X4_94 (by decide) c_X4_isMagnet (by first | assumption | decide | omega | (simp only [nO]; omega)) ⟨rfl, by decide⟩ rfl rfl (Nat.le_of_ble_eq_true rfl) ?_
  refine wm_if_ne (q := 19) (q2 := 16) hg dX4_remove_13 (by decide) rfl (fun h1 => ?_) (fun h1 => ?_)
  · obtain ⟨hi1, hi2, hi3⟩ := wthn_sz hz h1
    refine wm_aload_n (q := 20) (i := 2) hg dX4_remove_19 rfl rfl rfl ?_
    refine wm_get (q := 23) hg dX4_remove_20 rfl fl_X4_54 (by first | assumption | decide | omega | (simp only [nO]; omega)) rfl ?_
    refine wm_iconst (q := 24) 1 hg dX4_remove_23 rfl (by decide) ?_
    refine wm_icmp_ne (q := 30) (q2 := 27) hg dX4_remove_24 (by decide) rfl (fun h2 => ?_) (fun h2 => ?_)
    · refine wm_aload_n (q := 31) (i := 2) hg dX4_remove_30 rfl rfl rfl ?_
      refine wm_get (q := 34) hg dX4_remove_31 rfl fl_X4_98 (by first | assumption | decide | omega | (simp only [nO]; omega)) rfl ?_
      refine wm_iload_n (q := 35) (i := 1) hg dX4_remove_34 rfl rfl rfl ?_
      refine wm_iaload (q := 36) i.toNatClampNeg hg dX4_remove_35 rfl (by first | assumption | decide | omega | (simp only [nO]; omega)) rfl hi1 (by simp only [alen]; omega) ?_
      refine wm_istore_n (q := 37) (i := 3) (L' := [(0, _), (1, _), (2, _), (3, _)]) hg dX4_remove_36 rfl rfl rfl rfl ?_
      refine wm_aload_n (q := 38) (i := 0) hg dX4_remove_37 rfl rfl rfl ?_
      refine wm_callV1 (q := 41) hg dX4_remove_38 rfl lk_X4_82 (by decide) (c_X4_startChange (by first | assumption | decide | omega) (by first | assumption | decide | omega)) (by first | assumption | decide | omega | (simp only [nO]; omega)) ⟨rfl, by decide⟩ rfl rfl (Nat.le_of_ble_eq_true rfl) ?_
      refine wm_mem (recP hU) ?_
      refine wm_istore (q := 43) (i := 4) (L' := [(0, _), (1, _), (2, _), (3, _), (4, _)]) hg dX4_remove_41 rfl rfl rfl ?_
      refine wm_aload_n (q := 44) (i := 2) hg dX4_remove_43 rfl rfl rfl ?_
      refine wm_iload_n (q := 45) (i := 1) hg dX4_remove_44 rfl rfl rfl ?_
      refine wm_callV0 (q := 48) hg dX4_remove_45 rfl lk_X4_102 (by decide) (c_X1_takeOut (p := i.toNatClampNeg) (by decide) (by rw [setP_c]; exact hz) hi1 (by rw [setP_c]; exact hi2)) (by first | assumption | decide | omega | (simp only [nO]; omega)) ⟨rfl, by decide⟩ rfl rfl (Nat.le_of_ble_eq_true rfl) ?_
      refine wm_mem (M' := setP (recM M) (toX (M.1 1 0) i.toNatClampNeg) (M.1 0 0)) (by simp only [setP_c, setP_b, setP_1, setP_0]) ?_
      refine wm_aload_n (q := 49) (i := 0) hg dX4_remove_48 rfl rfl rfl ?_
      refine wm_iload (q := 51) (i := 4) hg dX4_remove_49 rfl rfl ?_
      refine wm_callV1 (q := 54) hg dX4_remove_51 rfl lk_X4_90 (by decide) (c_endCh (ok10_to hz hi2) hB) (by first | assumption | decide | omega | (simp only [nO]; omega)) ⟨rfl, by decide⟩ rfl rfl (Nat.le_of_ble_eq_true rfl) ?_
      refine wm_pop (q := 55) hg dX4_remove_54 rfl rfl ?_
      refine wm_iload_n (q := 56) (i := 3) hg dX4_remove_55 rfl rfl rfl ?_
      exact wm_iret hg hr dX4_remove_56 (by simp only [fRem, if_neg h1, if_neg h2]) (by simp only [fRem, if_neg h1, if_neg h2, chM])
    · refine wm_ldc (q := 29) (-1000000002) hg dX4_remove_27 rfl ld_X4_97 ?_
      exact wm_iret hg hr dX4_remove_29 (by simp only [fRem, if_neg h1, if_pos h2]) (by simp only [fRem, if_neg h1, if_pos h2])
  · refine wm_ldc (q := 18) (-1000000001) hg dX4_remove_16 rfl ld_X4_49 ?_
    exact wm_iret hg hr dX4_remove_18 (by simp only [fRem, if_pos h1]) (by simp only [fRem, if_pos h1])
set_option maxRecDepth 100000 in
set_option maxHeartbeats 4000000 in
theorem c_X4_hold {Γ : GT} {M : Mem} {i on : Int32} (hI : InvC M) : Ct Γ yX4_hold cX4_hold 5 (some .int) 7 [.ref (ad Γ 4 0 0), .int i, .int on] M (some (.int (fHold M i on).1)) (fHold M i on).2 := by
  refine ct_of (by decide) (Nat.le_of_ble_eq_true rfl) (fun K hg hr => ?_)
  show WM Γ K _ [(0, _), (1, _), (2, _)] 0 []
  obtain ⟨hU, hC, hBB, hT⟩ := hI
  have hz := hC 0 (by decide)
  have hB := hBB 0 (by decide)
  have hz2 := hz.2
  refine wm_aload_n (q := 1) (i := 0) hg dX4_hold_0 rfl rfl rfl ?_
  refine wm_iload_n (q := 2) (i := 1) hg dX4_hold_1 rfl rfl rfl ?_
  refine wm_callV1 (q := 5) hg dX4_hold_2 rfl lk_X4_94 (by decide) c_X4_isMagnet (by first | assumption | decide | omega | (simp only [nO]; omega)) ⟨rfl, by decide⟩ rfl rfl (Nat.le_of_ble_eq_true rfl) ?_
  refine wm_if_eq (q := 17) (q2 := 8) hg dX4_hold_5 (by decide) rfl (fun h1 => ?_) (fun h1 => ?_)
  · refine wm_ldc (q := 19) (-1000000001) hg dX4_hold_17 rfl ld_X4_49 ?_
    exact wm_iret hg hr dX4_hold_19 (by simp only [fHold, if_pos h1]) (by simp only [fHold, if_pos h1])
  · obtain ⟨hi1, hi2, hi3⟩ := wthn_sz hz h1
    refine wm_iload_n (q := 9) (i := 2) hg dX4_hold_8 rfl rfl rfl ?_
    refine wm_iconst (q := 10) 0 hg dX4_hold_9 rfl (by decide) ?_
    refine wm_iconst (q := 11) 1 hg dX4_hold_10 rfl (by decide) ?_
    refine wm_callS1 (q := 14) hg dX4_hold_11 rfl lk_X4_45 (by decide) c_X4_isWithin rfl rfl (Nat.le_of_ble_eq_true rfl) ?_
    refine wm_if_ne (q := 20) (q2 := 17) hg dX4_hold_14 (by decide) rfl (fun h2 => ?_) (fun h2 => ?_)
    · refine wm_aload_n (q := 21) (i := 0) hg dX4_hold_20 rfl rfl rfl ?_
      refine wm_get (q := 24) hg dX4_hold_21 rfl fl_X4_10 (by first | assumption | decide | omega | (simp only [nO]; omega)) rfl ?_
      refine wm_get (q := 27) hg dX4_hold_24 rfl fl_X4_50 (by first | assumption | decide | omega | (simp only [nO]; omega)) rfl ?_
      refine wm_get (q := 30) hg dX4_hold_27 rfl fl_X4_105 (by first | assumption | decide | omega | (simp only [nO]; omega)) rfl ?_
      refine wm_iload_n (q := 31) (i := 1) hg dX4_hold_30 rfl rfl rfl ?_
      refine wm_iaload (q := 32) i.toNatClampNeg hg dX4_hold_31 rfl (by first | assumption | decide | omega | (simp only [nO]; omega)) rfl hi1 (by simp only [alen]; omega) ?_
      refine wm_istore_n (q := 33) (i := 3) (L' := [(0, _), (1, _), (2, _), (3, _)]) hg dX4_hold_32 rfl rfl rfl rfl ?_
      refine wm_aload_n (q := 34) (i := 0) hg dX4_hold_33 rfl rfl rfl ?_
      refine wm_callV1 (q := 37) hg dX4_hold_34 rfl lk_X4_82 (by decide) (c_X4_startChange (by first | assumption | decide | omega) (by first | assumption | decide | omega)) (by first | assumption | decide | omega | (simp only [nO]; omega)) ⟨rfl, by decide⟩ rfl rfl (Nat.le_of_ble_eq_true rfl) ?_
      refine wm_mem (recP hU) ?_
      refine wm_istore (q := 39) (i := 4) (L' := [(0, _), (1, _), (2, _), (3, _), (4, _)]) hg dX4_hold_37 rfl rfl rfl ?_
      refine wm_aload_n (q := 40) (i := 0) hg dX4_hold_39 rfl rfl rfl ?_
      refine wm_get (q := 43) hg dX4_hold_40 rfl fl_X4_10 (by first | assumption | decide | omega | (simp only [nO]; omega)) rfl ?_
      refine wm_get (q := 46) hg dX4_hold_43 rfl fl_X4_50 (by first | assumption | decide | omega | (simp only [nO]; omega)) rfl ?_
      refine wm_get (q := 49) hg dX4_hold_46 rfl fl_X4_105 (by first | assumption | decide | omega | (simp only [nO]; omega)) rfl ?_
      refine wm_iload_n (q := 50) (i := 1) hg dX4_hold_49 rfl rfl rfl ?_
      refine wm_iload_n (q := 51) (i := 2) hg dX4_hold_50 rfl rfl rfl ?_
      refine wm_iastore (q := 52) i.toNatClampNeg hg dX4_hold_51 rfl (by first | assumption | decide | omega | (simp only [nO]; omega)) rfl hi1 (by simp only [alen]; omega) ?_
      refine wm_mem (M' := setP (recM M) (oA (M.1 1 0) 2 (upd ((M.1 1 0).2 2) i.toNatClampNeg on)) (M.1 0 0)) (by simp only [sA, setP_c, setP_b, setP_1, setP_0]) ?_
      refine wm_aload_n (q := 53) (i := 0) hg dX4_hold_52 rfl rfl rfl ?_
      refine wm_iload (q := 55) (i := 4) hg dX4_hold_53 rfl rfl ?_
      refine wm_callV1 (q := 58) hg dX4_hold_55 rfl lk_X4_90 (by decide) (c_endCh (ok10_1 rfl hz) hB) (by first | assumption | decide | omega | (simp only [nO]; omega)) ⟨rfl, by decide⟩ rfl rfl (Nat.le_of_ble_eq_true rfl) ?_
      refine wm_pop (q := 59) hg dX4_hold_58 rfl rfl ?_
      refine wm_iload_n (q := 60) (i := 3) hg dX4_hold_59 rfl rfl rfl ?_
      exact wm_iret hg hr dX4_hold_60 (by simp only [fHold, if_neg h1, if_neg h2]) (by simp only [fHold, if_neg h1, if_neg h2, chM])
    · refine wm_ldc (q := 19) (-1000000001) hg dX4_hold_17 rfl ld_X4_49 ?_
      exact wm_iret hg hr dX4_hold_19 (by simp only [fHold, if_neg h1, if_pos h2]) (by simp only [fHold, if_neg h1, if_pos h2])
set_option maxRecDepth 100000 in
set_option maxHeartbeats 4000000 in
theorem c_X4_push {Γ : GT} {M : Mem} {i b : Int32} (hI : InvC M) : Ct Γ yX4_push cX4_push 4 (some .int) 7 [.ref (ad Γ 4 0 0), .int i, .int b] M (some (.int (fPush M i b).1)) (fPush M i b).2 := by
  refine ct_of (by decide) (Nat.le_of_ble_eq_true rfl) (fun K hg hr => ?_)
  show WM Γ K _ [(0, _), (1, _), (2, _)] 0 []
  obtain ⟨hU, hC, hBB, hT⟩ := hI
  have hz := hC 0 (by decide)
  have hB := hBB 0 (by decide)
  have hz2 := hz.2
  refine wm_aload_n (q := 1) (i := 0) hg dX4_push_0 rfl rfl rfl ?_
  refine wm_iload_n (q := 2) (i := 1) hg dX4_push_1 rfl rfl rfl ?_
  refine wm_callV1 (q := 5) hg dX4_push_2 rfl lk_X4_94 (by decide) c_X4_isMagnet (by first | assumption | decide | omega | (simp only [nO]; omega)) ⟨rfl, by decide⟩ rfl rfl (Nat.le_of_ble_eq_true rfl) ?_
  refine wm_if_eq (q := 15) (q2 := 8) hg dX4_push_5 (by decide) rfl (fun h1 => ?_) (fun h1 => ?_)
  · refine wm_ldc (q := 17) (-1000000001) hg dX4_push_15 rfl ld_X4_49 ?_
    exact wm_iret hg hr dX4_push_17 (by simp only [fPush, if_pos h1]) (by simp only [fPush, if_pos h1])
  · obtain ⟨hi1, hi2, hi3⟩ := wthn_sz hz h1
    refine wm_iload_n (q := 9) (i := 2) hg dX4_push_8 rfl rfl rfl ?_
    refine wm_callS1 (q := 12) hg dX4_push_9 rfl lk_X4_126 (by decide) c_X4_isPush rfl rfl (Nat.le_of_ble_eq_true rfl) ?_
    refine wm_if_ne (q := 18) (q2 := 15) hg dX4_push_12 (by decide) rfl (fun h2 => ?_) (fun h2 => ?_)
    · refine wm_aload_n (q := 19) (i := 0) hg dX4_push_18 rfl rfl rfl ?_
      refine wm_get (q := 22) hg dX4_push_19 rfl fl_X4_10 (by first | assumption | decide | omega | (simp only [nO]; omega)) rfl ?_
      refine wm_get (q := 25) hg dX4_push_22 rfl fl_X4_50 (by first | assumption | decide | omega | (simp only [nO]; omega)) rfl ?_
      refine wm_get (q := 28) hg dX4_push_25 rfl fl_X4_105 (by first | assumption | decide | omega | (simp only [nO]; omega)) rfl ?_
      refine wm_iload_n (q := 29) (i := 1) hg dX4_push_28 rfl rfl rfl ?_
      refine wm_iaload (q := 30) i.toNatClampNeg hg dX4_push_29 rfl (by first | assumption | decide | omega | (simp only [nO]; omega)) rfl hi1 (by simp only [alen]; omega) ?_
      refine wm_iconst (q := 31) 1 hg dX4_push_30 rfl (by decide) ?_
      refine wm_icmp_ne (q := 37) (q2 := 34) hg dX4_push_31 (by decide) rfl (fun h3 => ?_) (fun h3 => ?_)
      · refine wm_aload_n (q := 38) (i := 0) hg dX4_push_37 rfl rfl rfl ?_
        refine wm_callV1 (q := 41) hg dX4_push_38 rfl lk_X4_82 (by decide) (c_X4_startChange (by first | assumption | decide | omega) (by first | assumption | decide | omega)) (by first | assumption | decide | omega | (simp only [nO]; omega)) ⟨rfl, by decide⟩ rfl rfl (Nat.le_of_ble_eq_true rfl) ?_
        refine wm_mem (recP hU) ?_
        refine wm_istore_n (q := 42) (i := 3) (L' := [(0, _), (1, _), (2, _), (3, _)]) hg dX4_push_41 rfl rfl rfl rfl ?_
        refine wm_aload_n (q := 43) (i := 0) hg dX4_push_42 rfl rfl rfl ?_
        refine wm_get (q := 46) hg dX4_push_43 rfl fl_X4_10 (by first | assumption | decide | omega | (simp only [nO]; omega)) rfl ?_
        refine wm_get (q := 49) hg dX4_push_46 rfl fl_X4_50 (by first | assumption | decide | omega | (simp only [nO]; omega)) rfl ?_
        refine wm_iload_n (q := 50) (i := 1) hg dX4_push_49 rfl rfl rfl ?_
        refine wm_iload_n (q := 51) (i := 2) hg dX4_push_50 rfl rfl rfl ?_
        refine wm_callV0 (q := 54) hg dX4_push_51 rfl lk_X4_129 (by decide) (c_X1_turn (by first | assumption | decide | omega) hi1 (by omega)) (by first | assumption | decide | omega | (simp only [nO]; omega)) ⟨rfl, by decide⟩ rfl rfl (Nat.le_of_ble_eq_true rfl) ?_
        refine wm_mem (M' := setP (recM M) (turnX (M.1 1 0) i.toNatClampNeg b) (M.1 0 0)) (by simp only [setP_c, setP_b, setP_1, setP_0]) ?_
        refine wm_aload_n (q := 55) (i := 0) hg dX4_push_54 rfl rfl rfl ?_
        refine wm_get (q := 58) hg dX4_push_55 rfl fl_X4_10 (by first | assumption | decide | omega | (simp only [nO]; omega)) rfl ?_
        refine wm_get (q := 61) hg dX4_push_58 rfl fl_X4_64 (by first | assumption | decide | omega | (simp only [nO]; omega)) rfl ?_
        refine wm_dup (q := 62) hg dX4_push_61 rfl rfl ?_
        refine wm_get (q := 65) hg dX4_push_62 rfl fl_X4_132 (by first | assumption | decide | omega | (simp only [nO]; omega)) rfl ?_
        refine wm_iconst (q := 66) 1 hg dX4_push_65 rfl (by decide) ?_
        refine wm_iadd (q := 67) hg dX4_push_66 rfl ?_
        refine wm_put (q := 70) hg dX4_push_67 rfl fl_X4_132 (by first | assumption | decide | omega | (simp only [nO]; omega)) rfl ?_
        refine wm_mem (M' := setP (recM M) (turnX (M.1 1 0) i.toNatClampNeg b) (oI (M.1 0 0) 3 ((M.1 0 0).1 3 + 1))) (by simp only [sI, setP_c, setP_b, setP_1, setP_0]) ?_
        refine wm_aload_n (q := 71) (i := 0) hg dX4_push_70 rfl rfl rfl ?_
        refine wm_iload_n (q := 72) (i := 3) hg dX4_push_71 rfl rfl rfl ?_
        refine wm_callV1 (q := 75) hg dX4_push_72 rfl lk_X4_90 (by decide) (c_endCh (ok10_1 rfl hz) (okB_w hB _ (by decide))) (by first | assumption | decide | omega | (simp only [nO]; omega)) ⟨rfl, by decide⟩ rfl rfl (Nat.le_of_ble_eq_true rfl) ?_
        exact wm_iret hg hr dX4_push_75 (by simp only [fPush, if_neg h1, if_neg h2, if_neg h3, chN]) (by simp only [fPush, if_neg h1, if_neg h2, if_neg h3, chM])
      · refine wm_ldc (q := 36) (-1000000002) hg dX4_push_34 rfl ld_X4_97 ?_
        exact wm_iret hg hr dX4_push_36 (by simp only [fPush, if_neg h1, if_neg h2, if_pos h3]) (by simp only [fPush, if_neg h1, if_neg h2, if_pos h3])
    · refine wm_ldc (q := 17) (-1000000001) hg dX4_push_15 rfl ld_X4_49 ?_
      exact wm_iret hg hr dX4_push_17 (by simp only [fPush, if_neg h1, if_pos h2]) (by simp only [fPush, if_neg h1, if_pos h2])
set_option maxRecDepth 100000 in
set_option maxHeartbeats 4000000 in
theorem c_X4_goal {Γ : GT} {M : Mem} {i a : Int32} (hI : InvC M) : Ct Γ yX4_goal cX4_goal 5 (some .int) 7 [.ref (ad Γ 4 0 0), .int i, .int a] M (some (.int (fGoal M i a).1)) (fGoal M i a).2 := by
  refine ct_of (by decide) (Nat.le_of_ble_eq_true rfl) (fun K hg hr => ?_)
  show WM Γ K _ [(0, _), (1, _), (2, _)] 0 []
  obtain ⟨hU, hC, hBB, hT⟩ := hI
  have hz := hC 0 (by decide)
  have hB := hBB 0 (by decide)
  have hz2 := hz.2
  refine wm_aload_n (q := 1) (i := 0) hg dX4_goal_0 rfl rfl rfl ?_
  refine wm_iload_n (q := 2) (i := 1) hg dX4_goal_1 rfl rfl rfl ?_
  refine wm_callV1 (q := 5) hg dX4_goal_2 rfl lk_X4_94 (by decide) c_X4_isMagnet (by first | assumption | decide | omega | (simp only [nO]; omega)) ⟨rfl, by decide⟩ rfl rfl (Nat.le_of_ble_eq_true rfl) ?_
  refine wm_if_eq (q := 21) (q2 := 8) hg dX4_goal_5 (by decide) rfl (fun h1 => ?_) (fun h1 => ?_)
  · refine wm_ldc (q := 23) (-1000000001) hg dX4_goal_21 rfl ld_X4_49 ?_
    exact wm_iret hg hr dX4_goal_23 (by simp only [fGoal, if_pos h1]) (by simp only [fGoal, if_pos h1])
  · obtain ⟨hi1, hi2, hi3⟩ := wthn_sz hz h1
    refine wm_iload_n (q := 9) (i := 2) hg dX4_goal_8 rfl rfl rfl ?_
    refine wm_ldc (q := 11) (-1000000009) hg dX4_goal_9 rfl ld_X4_151 ?_
    refine wm_icmp_eq (q := 24) (q2 := 14) hg dX4_goal_11 (by decide) rfl (fun h2 => ?_) (fun h2 => ?_)
    · have hc : a = -1000000009 ∨ ¬ isAng a = 0 := Or.inl h2
      refine wm_aload_n (q := 25) (i := 0) hg dX4_goal_24 rfl rfl rfl ?_
      refine wm_get (q := 28) hg dX4_goal_25 rfl fl_X4_10 (by first | assumption | decide | omega | (simp only [nO]; omega)) rfl ?_
      refine wm_get (q := 31) hg dX4_goal_28 rfl fl_X4_50 (by first | assumption | decide | omega | (simp only [nO]; omega)) rfl ?_
      refine wm_get (q := 34) hg dX4_goal_31 rfl fl_X4_152 (by first | assumption | decide | omega | (simp only [nO]; omega)) rfl ?_
      refine wm_iload_n (q := 35) (i := 1) hg dX4_goal_34 rfl rfl rfl ?_
      refine wm_iaload (q := 36) i.toNatClampNeg hg dX4_goal_35 rfl (by first | assumption | decide | omega | (simp only [nO]; omega)) rfl hi1 (by simp only [alen]; omega) ?_
      refine wm_istore_n (q := 37) (i := 3) (L' := [(0, _), (1, _), (2, _), (3, _)]) hg dX4_goal_36 rfl rfl rfl rfl ?_
      refine wm_aload_n (q := 38) (i := 0) hg dX4_goal_37 rfl rfl rfl ?_
      refine wm_callV1 (q := 41) hg dX4_goal_38 rfl lk_X4_82 (by decide) (c_X4_startChange (by first | assumption | decide | omega) (by first | assumption | decide | omega)) (by first | assumption | decide | omega | (simp only [nO]; omega)) ⟨rfl, by decide⟩ rfl rfl (Nat.le_of_ble_eq_true rfl) ?_
      refine wm_mem (recP hU) ?_
      refine wm_istore (q := 43) (i := 4) (L' := [(0, _), (1, _), (2, _), (3, _), (4, _)]) hg dX4_goal_41 rfl rfl rfl ?_
      refine wm_aload_n (q := 44) (i := 0) hg dX4_goal_43 rfl rfl rfl ?_
      refine wm_get (q := 47) hg dX4_goal_44 rfl fl_X4_10 (by first | assumption | decide | omega | (simp only [nO]; omega)) rfl ?_
      refine wm_get (q := 50) hg dX4_goal_47 rfl fl_X4_50 (by first | assumption | decide | omega | (simp only [nO]; omega)) rfl ?_
      refine wm_get (q := 53) hg dX4_goal_50 rfl fl_X4_152 (by first | assumption | decide | omega | (simp only [nO]; omega)) rfl ?_
      refine wm_iload_n (q := 54) (i := 1) hg dX4_goal_53 rfl rfl rfl ?_
      refine wm_iload_n (q := 55) (i := 2) hg dX4_goal_54 rfl rfl rfl ?_
      refine wm_iastore (q := 56) i.toNatClampNeg hg dX4_goal_55 rfl (by first | assumption | decide | omega | (simp only [nO]; omega)) rfl hi1 (by simp only [alen]; omega) ?_
      refine wm_mem (M' := setP (recM M) (oA (M.1 1 0) 3 (upd ((M.1 1 0).2 3) i.toNatClampNeg a)) (M.1 0 0)) (by simp only [sA, setP_c, setP_b, setP_1, setP_0]) ?_
      refine wm_aload_n (q := 57) (i := 0) hg dX4_goal_56 rfl rfl rfl ?_
      refine wm_iload (q := 59) (i := 4) hg dX4_goal_57 rfl rfl ?_
      refine wm_callV1 (q := 62) hg dX4_goal_59 rfl lk_X4_90 (by decide) (c_endCh (ok10_1 rfl hz) hB) (by first | assumption | decide | omega | (simp only [nO]; omega)) ⟨rfl, by decide⟩ rfl rfl (Nat.le_of_ble_eq_true rfl) ?_
      refine wm_pop (q := 63) hg dX4_goal_62 rfl rfl ?_
      refine wm_iload_n (q := 64) (i := 3) hg dX4_goal_63 rfl rfl rfl ?_
      exact wm_iret hg hr dX4_goal_64 (by simp only [fGoal, if_neg h1, if_pos hc]) (by simp only [fGoal, if_neg h1, if_pos hc, chM])
    · refine wm_iload_n (q := 15) (i := 2) hg dX4_goal_14 rfl rfl rfl ?_
      refine wm_callS1 (q := 18) hg dX4_goal_15 rfl lk_X4_77 (by decide) c_X4_isAngle rfl rfl (Nat.le_of_ble_eq_true rfl) ?_
      refine wm_if_ne (q := 24) (q2 := 21) hg dX4_goal_18 (by decide) rfl (fun h3 => ?_) (fun h3 => ?_)
      · have hc : a = -1000000009 ∨ ¬ isAng a = 0 := Or.inr h3
        refine wm_aload_n (q := 25) (i := 0) hg dX4_goal_24 rfl rfl rfl ?_
        refine wm_get (q := 28) hg dX4_goal_25 rfl fl_X4_10 (by first | assumption | decide | omega | (simp only [nO]; omega)) rfl ?_
        refine wm_get (q := 31) hg dX4_goal_28 rfl fl_X4_50 (by first | assumption | decide | omega | (simp only [nO]; omega)) rfl ?_
        refine wm_get (q := 34) hg dX4_goal_31 rfl fl_X4_152 (by first | assumption | decide | omega | (simp only [nO]; omega)) rfl ?_
        refine wm_iload_n (q := 35) (i := 1) hg dX4_goal_34 rfl rfl rfl ?_
        refine wm_iaload (q := 36) i.toNatClampNeg hg dX4_goal_35 rfl (by first | assumption | decide | omega | (simp only [nO]; omega)) rfl hi1 (by simp only [alen]; omega) ?_
        refine wm_istore_n (q := 37) (i := 3) (L' := [(0, _), (1, _), (2, _), (3, _)]) hg dX4_goal_36 rfl rfl rfl rfl ?_
        refine wm_aload_n (q := 38) (i := 0) hg dX4_goal_37 rfl rfl rfl ?_
        refine wm_callV1 (q := 41) hg dX4_goal_38 rfl lk_X4_82 (by decide) (c_X4_startChange (by first | assumption | decide | omega) (by first | assumption | decide | omega)) (by first | assumption | decide | omega | (simp only [nO]; omega)) ⟨rfl, by decide⟩ rfl rfl (Nat.le_of_ble_eq_true rfl) ?_
        refine wm_mem (recP hU) ?_
        refine wm_istore (q := 43) (i := 4) (L' := [(0, _), (1, _), (2, _), (3, _), (4, _)]) hg dX4_goal_41 rfl rfl rfl ?_
        refine wm_aload_n (q := 44) (i := 0) hg dX4_goal_43 rfl rfl rfl ?_
        refine wm_get (q := 47) hg dX4_goal_44 rfl fl_X4_10 (by first | assumption | decide | omega | (simp only [nO]; omega)) rfl ?_
        refine wm_get (q := 50) hg dX4_goal_47 rfl fl_X4_50 (by first | assumption | decide | omega | (simp only [nO]; omega)) rfl ?_
        refine wm_get (q := 53) hg dX4_goal_50 rfl fl_X4_152 (by first | assumption | decide | omega | (simp only [nO]; omega)) rfl ?_
        refine wm_iload_n (q := 54) (i := 1) hg dX4_goal_53 rfl rfl rfl ?_
        refine wm_iload_n (q := 55) (i := 2) hg dX4_goal_54 rfl rfl rfl ?_
        refine wm_iastore (q := 56) i.toNatClampNeg hg dX4_goal_55 rfl (by first | assumption | decide | omega | (simp only [nO]; omega)) rfl hi1 (by simp only [alen]; omega) ?_
        refine wm_mem (M' := setP (recM M) (oA (M.1 1 0) 3 (upd ((M.1 1 0).2 3) i.toNatClampNeg a)) (M.1 0 0)) (by simp only [sA, setP_c, setP_b, setP_1, setP_0]) ?_
        refine wm_aload_n (q := 57) (i := 0) hg dX4_goal_56 rfl rfl rfl ?_
        refine wm_iload (q := 59) (i := 4) hg dX4_goal_57 rfl rfl ?_
        refine wm_callV1 (q := 62) hg dX4_goal_59 rfl lk_X4_90 (by decide) (c_endCh (ok10_1 rfl hz) hB) (by first | assumption | decide | omega | (simp only [nO]; omega)) ⟨rfl, by decide⟩ rfl rfl (Nat.le_of_ble_eq_true rfl) ?_
        refine wm_pop (q := 63) hg dX4_goal_62 rfl rfl ?_
        refine wm_iload_n (q := 64) (i := 3) hg dX4_goal_63 rfl rfl rfl ?_
        exact wm_iret hg hr dX4_goal_64 (by simp only [fGoal, if_neg h1, if_pos hc]) (by simp only [fGoal, if_neg h1, if_pos hc, chM])
      · have hc : ¬ (a = -1000000009 ∨ ¬ isAng a = 0) := fun z => z.elim h2 (fun z => z h3)
        refine wm_ldc (q := 23) (-1000000001) hg dX4_goal_21 rfl ld_X4_49 ?_
        exact wm_iret hg hr dX4_goal_23 (by simp only [fGoal, if_neg h1, if_neg hc]) (by simp only [fGoal, if_neg h1, if_neg hc])
set_option maxRecDepth 100000 in
set_option maxHeartbeats 4000000 in
theorem c_X4_set {Γ : GT} {M : Mem} {a v : Int32} (hI : InvC M) : Ct Γ yX4_set cX4_set 5 (some .int) 7 [.ref (ad Γ 4 0 0), .int a, .int v] M (some (.int (fSet M a v).1)) (fSet M a v).2 := by
  refine ct_of (by decide) (Nat.le_of_ble_eq_true rfl) (fun K hg hr => ?_)
  show WM Γ K _ [(0, _), (1, _), (2, _)] 0 []
  obtain ⟨hU, hC, hBB, hT⟩ := hI
  have hz := hC 0 (by decide)
  have hB := hBB 0 (by decide)
  have hz2 := hz.2
  refine wm_iload_n (q := 1) (i := 1) hg dX4_set_0 rfl rfl rfl ?_
  refine wm_iload_n (q := 2) (i := 2) hg dX4_set_1 rfl rfl rfl ?_
  refine wm_callS1 (q := 5) hg dX4_set_2 rfl lk_X4_135 (by decide) c_X4_isSetting rfl rfl (Nat.le_of_ble_eq_true rfl) ?_
  refine wm_if_ne (q := 11) (q2 := 8) hg dX4_set_5 (by decide) rfl (fun h1 => ?_) (fun h1 => ?_)
  · refine wm_aload_n (q := 12) (i := 0) hg dX4_set_11 rfl rfl rfl ?_
    refine wm_get (q := 15) hg dX4_set_12 rfl fl_X4_10 (by first | assumption | decide | omega | (simp only [nO]; omega)) rfl ?_
    refine wm_get (q := 18) hg dX4_set_15 rfl fl_X4_50 (by first | assumption | decide | omega | (simp only [nO]; omega)) rfl ?_
    refine wm_astore_n (q := 19) (i := 3) (L' := [(0, _), (1, _), (2, _), (3, _)]) hg dX4_set_18 rfl rfl rfl rfl ?_
    refine wm_aload_n (q := 20) (i := 0) hg dX4_set_19 rfl rfl rfl ?_
    refine wm_callV1 (q := 23) hg dX4_set_20 rfl lk_X4_82 (by decide) (c_X4_startChange (by first | assumption | decide | omega) (by first | assumption | decide | omega)) (by first | assumption | decide | omega | (simp only [nO]; omega)) ⟨rfl, by decide⟩ rfl rfl (Nat.le_of_ble_eq_true rfl) ?_
    refine wm_mem (recP hU) ?_
    refine wm_istore (q := 25) (i := 4) (L' := [(0, _), (1, _), (2, _), (3, _), (4, _)]) hg dX4_set_23 rfl rfl rfl ?_
    refine wm_iload_n (q := 26) (i := 1) hg dX4_set_25 rfl rfl rfl ?_
    by_cases hk0 : a = 0
    · subst hk0
      refine wm_tableIn (q := 52) hg dX4_set_26 (by decide) (by decide) rfl (by decide) ?_
      have eX : setX (M.1 1 0) 0 v = oI (M.1 1 0) 4 v := rfl
      refine wm_aload_n (q := 53) (i := 3) hg dX4_set_52 rfl rfl rfl ?_
      refine wm_iload_n (q := 54) (i := 2) hg dX4_set_53 rfl rfl rfl ?_
      refine wm_put (q := 57) hg dX4_set_54 rfl fl_X4_139 (by first | assumption | decide | omega | (simp only [nO]; omega)) rfl ?_
      refine wm_mem (M' := setP (recM M) (setX (M.1 1 0) 0 v) (M.1 0 0)) (by simp only [sI, setP_c, setP_b, setP_1, setP_0, eX]) ?_
      refine wm_goto (q := 81) hg dX4_set_57 (by decide) ?_
      refine wm_aload_n (q := 82) (i := 0) hg dX4_set_81 rfl rfl rfl ?_
      refine wm_iload (q := 84) (i := 4) hg dX4_set_82 rfl rfl ?_
      refine wm_callV1 (q := 87) hg dX4_set_84 rfl lk_X4_90 (by decide) (c_endCh (by rw [eX]; exact ok10_set hz v (by decide)) hB) (by first | assumption | decide | omega | (simp only [nO]; omega)) ⟨rfl, by decide⟩ rfl rfl (Nat.le_of_ble_eq_true rfl) ?_
      exact wm_iret hg hr dX4_set_87 (by simp only [fSet, if_neg h1, chN]) (by simp only [fSet, if_neg h1, chM])
    · by_cases hk1 : a = 1
      · subst hk1
        refine wm_tableIn (q := 60) hg dX4_set_26 (by decide) (by decide) rfl (by decide) ?_
        have eX : setX (M.1 1 0) 1 v = oI (M.1 1 0) 5 v := rfl
        refine wm_aload_n (q := 61) (i := 3) hg dX4_set_60 rfl rfl rfl ?_
        refine wm_iload_n (q := 62) (i := 2) hg dX4_set_61 rfl rfl rfl ?_
        refine wm_put (q := 65) hg dX4_set_62 rfl fl_X4_142 (by first | assumption | decide | omega | (simp only [nO]; omega)) rfl ?_
        refine wm_mem (M' := setP (recM M) (setX (M.1 1 0) 1 v) (M.1 0 0)) (by simp only [sI, setP_c, setP_b, setP_1, setP_0, eX]) ?_
        refine wm_goto (q := 81) hg dX4_set_65 (by decide) ?_
        refine wm_aload_n (q := 82) (i := 0) hg dX4_set_81 rfl rfl rfl ?_
        refine wm_iload (q := 84) (i := 4) hg dX4_set_82 rfl rfl ?_
        refine wm_callV1 (q := 87) hg dX4_set_84 rfl lk_X4_90 (by decide) (c_endCh (by rw [eX]; exact ok10_set hz v (by decide)) hB) (by first | assumption | decide | omega | (simp only [nO]; omega)) ⟨rfl, by decide⟩ rfl rfl (Nat.le_of_ble_eq_true rfl) ?_
        exact wm_iret hg hr dX4_set_87 (by simp only [fSet, if_neg h1, chN]) (by simp only [fSet, if_neg h1, chM])
      · by_cases hk2 : a = 2
        · subst hk2
          refine wm_tableIn (q := 68) hg dX4_set_26 (by decide) (by decide) rfl (by decide) ?_
          have eX : setX (M.1 1 0) 2 v = oI (M.1 1 0) 6 v := rfl
          refine wm_aload_n (q := 69) (i := 3) hg dX4_set_68 rfl rfl rfl ?_
          refine wm_iload_n (q := 70) (i := 2) hg dX4_set_69 rfl rfl rfl ?_
          refine wm_put (q := 73) hg dX4_set_70 rfl fl_X4_145 (by first | assumption | decide | omega | (simp only [nO]; omega)) rfl ?_
          refine wm_mem (M' := setP (recM M) (setX (M.1 1 0) 2 v) (M.1 0 0)) (by simp only [sI, setP_c, setP_b, setP_1, setP_0, eX]) ?_
          refine wm_goto (q := 81) hg dX4_set_73 (by decide) ?_
          refine wm_aload_n (q := 82) (i := 0) hg dX4_set_81 rfl rfl rfl ?_
          refine wm_iload (q := 84) (i := 4) hg dX4_set_82 rfl rfl ?_
          refine wm_callV1 (q := 87) hg dX4_set_84 rfl lk_X4_90 (by decide) (c_endCh (by rw [eX]; exact ok10_set hz v (by decide)) hB) (by first | assumption | decide | omega | (simp only [nO]; omega)) ⟨rfl, by decide⟩ rfl rfl (Nat.le_of_ble_eq_true rfl) ?_
          exact wm_iret hg hr dX4_set_87 (by simp only [fSet, if_neg h1, chN]) (by simp only [fSet, if_neg h1, chM])
        · have hj0 : a.toInt ≠ 0 := fun z => hk0 (Int32.toInt_inj.mp (z.trans (by decide)))
          have hj1 : a.toInt ≠ 1 := fun z => hk1 (Int32.toInt_inj.mp (z.trans (by decide)))
          have hj2 : a.toInt ≠ 2 := fun z => hk2 (Int32.toInt_inj.mp (z.trans (by decide)))
          refine wm_tableOut (q := 76) hg dX4_set_26 (by omega) (by decide) ?_
          have eX : setX (M.1 1 0) a v = oI (M.1 1 0) 7 v := by simp only [setX, if_neg hk0, if_neg hk1, if_neg hk2]
          refine wm_aload_n (q := 77) (i := 3) hg dX4_set_76 rfl rfl rfl ?_
          refine wm_iload_n (q := 78) (i := 2) hg dX4_set_77 rfl rfl rfl ?_
          refine wm_put (q := 81) hg dX4_set_78 rfl fl_X4_148 (by first | assumption | decide | omega | (simp only [nO]; omega)) rfl ?_
          refine wm_mem (M' := setP (recM M) (setX (M.1 1 0) a v) (M.1 0 0)) (by simp only [sI, setP_c, setP_b, setP_1, setP_0, eX]) ?_
          refine wm_aload_n (q := 82) (i := 0) hg dX4_set_81 rfl rfl rfl ?_
          refine wm_iload (q := 84) (i := 4) hg dX4_set_82 rfl rfl ?_
          refine wm_callV1 (q := 87) hg dX4_set_84 rfl lk_X4_90 (by decide) (c_endCh (by rw [eX]; exact ok10_set hz v (by decide)) hB) (by first | assumption | decide | omega | (simp only [nO]; omega)) ⟨rfl, by decide⟩ rfl rfl (Nat.le_of_ble_eq_true rfl) ?_
          exact wm_iret hg hr dX4_set_87 (by simp only [fSet, if_neg h1, chN]) (by simp only [fSet, if_neg h1, chM])
  · refine wm_ldc (q := 10) (-1000000001) hg dX4_set_8 rfl ld_X4_49 ?_
    exact wm_iret hg hr dX4_set_10 (by simp only [fSet, if_pos h1]) (by simp only [fSet, if_pos h1])
set_option maxRecDepth 100000 in
set_option maxHeartbeats 4000000 in
theorem c_X4_undo {Γ : GT} {M : Mem}  (hI : InvC M) : Ct Γ yX4_undo cX4_undo 1 (some .int) 5 [.ref (ad Γ 4 0 0)] M (some (.int (fUndo M).1)) (fUndo M).2 := by
  refine ct_of (by decide) (Nat.le_of_ble_eq_true rfl) (fun K hg hr => ?_)
  show WM Γ K _ [(0, _)] 0 []
  obtain ⟨hU, hC, hBB, hT⟩ := hI
  have hz := hC 0 (by decide)
  have hB := hBB 0 (by decide)
  have hz2 := hz.2
  refine wm_aload_n (q := 1) (i := 0) hg dX4_undo_0 rfl rfl rfl ?_
  refine wm_get (q := 4) hg dX4_undo_1 rfl fl_X4_20 (by first | assumption | decide | omega | (simp only [nO]; omega)) rfl ?_
  refine wm_if_le (q := 19) (q2 := 7) hg dX4_undo_4 (by decide) rfl (fun h1 => ?_) (fun h1 => ?_)
  · have h1n := Int32.not_lt.mpr h1
    refine wm_ldc (q := 21) (-1000000002) hg dX4_undo_19 rfl ld_X4_97 ?_
    exact wm_iret hg hr dX4_undo_21 (by simp only [fUndo, if_neg h1n]) (by simp only [fUndo, if_neg h1n])
  · have h1n := Int32.not_le.mp h1
    refine wm_aload_n (q := 8) (i := 0) hg dX4_undo_7 rfl rfl rfl ?_
    refine wm_get (q := 11) hg dX4_undo_8 rfl fl_X4_20 (by first | assumption | decide | omega | (simp only [nO]; omega)) rfl ?_
    refine wm_aload_n (q := 12) (i := 0) hg dX4_undo_11 rfl rfl rfl ?_
    refine wm_get (q := 15) hg dX4_undo_12 rfl fl_X4_16 (by first | assumption | decide | omega | (simp only [nO]; omega)) rfl ?_
    refine wm_alenR (q := 16) (v := 8) hg dX4_undo_15 rfl (Or.inl ⟨rfl, rfl⟩) ?_
    refine wm_icmp_le (q := 22) (q2 := 19) hg dX4_undo_16 (by decide) rfl (fun h2 => ?_) (fun h2 => ?_)
    · have hun : 1 ≤ unN M := by
        rcases Nat.lt_or_ge (unN M) 1 with q | q
        · exact absurd h1n (by rw [hU.1, show unN M = 0 by omega]; decide)
        · exact q
      have hu8 := hU.2.1
      have hh := hU.2.2.1 (unN M - 1) (by omega)
      refine wm_aload_n (q := 23) (i := 0) hg dX4_undo_22 rfl rfl rfl ?_
      refine wm_dup (q := 24) hg dX4_undo_23 rfl rfl ?_
      refine wm_get (q := 27) hg dX4_undo_24 rfl fl_X4_20 (by first | assumption | decide | omega | (simp only [nO]; omega)) rfl ?_
      refine wm_iconst (q := 28) 1 hg dX4_undo_27 rfl (by decide) ?_
      refine wm_isub (q := 29) hg dX4_undo_28 rfl ?_
      refine wm_put (q := 32) hg dX4_undo_29 rfl fl_X4_20 (by first | assumption | decide | omega | (simp only [nO]; omega)) rfl ?_
      refine wm_aload_n (q := 33) (i := 0) hg dX4_undo_32 rfl rfl rfl ?_
      refine wm_get (q := 36) hg dX4_undo_33 rfl fl_X4_10 (by first | assumption | decide | omega | (simp only [nO]; omega)) rfl ?_
      refine wm_aload_n (q := 37) (i := 0) hg dX4_undo_36 rfl rfl rfl ?_
      refine wm_get (q := 40) hg dX4_undo_37 rfl fl_X4_16 (by first | assumption | decide | omega | (simp only [nO]; omega)) rfl ?_
      refine wm_aload_n (q := 41) (i := 0) hg dX4_undo_40 rfl rfl rfl ?_
      refine wm_get (q := 44) hg dX4_undo_41 rfl fl_X4_20 (by first | assumption | decide | omega | (simp only [nO]; omega)) rfl ?_
      refine wm_hload (q := 45) (unN M - 1) hg dX4_undo_44 rfl (by rw [sO_same]; simp only [oI, upd_same]; exact nsub hU.1 rfl hun) (by omega) ?_
      refine wm_callV0 (q := 48) hg dX4_undo_45 rfl lk_X4_155 (by decide) (c_X2_takeFrom (by decide) (by show M.2 (unN M - 1) < 11; omega) (by show 0 ≠ M.2 (unN M - 1); omega)) (by first | assumption | decide | omega | (simp only [nO]; omega)) ⟨rfl, by decide⟩ rfl rfl (Nat.le_of_ble_eq_true rfl) ?_
      refine wm_aload_n (q := 49) (i := 0) hg dX4_undo_48 rfl rfl rfl ?_
      refine wm_get (q := 52) hg dX4_undo_49 rfl fl_X4_20 (by first | assumption | decide | omega | (simp only [nO]; omega)) rfl ?_
      exact wm_iret hg hr dX4_undo_52 (by simp only [fUndo, if_pos h1n, sI, sO_kind _ _ _ _ (show (4:Nat) ≠ 0 by decide), sO_kind _ _ _ _ (show (4:Nat) ≠ 1 by decide), sO_same, oI, upd_same]) (by simp only [fUndo, if_pos h1n, setP, sI, sO_kind _ _ _ _ (show (0:Nat) ≠ 4 by decide), sO_kind _ _ _ _ (show (1:Nat) ≠ 4 by decide), sO_hist])
    · exact absurd (show (M.1 4 0).1 2 ≤ 8 by rw [hU.1]; exact nI_le (a := unN M) (b := 8) hU.2.1 (by decide)) h2
set_option maxRecDepth 100000 in
set_option maxHeartbeats 4000000 in
theorem c_X4_told {Γ : GT} {M : Mem} {v : Int32} (hI : InvC M) : Ct Γ yX4_told cX4_told 4 (some .int) 3 [.ref (ad Γ 4 0 0), .int v] M (some (.int (fTold M v))) M := by
  refine ct_of (by decide) (Nat.le_of_ble_eq_true rfl) (fun K hg hr => ?_)
  show WM Γ K _ [(0, _), (1, _)] 0 []
  obtain ⟨hU, hC, hBB, hT⟩ := hI
  have hz := hC 0 (by decide)
  have hB := hBB 0 (by decide)
  have hz2 := hz.2
  refine wm_aload_n (q := 1) (i := 0) hg dX4_told_0 rfl rfl rfl ?_
  refine wm_get (q := 4) hg dX4_told_1 rfl fl_X4_10 (by first | assumption | decide | omega | (simp only [nO]; omega)) rfl ?_
  refine wm_get (q := 7) hg dX4_told_4 rfl fl_X4_50 (by first | assumption | decide | omega | (simp only [nO]; omega)) rfl ?_
  refine wm_astore_n (q := 8) (i := 2) (L' := [(0, _), (1, _), (2, _)]) hg dX4_told_7 rfl rfl rfl rfl ?_
  refine wm_aload_n (q := 9) (i := 0) hg dX4_told_8 rfl rfl rfl ?_
  refine wm_get (q := 12) hg dX4_told_9 rfl fl_X4_10 (by first | assumption | decide | omega | (simp only [nO]; omega)) rfl ?_
  refine wm_get (q := 15) hg dX4_told_12 rfl fl_X4_64 (by first | assumption | decide | omega | (simp only [nO]; omega)) rfl ?_
  refine wm_astore_n (q := 16) (i := 3) (L' := [(0, _), (1, _), (2, _), (3, _)]) hg dX4_told_15 rfl rfl rfl rfl ?_
  refine wm_iload_n (q := 17) (i := 1) hg dX4_told_16 rfl rfl rfl ?_
  by_cases hk0 : v = 0
  · subst hk0
    refine wm_tableIn (q := 96) hg dX4_told_17 (by decide) (by decide) rfl (by decide) ?_
    refine wm_aload_n (q := 97) (i := 2) hg dX4_told_96 rfl rfl rfl ?_
    refine wm_get (q := 100) hg dX4_told_97 rfl fl_X4_54 (by first | assumption | decide | omega | (simp only [nO]; omega)) rfl ?_
    exact wm_iret hg hr dX4_told_100 (rfl) (rfl)
  · by_cases hk1 : v = 1
    · subst hk1
      refine wm_tableIn (q := 101) hg dX4_told_17 (by decide) (by decide) rfl (by decide) ?_
      refine wm_aload_n (q := 102) (i := 2) hg dX4_told_101 rfl rfl rfl ?_
      refine wm_callV1 (q := 105) hg dX4_told_102 rfl lk_X4_159 (by decide) (c_X1_energy (by first | assumption | decide | omega) (by first | assumption | decide | omega)) (by first | assumption | decide | omega | (simp only [nO]; omega)) ⟨rfl, by decide⟩ rfl rfl (Nat.le_of_ble_eq_true rfl) ?_
      exact wm_iret hg hr dX4_told_105 (rfl) (rfl)
    · by_cases hk2 : v = 2
      · subst hk2
        refine wm_tableIn (q := 106) hg dX4_told_17 (by decide) (by decide) rfl (by decide) ?_
        refine wm_aload_n (q := 107) (i := 3) hg dX4_told_106 rfl rfl rfl ?_
        refine wm_get (q := 110) hg dX4_told_107 rfl fl_X4_162 (by first | assumption | decide | omega | (simp only [nO]; omega)) rfl ?_
        exact wm_iret hg hr dX4_told_110 (rfl) (rfl)
      · by_cases hk3 : v = 3
        · subst hk3
          refine wm_tableIn (q := 111) hg dX4_told_17 (by decide) (by decide) rfl (by decide) ?_
          refine wm_aload_n (q := 112) (i := 3) hg dX4_told_111 rfl rfl rfl ?_
          refine wm_get (q := 115) hg dX4_told_112 rfl fl_X4_165 (by first | assumption | decide | omega | (simp only [nO]; omega)) rfl ?_
          exact wm_iret hg hr dX4_told_115 (rfl) (rfl)
        · by_cases hk4 : v = 4
          · subst hk4
            refine wm_tableIn (q := 116) hg dX4_told_17 (by decide) (by decide) rfl (by decide) ?_
            refine wm_aload_n (q := 117) (i := 2) hg dX4_told_116 rfl rfl rfl ?_
            refine wm_get (q := 120) hg dX4_told_117 rfl fl_X4_139 (by first | assumption | decide | omega | (simp only [nO]; omega)) rfl ?_
            exact wm_iret hg hr dX4_told_120 (rfl) (rfl)
          · by_cases hk5 : v = 5
            · subst hk5
              refine wm_tableIn (q := 121) hg dX4_told_17 (by decide) (by decide) rfl (by decide) ?_
              refine wm_aload_n (q := 122) (i := 2) hg dX4_told_121 rfl rfl rfl ?_
              refine wm_get (q := 125) hg dX4_told_122 rfl fl_X4_142 (by first | assumption | decide | omega | (simp only [nO]; omega)) rfl ?_
              exact wm_iret hg hr dX4_told_125 (rfl) (rfl)
            · by_cases hk6 : v = 6
              · subst hk6
                refine wm_tableIn (q := 126) hg dX4_told_17 (by decide) (by decide) rfl (by decide) ?_
                refine wm_aload_n (q := 127) (i := 2) hg dX4_told_126 rfl rfl rfl ?_
                refine wm_get (q := 130) hg dX4_told_127 rfl fl_X4_145 (by first | assumption | decide | omega | (simp only [nO]; omega)) rfl ?_
                exact wm_iret hg hr dX4_told_130 (rfl) (rfl)
              · by_cases hk7 : v = 7
                · subst hk7
                  refine wm_tableIn (q := 131) hg dX4_told_17 (by decide) (by decide) rfl (by decide) ?_
                  refine wm_aload_n (q := 132) (i := 2) hg dX4_told_131 rfl rfl rfl ?_
                  refine wm_get (q := 135) hg dX4_told_132 rfl fl_X4_148 (by first | assumption | decide | omega | (simp only [nO]; omega)) rfl ?_
                  exact wm_iret hg hr dX4_told_135 (rfl) (rfl)
                · by_cases hk8 : v = 8
                  · subst hk8
                    refine wm_tableIn (q := 136) hg dX4_told_17 (by decide) (by decide) rfl (by decide) ?_
                    refine wm_aload_n (q := 137) (i := 3) hg dX4_told_136 rfl rfl rfl ?_
                    refine wm_get (q := 140) hg dX4_told_137 rfl fl_X4_168 (by first | assumption | decide | omega | (simp only [nO]; omega)) rfl ?_
                    exact wm_iret hg hr dX4_told_140 (rfl) (rfl)
                  · by_cases hk9 : v = 9
                    · subst hk9
                      refine wm_tableIn (q := 141) hg dX4_told_17 (by decide) (by decide) rfl (by decide) ?_
                      refine wm_aload_n (q := 142) (i := 3) hg dX4_told_141 rfl rfl rfl ?_
                      refine wm_get (q := 145) hg dX4_told_142 rfl fl_X4_132 (by first | assumption | decide | omega | (simp only [nO]; omega)) rfl ?_
                      exact wm_iret hg hr dX4_told_145 (rfl) (rfl)
                    · by_cases hk10 : v = 10
                      · subst hk10
                        refine wm_tableIn (q := 146) hg dX4_told_17 (by decide) (by decide) rfl (by decide) ?_
                        refine wm_aload_n (q := 147) (i := 3) hg dX4_told_146 rfl rfl rfl ?_
                        refine wm_get (q := 150) hg dX4_told_147 rfl fl_X4_171 (by first | assumption | decide | omega | (simp only [nO]; omega)) rfl ?_
                        exact wm_iret hg hr dX4_told_150 (rfl) (rfl)
                      · by_cases hk11 : v = 11
                        · subst hk11
                          refine wm_tableIn (q := 151) hg dX4_told_17 (by decide) (by decide) rfl (by decide) ?_
                          refine wm_aload_n (q := 152) (i := 2) hg dX4_told_151 rfl rfl rfl ?_
                          refine wm_callV1 (q := 155) hg dX4_told_152 rfl lk_X4_174 (by decide) (c_X1_walls (by first | assumption | decide | omega) (by first | assumption | decide | omega)) (by first | assumption | decide | omega | (simp only [nO]; omega)) ⟨rfl, by decide⟩ rfl rfl (Nat.le_of_ble_eq_true rfl) ?_
                          exact wm_iret hg hr dX4_told_155 (rfl) (rfl)
                        · by_cases hk12 : v = 12
                          · subst hk12
                            refine wm_tableIn (q := 156) hg dX4_told_17 (by decide) (by decide) rfl (by decide) ?_
                            refine wm_aload_n (q := 157) (i := 2) hg dX4_told_156 rfl rfl rfl ?_
                            refine wm_callV1 (q := 160) hg dX4_told_157 rfl lk_X4_177 (by decide) (c_X1_goalsMissed (by first | assumption | decide | omega) (by first | assumption | decide | omega)) (by first | assumption | decide | omega | (simp only [nO]; omega)) ⟨rfl, by decide⟩ rfl rfl (Nat.le_of_ble_eq_true rfl) ?_
                            exact wm_iret hg hr dX4_told_160 (rfl) (rfl)
                          · by_cases hk13 : v = 13
                            · subst hk13
                              refine wm_tableIn (q := 161) hg dX4_told_17 (by decide) (by decide) rfl (by decide) ?_
                              refine wm_aload_n (q := 162) (i := 2) hg dX4_told_161 rfl rfl rfl ?_
                              refine wm_callV1 (q := 165) hg dX4_told_162 rfl lk_X4_180 (by decide) (c_X1_heldOnes (by first | assumption | decide | omega) (by first | assumption | decide | omega)) (by first | assumption | decide | omega | (simp only [nO]; omega)) ⟨rfl, by decide⟩ rfl rfl (Nat.le_of_ble_eq_true rfl) ?_
                              exact wm_iret hg hr dX4_told_165 (rfl) (rfl)
                            · by_cases hk14 : v = 14
                              · subst hk14
                                refine wm_tableIn (q := 166) hg dX4_told_17 (by decide) (by decide) rfl (by decide) ?_
                                refine wm_aload_n (q := 167) (i := 0) hg dX4_told_166 rfl rfl rfl ?_
                                refine wm_get (q := 170) hg dX4_told_167 rfl fl_X4_34 (by first | assumption | decide | omega | (simp only [nO]; omega)) rfl ?_
                                refine wm_get (q := 173) hg dX4_told_170 rfl fl_X4_183 (by first | assumption | decide | omega | (simp only [nO]; omega)) rfl ?_
                                exact wm_iret hg hr dX4_told_173 (rfl) (rfl)
                              · by_cases hk15 : v = 15
                                · subst hk15
                                  refine wm_tableIn (q := 174) hg dX4_told_17 (by decide) (by decide) rfl (by decide) ?_
                                  refine wm_aload_n (q := 175) (i := 0) hg dX4_told_174 rfl rfl rfl ?_
                                  refine wm_get (q := 178) hg dX4_told_175 rfl fl_X4_20 (by first | assumption | decide | omega | (simp only [nO]; omega)) rfl ?_
                                  exact wm_iret hg hr dX4_told_178 (rfl) (rfl)
                                · have hj0 : v.toInt ≠ 0 := fun z => hk0 (Int32.toInt_inj.mp (z.trans (by decide)))
                                  have hj1 : v.toInt ≠ 1 := fun z => hk1 (Int32.toInt_inj.mp (z.trans (by decide)))
                                  have hj2 : v.toInt ≠ 2 := fun z => hk2 (Int32.toInt_inj.mp (z.trans (by decide)))
                                  have hj3 : v.toInt ≠ 3 := fun z => hk3 (Int32.toInt_inj.mp (z.trans (by decide)))
                                  have hj4 : v.toInt ≠ 4 := fun z => hk4 (Int32.toInt_inj.mp (z.trans (by decide)))
                                  have hj5 : v.toInt ≠ 5 := fun z => hk5 (Int32.toInt_inj.mp (z.trans (by decide)))
                                  have hj6 : v.toInt ≠ 6 := fun z => hk6 (Int32.toInt_inj.mp (z.trans (by decide)))
                                  have hj7 : v.toInt ≠ 7 := fun z => hk7 (Int32.toInt_inj.mp (z.trans (by decide)))
                                  have hj8 : v.toInt ≠ 8 := fun z => hk8 (Int32.toInt_inj.mp (z.trans (by decide)))
                                  have hj9 : v.toInt ≠ 9 := fun z => hk9 (Int32.toInt_inj.mp (z.trans (by decide)))
                                  have hj10 : v.toInt ≠ 10 := fun z => hk10 (Int32.toInt_inj.mp (z.trans (by decide)))
                                  have hj11 : v.toInt ≠ 11 := fun z => hk11 (Int32.toInt_inj.mp (z.trans (by decide)))
                                  have hj12 : v.toInt ≠ 12 := fun z => hk12 (Int32.toInt_inj.mp (z.trans (by decide)))
                                  have hj13 : v.toInt ≠ 13 := fun z => hk13 (Int32.toInt_inj.mp (z.trans (by decide)))
                                  have hj14 : v.toInt ≠ 14 := fun z => hk14 (Int32.toInt_inj.mp (z.trans (by decide)))
                                  have hj15 : v.toInt ≠ 15 := fun z => hk15 (Int32.toInt_inj.mp (z.trans (by decide)))
                                  refine wm_tableOut (q := 179) hg dX4_told_17 (by omega) (by decide) ?_
                                  refine wm_ldc (q := 181) (-1000000001) hg dX4_told_179 rfl ld_X4_49 ?_
                                  exact wm_iret hg hr dX4_told_181 (by simp only [fTold, if_neg hk0, if_neg hk1, if_neg hk2, if_neg hk3, if_neg hk4, if_neg hk5, if_neg hk6, if_neg hk7, if_neg hk8, if_neg hk9, if_neg hk10, if_neg hk11, if_neg hk12, if_neg hk13, if_neg hk14, if_neg hk15]) (rfl)
set_option maxRecDepth 100000 in
set_option maxHeartbeats 4000000 in
theorem c_X4_magnet {Γ : GT} {M : Mem} {i v : Int32} (hI : InvC M) : Ct Γ yX4_magnet cX4_magnet 4 (some .int) 4 [.ref (ad Γ 4 0 0), .int i, .int v] M (some (.int (fMag M i v))) M := by
  refine ct_of (by decide) (Nat.le_of_ble_eq_true rfl) (fun K hg hr => ?_)
  show WM Γ K _ [(0, _), (1, _), (2, _)] 0 []
  obtain ⟨hU, hC, hBB, hT⟩ := hI
  have hz := hC 0 (by decide)
  have hB := hBB 0 (by decide)
  have hz2 := hz.2
  refine wm_aload_n (q := 1) (i := 0) hg dX4_magnet_0 rfl rfl rfl ?_
  refine wm_iload_n (q := 2) (i := 1) hg dX4_magnet_1 rfl rfl rfl ?_
  refine wm_callV1 (q := 5) hg dX4_magnet_2 rfl lk_X4_94 (by decide) c_X4_isMagnet (by first | assumption | decide | omega | (simp only [nO]; omega)) ⟨rfl, by decide⟩ rfl rfl (Nat.le_of_ble_eq_true rfl) ?_
  refine wm_if_ne (q := 11) (q2 := 8) hg dX4_magnet_5 (by decide) rfl (fun h1 => ?_) (fun h1 => ?_)
  · obtain ⟨hi1, hi2, hi3⟩ := wthn_sz hz h1
    refine wm_aload_n (q := 12) (i := 0) hg dX4_magnet_11 rfl rfl rfl ?_
    refine wm_get (q := 15) hg dX4_magnet_12 rfl fl_X4_10 (by first | assumption | decide | omega | (simp only [nO]; omega)) rfl ?_
    refine wm_get (q := 18) hg dX4_magnet_15 rfl fl_X4_50 (by first | assumption | decide | omega | (simp only [nO]; omega)) rfl ?_
    refine wm_astore_n (q := 19) (i := 3) (L' := [(0, _), (1, _), (2, _), (3, _)]) hg dX4_magnet_18 rfl rfl rfl rfl ?_
    refine wm_iload_n (q := 20) (i := 2) hg dX4_magnet_19 rfl rfl rfl ?_
    by_cases hk0 : v = 0
    · subst hk0
      refine wm_tableIn (q := 60) hg dX4_magnet_20 (by decide) (by decide) rfl (by decide) ?_
      refine wm_aload_n (q := 61) (i := 3) hg dX4_magnet_60 rfl rfl rfl ?_
      refine wm_get (q := 64) hg dX4_magnet_61 rfl fl_X4_98 (by first | assumption | decide | omega | (simp only [nO]; omega)) rfl ?_
      refine wm_iload_n (q := 65) (i := 1) hg dX4_magnet_64 rfl rfl rfl ?_
      refine wm_iaload (q := 66) i.toNatClampNeg hg dX4_magnet_65 rfl (by first | assumption | decide | omega | (simp only [nO]; omega)) rfl hi1 (by simp only [alen]; omega) ?_
      exact wm_iret hg hr dX4_magnet_66 (by simp only [fMag, if_neg h1]; rfl) (rfl)
    · by_cases hk1 : v = 1
      · subst hk1
        refine wm_tableIn (q := 67) hg dX4_magnet_20 (by decide) (by decide) rfl (by decide) ?_
        refine wm_aload_n (q := 68) (i := 3) hg dX4_magnet_67 rfl rfl rfl ?_
        refine wm_get (q := 71) hg dX4_magnet_68 rfl fl_X4_105 (by first | assumption | decide | omega | (simp only [nO]; omega)) rfl ?_
        refine wm_iload_n (q := 72) (i := 1) hg dX4_magnet_71 rfl rfl rfl ?_
        refine wm_iaload (q := 73) i.toNatClampNeg hg dX4_magnet_72 rfl (by first | assumption | decide | omega | (simp only [nO]; omega)) rfl hi1 (by simp only [alen]; omega) ?_
        exact wm_iret hg hr dX4_magnet_73 (by simp only [fMag, if_neg h1]; rfl) (rfl)
      · by_cases hk2 : v = 2
        · subst hk2
          refine wm_tableIn (q := 74) hg dX4_magnet_20 (by decide) (by decide) rfl (by decide) ?_
          refine wm_aload_n (q := 75) (i := 3) hg dX4_magnet_74 rfl rfl rfl ?_
          refine wm_get (q := 78) hg dX4_magnet_75 rfl fl_X4_152 (by first | assumption | decide | omega | (simp only [nO]; omega)) rfl ?_
          refine wm_iload_n (q := 79) (i := 1) hg dX4_magnet_78 rfl rfl rfl ?_
          refine wm_iaload (q := 80) i.toNatClampNeg hg dX4_magnet_79 rfl (by first | assumption | decide | omega | (simp only [nO]; omega)) rfl hi1 (by simp only [alen]; omega) ?_
          exact wm_iret hg hr dX4_magnet_80 (by simp only [fMag, if_neg h1]; rfl) (rfl)
        · by_cases hk3 : v = 3
          · subst hk3
            refine wm_tableIn (q := 81) hg dX4_magnet_20 (by decide) (by decide) rfl (by decide) ?_
            refine wm_aload_n (q := 82) (i := 3) hg dX4_magnet_81 rfl rfl rfl ?_
            refine wm_iload_n (q := 83) (i := 1) hg dX4_magnet_82 rfl rfl rfl ?_
            refine wm_iconst (q := 84) 1 hg dX4_magnet_83 rfl (by decide) ?_
            refine wm_callV1 (q := 87) hg dX4_magnet_84 rfl lk_X4_186 (by decide) (c_X1_freedBy (by first | assumption | decide | omega) (by first | assumption | decide | omega) hi1 (by omega)) (by first | assumption | decide | omega | (simp only [nO]; omega)) ⟨rfl, by decide⟩ rfl rfl (Nat.le_of_ble_eq_true rfl) ?_
            exact wm_iret hg hr dX4_magnet_87 (by simp only [fMag, if_neg h1]; rfl) (rfl)
          · by_cases hk4 : v = 4
            · subst hk4
              refine wm_tableIn (q := 88) hg dX4_magnet_20 (by decide) (by decide) rfl (by decide) ?_
              refine wm_aload_n (q := 89) (i := 3) hg dX4_magnet_88 rfl rfl rfl ?_
              refine wm_iload_n (q := 90) (i := 1) hg dX4_magnet_89 rfl rfl rfl ?_
              refine wm_iconst (q := 91) (-1) hg dX4_magnet_90 rfl (by decide) ?_
              refine wm_callV1 (q := 94) hg dX4_magnet_91 rfl lk_X4_186 (by decide) (c_X1_freedBy (by first | assumption | decide | omega) (by first | assumption | decide | omega) hi1 (by omega)) (by first | assumption | decide | omega | (simp only [nO]; omega)) ⟨rfl, by decide⟩ rfl rfl (Nat.le_of_ble_eq_true rfl) ?_
              exact wm_iret hg hr dX4_magnet_94 (by simp only [fMag, if_neg h1]; rfl) (rfl)
            · by_cases hk5 : v = 5
              · subst hk5
                refine wm_tableIn (q := 95) hg dX4_magnet_20 (by decide) (by decide) rfl (by decide) ?_
                refine wm_aload_n (q := 96) (i := 3) hg dX4_magnet_95 rfl rfl rfl ?_
                refine wm_iload_n (q := 97) (i := 1) hg dX4_magnet_96 rfl rfl rfl ?_
                refine wm_aload_n (q := 98) (i := 3) hg dX4_magnet_97 rfl rfl rfl ?_
                refine wm_get (q := 101) hg dX4_magnet_98 rfl fl_X4_98 (by first | assumption | decide | omega | (simp only [nO]; omega)) rfl ?_
                refine wm_iload_n (q := 102) (i := 1) hg dX4_magnet_101 rfl rfl rfl ?_
                refine wm_iaload (q := 103) i.toNatClampNeg hg dX4_magnet_102 rfl (by first | assumption | decide | omega | (simp only [nO]; omega)) rfl hi1 (by simp only [alen]; omega) ?_
                refine wm_callV1 (q := 106) hg dX4_magnet_103 rfl lk_X4_190 (by decide) (c_X1_partOf (by first | assumption | decide | omega) (by first | assumption | decide | omega)) (by first | assumption | decide | omega | (simp only [nO]; omega)) ⟨rfl, by decide⟩ rfl rfl (Nat.le_of_ble_eq_true rfl) ?_
                exact wm_iret hg hr dX4_magnet_106 (by simp only [fMag, if_neg h1]; rfl) (rfl)
              · have hj0 : v.toInt ≠ 0 := fun z => hk0 (Int32.toInt_inj.mp (z.trans (by decide)))
                have hj1 : v.toInt ≠ 1 := fun z => hk1 (Int32.toInt_inj.mp (z.trans (by decide)))
                have hj2 : v.toInt ≠ 2 := fun z => hk2 (Int32.toInt_inj.mp (z.trans (by decide)))
                have hj3 : v.toInt ≠ 3 := fun z => hk3 (Int32.toInt_inj.mp (z.trans (by decide)))
                have hj4 : v.toInt ≠ 4 := fun z => hk4 (Int32.toInt_inj.mp (z.trans (by decide)))
                have hj5 : v.toInt ≠ 5 := fun z => hk5 (Int32.toInt_inj.mp (z.trans (by decide)))
                refine wm_tableOut (q := 107) hg dX4_magnet_20 (by omega) (by decide) ?_
                refine wm_ldc (q := 109) (-1000000001) hg dX4_magnet_107 rfl ld_X4_49 ?_
                exact wm_iret hg hr dX4_magnet_109 (by simp only [fMag, if_neg h1, if_neg hk0, if_neg hk1, if_neg hk2, if_neg hk3, if_neg hk4, if_neg hk5]) (rfl)
  · refine wm_ldc (q := 10) (-1000000001) hg dX4_magnet_8 rfl ld_X4_49 ?_
    exact wm_iret hg hr dX4_magnet_10 (by simp only [fMag, if_pos h1]) (rfl)
set_option maxRecDepth 100000 in
set_option maxHeartbeats 4000000 in
theorem c_X4_log {Γ : GT} {M : Mem} {k v : Int32} (hI : InvC M) : Ct Γ yX4_log cX4_log 5 (some .int) 2 [.ref (ad Γ 4 0 0), .int k, .int v] M (some (.int (fLog M k v))) M := by
  refine ct_of (by decide) (Nat.le_of_ble_eq_true rfl) (fun K hg hr => ?_)
  show WM Γ K _ [(0, _), (1, _), (2, _)] 0 []
  obtain ⟨hU, hC, hBB, hT⟩ := hI
  have hz := hC 0 (by decide)
  have hB := hBB 0 (by decide)
  have hz2 := hz.2
  refine wm_iload_n (q := 1) (i := 1) hg dX4_log_0 rfl rfl rfl ?_
  refine wm_if_lt (q := 13) (q2 := 4) hg dX4_log_1 (by decide) rfl (fun h1 => ?_) (fun h1 => ?_)
  · refine wm_ldc (q := 15) (-1000000001) hg dX4_log_13 rfl ld_X4_49 ?_
    exact wm_iret hg hr dX4_log_15 (by simp only [fLog, if_pos h1]) (rfl)
  · refine wm_iload_n (q := 5) (i := 2) hg dX4_log_4 rfl rfl rfl ?_
    refine wm_iconst (q := 6) 0 hg dX4_log_5 rfl (by decide) ?_
    refine wm_iconst (q := 7) 2 hg dX4_log_6 rfl (by decide) ?_
    refine wm_callS1 (q := 10) hg dX4_log_7 rfl lk_X4_45 (by decide) c_X4_isWithin rfl rfl (Nat.le_of_ble_eq_true rfl) ?_
    refine wm_if_ne (q := 16) (q2 := 13) hg dX4_log_10 (by decide) rfl (fun h2 => ?_) (fun h2 => ?_)
    · refine wm_aload_n (q := 17) (i := 0) hg dX4_log_16 rfl rfl rfl ?_
      refine wm_get (q := 20) hg dX4_log_17 rfl fl_X4_10 (by first | assumption | decide | omega | (simp only [nO]; omega)) rfl ?_
      refine wm_get (q := 23) hg dX4_log_20 rfl fl_X4_64 (by first | assumption | decide | omega | (simp only [nO]; omega)) rfl ?_
      refine wm_astore_n (q := 24) (i := 3) (L' := [(0, _), (1, _), (2, _), (3, _)]) hg dX4_log_23 rfl rfl rfl rfl ?_
      refine wm_iload_n (q := 25) (i := 1) hg dX4_log_24 rfl rfl rfl ?_
      refine wm_aload_n (q := 26) (i := 3) hg dX4_log_25 rfl rfl rfl ?_
      refine wm_get (q := 29) hg dX4_log_26 rfl fl_X4_171 (by first | assumption | decide | omega | (simp only [nO]; omega)) rfl ?_
      refine wm_icmp_lt (q := 35) (q2 := 32) hg dX4_log_29 (by decide) rfl (fun h3 => ?_) (fun h3 => ?_)
      · have hk := nI_self h1
        have hkl : k.toNatClampNeg < lgN (M.1 0 0) := clampLt hB.1 (by have := hB.2; omega) h1 (Int32.not_le.mpr h3)
        have hB2 := hB.2
        refine wm_aload_n (q := 36) (i := 3) hg dX4_log_35 rfl rfl rfl ?_
        refine wm_get (q := 39) hg dX4_log_36 rfl fl_X4_171 (by first | assumption | decide | omega | (simp only [nO]; omega)) rfl ?_
        refine wm_iconst (q := 40) 1 hg dX4_log_39 rfl (by decide) ?_
        refine wm_isub (q := 41) hg dX4_log_40 rfl ?_
        refine wm_iload_n (q := 42) (i := 1) hg dX4_log_41 rfl rfl rfl ?_
        refine wm_isub (q := 43) hg dX4_log_42 rfl ?_
        refine wm_istore (q := 45) (i := 4) (L' := [(0, _), (1, _), (2, _), (3, _), (4, _)]) hg dX4_log_43 rfl rfl rfl ?_
        refine wm_iload_n (q := 46) (i := 2) hg dX4_log_45 rfl rfl rfl ?_
        by_cases hk0 : v = 0
        · subst hk0
          refine wm_lookup (q := 72) (off := 26) hg dX4_log_46 (by decide) (by decide) (by decide) ?_
          refine wm_aload_n (q := 73) (i := 3) hg dX4_log_72 rfl rfl rfl ?_
          refine wm_get (q := 76) hg dX4_log_73 rfl fl_X4_193 (by first | assumption | decide | omega | (simp only [nO]; omega)) rfl ?_
          refine wm_iload (q := 78) (i := 4) hg dX4_log_76 rfl rfl ?_
          refine wm_iaload (q := 79) (lgN (M.1 0 0) - 1 - k.toNatClampNeg) hg dX4_log_78 rfl (by first | assumption | decide | omega | (simp only [nO]; omega)) rfl (nsub (a := lgN (M.1 0 0) - 1) (b := k.toNatClampNeg) (nsub (a := lgN (M.1 0 0)) (b := 1) hB.1 rfl (by omega)) hk (by omega)) (by simp only [alen]; omega) ?_
          exact wm_iret hg hr dX4_log_79 (by simp only [fLog, if_neg h1, if_neg h2, if_pos h3]; rfl) (rfl)
        · by_cases hk1 : v = 1
          · subst hk1
            refine wm_lookup (q := 80) (off := 34) hg dX4_log_46 (by decide) (by decide) (by decide) ?_
            refine wm_aload_n (q := 81) (i := 3) hg dX4_log_80 rfl rfl rfl ?_
            refine wm_get (q := 84) hg dX4_log_81 rfl fl_X4_196 (by first | assumption | decide | omega | (simp only [nO]; omega)) rfl ?_
            refine wm_iload (q := 86) (i := 4) hg dX4_log_84 rfl rfl ?_
            refine wm_iaload (q := 87) (lgN (M.1 0 0) - 1 - k.toNatClampNeg) hg dX4_log_86 rfl (by first | assumption | decide | omega | (simp only [nO]; omega)) rfl (nsub (a := lgN (M.1 0 0) - 1) (b := k.toNatClampNeg) (nsub (a := lgN (M.1 0 0)) (b := 1) hB.1 rfl (by omega)) hk (by omega)) (by simp only [alen]; omega) ?_
            exact wm_iret hg hr dX4_log_87 (by simp only [fLog, if_neg h1, if_neg h2, if_pos h3]; rfl) (rfl)
          · have hj0 : v.toInt ≠ 0 := fun z => hk0 (Int32.toInt_inj.mp (z.trans (by decide)))
            have hj1 : v.toInt ≠ 1 := fun z => hk1 (Int32.toInt_inj.mp (z.trans (by decide)))
            refine wm_lookup (q := 88) (off := 42) hg dX4_log_46 (by decide) (by simp [Op.lookupswitch.offset_cons, Op.lookupswitch.offset_nil, Ne.symm hj0, Ne.symm hj1]) (by decide) ?_
            refine wm_aload_n (q := 89) (i := 3) hg dX4_log_88 rfl rfl rfl ?_
            refine wm_get (q := 92) hg dX4_log_89 rfl fl_X4_199 (by first | assumption | decide | omega | (simp only [nO]; omega)) rfl ?_
            refine wm_iload (q := 94) (i := 4) hg dX4_log_92 rfl rfl ?_
            refine wm_iaload (q := 95) (lgN (M.1 0 0) - 1 - k.toNatClampNeg) hg dX4_log_94 rfl (by first | assumption | decide | omega | (simp only [nO]; omega)) rfl (nsub (a := lgN (M.1 0 0) - 1) (b := k.toNatClampNeg) (nsub (a := lgN (M.1 0 0)) (b := 1) hB.1 rfl (by omega)) hk (by omega)) (by simp only [alen]; omega) ?_
            exact wm_iret hg hr dX4_log_95 (by simp only [fLog, if_neg h1, if_neg h2, if_pos h3, if_neg hk0, if_neg hk1]) (rfl)
      · refine wm_ldc (q := 34) (-1000000009) hg dX4_log_32 rfl ld_X4_151 ?_
        exact wm_iret hg hr dX4_log_34 (by simp only [fLog, if_neg h1, if_neg h2, if_neg h3]) (rfl)
    · refine wm_ldc (q := 15) (-1000000001) hg dX4_log_13 rfl ld_X4_49 ?_
      exact wm_iret hg hr dX4_log_15 (by simp only [fLog, if_neg h1, if_pos h2]) (rfl)
set_option maxRecDepth 100000 in
set_option maxHeartbeats 4000000 in
theorem c_X4_points {Γ : GT} {M : Mem} {s : Int32} (hI : InvC M) : Ct Γ yX4_points cX4_points 2 (some .int) 2 [.ref (ad Γ 4 0 0), .int s] M (some (.int (fPts M s))) M := by
  refine ct_of (by decide) (Nat.le_of_ble_eq_true rfl) (fun K hg hr => ?_)
  show WM Γ K _ [(0, _), (1, _)] 0 []
  obtain ⟨hU, hC, hBB, hT⟩ := hI
  have hz := hC 0 (by decide)
  have hB := hBB 0 (by decide)
  have hz2 := hz.2
  refine wm_iload_n (q := 1) (i := 1) hg dX4_points_0 rfl rfl rfl ?_
  refine wm_callS1 (q := 4) hg dX4_points_1 rfl lk_X4_77 (by decide) c_X4_isAngle rfl rfl (Nat.le_of_ble_eq_true rfl) ?_
  refine wm_if_eq (q := 21) (q2 := 7) hg dX4_points_4 (by decide) rfl (fun h1 => ?_) (fun h1 => ?_)
  · refine wm_ldc (q := 23) (-1000000001) hg dX4_points_21 rfl ld_X4_49 ?_
    exact wm_iret hg hr dX4_points_23 (by simp only [fPts, if_pos h1]) (rfl)
  · refine wm_aload_n (q := 8) (i := 0) hg dX4_points_7 rfl rfl rfl ?_
    refine wm_get (q := 11) hg dX4_points_8 rfl fl_X4_10 (by first | assumption | decide | omega | (simp only [nO]; omega)) rfl ?_
    refine wm_get (q := 14) hg dX4_points_11 rfl fl_X4_50 (by first | assumption | decide | omega | (simp only [nO]; omega)) rfl ?_
    refine wm_iload_n (q := 15) (i := 1) hg dX4_points_14 rfl rfl rfl ?_
    refine wm_callV1 (q := 18) hg dX4_points_15 rfl lk_X4_202 (by decide) (c_X1_pointsTo (by first | assumption | decide | omega) (by first | assumption | decide | omega)) (by first | assumption | decide | omega | (simp only [nO]; omega)) ⟨rfl, by decide⟩ rfl rfl (Nat.le_of_ble_eq_true rfl) ?_
    refine wm_goto (q := 23) hg dX4_points_18 (by decide) ?_
    exact wm_iret hg hr dX4_points_23 (by simp only [fPts, if_neg h1]) (rfl)
set_option maxRecDepth 100000 in
set_option maxHeartbeats 4000000 in
theorem c_X4_moved {Γ : GT} {M : Mem} {i b : Int32} (hI : InvC M) : Ct Γ yX4_moved cX4_moved 4 (some .int) 5 [.ref (ad Γ 4 0 0), .int i, .int b] M (some (.int (fMov M i b).1)) (fMov M i b).2 := by
  refine ct_of (by decide) (Nat.le_of_ble_eq_true rfl) (fun K hg hr => ?_)
  show WM Γ K _ [(0, _), (1, _), (2, _)] 0 []
  obtain ⟨hU, hC, hBB, hT⟩ := hI
  have hz := hC 0 (by decide)
  have hB := hBB 0 (by decide)
  have hz2 := hz.2
  refine wm_aload_n (q := 1) (i := 0) hg dX4_moved_0 rfl rfl rfl ?_
  refine wm_iload_n (q := 2) (i := 1) hg dX4_moved_1 rfl rfl rfl ?_
  refine wm_callV1 (q := 5) hg dX4_moved_2 rfl lk_X4_94 (by decide) c_X4_isMagnet (by first | assumption | decide | omega | (simp only [nO]; omega)) ⟨rfl, by decide⟩ rfl rfl (Nat.le_of_ble_eq_true rfl) ?_
  refine wm_if_eq (q := 15) (q2 := 8) hg dX4_moved_5 (by decide) rfl (fun h1 => ?_) (fun h1 => ?_)
  · refine wm_ldc (q := 17) (-1000000001) hg dX4_moved_15 rfl ld_X4_49 ?_
    exact wm_iret hg hr dX4_moved_17 (by simp only [fMov, if_pos h1]) (by simp only [fMov, if_pos h1])
  · obtain ⟨hi1, hi2, hi3⟩ := wthn_sz hz h1
    refine wm_iload_n (q := 9) (i := 2) hg dX4_moved_8 rfl rfl rfl ?_
    refine wm_callS1 (q := 12) hg dX4_moved_9 rfl lk_X4_126 (by decide) c_X4_isPush rfl rfl (Nat.le_of_ble_eq_true rfl) ?_
    refine wm_if_ne (q := 18) (q2 := 15) hg dX4_moved_12 (by decide) rfl (fun h2 => ?_) (fun h2 => ?_)
    · refine wm_aload_n (q := 19) (i := 0) hg dX4_moved_18 rfl rfl rfl ?_
      refine wm_get (q := 22) hg dX4_moved_19 rfl fl_X4_10 (by first | assumption | decide | omega | (simp only [nO]; omega)) rfl ?_
      refine wm_get (q := 25) hg dX4_moved_22 rfl fl_X4_50 (by first | assumption | decide | omega | (simp only [nO]; omega)) rfl ?_
      refine wm_get (q := 28) hg dX4_moved_25 rfl fl_X4_105 (by first | assumption | decide | omega | (simp only [nO]; omega)) rfl ?_
      refine wm_iload_n (q := 29) (i := 1) hg dX4_moved_28 rfl rfl rfl ?_
      refine wm_iaload (q := 30) i.toNatClampNeg hg dX4_moved_29 rfl (by first | assumption | decide | omega | (simp only [nO]; omega)) rfl hi1 (by simp only [alen]; omega) ?_
      refine wm_iconst (q := 31) 1 hg dX4_moved_30 rfl (by decide) ?_
      refine wm_icmp_ne (q := 37) (q2 := 34) hg dX4_moved_31 (by decide) rfl (fun h3 => ?_) (fun h3 => ?_)
      · refine wm_aload_n (q := 38) (i := 0) hg dX4_moved_37 rfl rfl rfl ?_
        refine wm_get (q := 41) hg dX4_moved_38 rfl fl_X4_40 (by first | assumption | decide | omega | (simp only [nO]; omega)) rfl ?_
        refine wm_iconst (q := 42) 0 hg dX4_moved_41 rfl (by decide) ?_
        refine wm_cload (q := 43) 0 hg dX4_moved_42 rfl (rfl : (0 : Int32) = nI 0) (by omega) ?_
        refine wm_astore_n (q := 44) (i := 3) (L' := [(0, _), (1, _), (2, _), (3, _)]) hg dX4_moved_43 rfl rfl rfl rfl ?_
        refine wm_aload_n (q := 45) (i := 3) hg dX4_moved_44 rfl rfl rfl ?_
        refine wm_aload_n (q := 46) (i := 0) hg dX4_moved_45 rfl rfl rfl ?_
        refine wm_get (q := 49) hg dX4_moved_46 rfl fl_X4_10 (by first | assumption | decide | omega | (simp only [nO]; omega)) rfl ?_
        refine wm_get (q := 52) hg dX4_moved_49 rfl fl_X4_50 (by first | assumption | decide | omega | (simp only [nO]; omega)) rfl ?_
        refine wm_callV0 (q := 55) hg dX4_moved_52 rfl lk_X4_205 (by decide) (c_X1_takeFrom (by first | assumption | decide | omega) (by first | assumption | decide | omega) (by first | assumption | decide | omega)) (by first | assumption | decide | omega | (simp only [nO]; omega)) ⟨rfl, by decide⟩ rfl rfl (Nat.le_of_ble_eq_true rfl) ?_
        refine wm_aload_n (q := 56) (i := 3) hg dX4_moved_55 rfl rfl rfl ?_
        refine wm_iload_n (q := 57) (i := 1) hg dX4_moved_56 rfl rfl rfl ?_
        refine wm_iload_n (q := 58) (i := 2) hg dX4_moved_57 rfl rfl rfl ?_
        refine wm_callV0 (q := 61) hg dX4_moved_58 rfl lk_X4_129 (by decide) (c_X1_turn (by first | assumption | decide | omega) hi1 (by omega)) (by first | assumption | decide | omega | (simp only [nO]; omega)) ⟨rfl, by decide⟩ rfl rfl (Nat.le_of_ble_eq_true rfl) ?_
        refine wm_mem (M' := sO M 1 11 (turnX (M.1 1 0) i.toNatClampNeg b)) (by simp only [sO_same, sO_sO]) ?_
        refine wm_aload_n (q := 62) (i := 3) hg dX4_moved_61 rfl rfl rfl ?_
        refine wm_null (q := 63) hg dX4_moved_62 rfl ?_
        refine wm_callV1 (q := 66) hg dX4_moved_63 rfl lk_X4_73 (by decide) (c_settle_n (by decide) (by rw [sO_same]; exact ok10_1 rfl hz)) (by first | assumption | decide | omega | (simp only [nO]; omega)) ⟨rfl, by decide⟩ rfl rfl (Nat.le_of_ble_eq_true rfl) ?_
        exact wm_iret hg hr dX4_moved_66 (by simp only [fMov, if_neg h1, if_neg h2, if_neg h3, sO_same]) (by simp only [fMov, if_neg h1, if_neg h2, if_neg h3, sO_same, sO_sO])
      · refine wm_ldc (q := 36) (-1000000002) hg dX4_moved_34 rfl ld_X4_97 ?_
        exact wm_iret hg hr dX4_moved_36 (by simp only [fMov, if_neg h1, if_neg h2, if_pos h3]) (by simp only [fMov, if_neg h1, if_neg h2, if_pos h3])
    · refine wm_ldc (q := 17) (-1000000001) hg dX4_moved_15 rfl ld_X4_49 ?_
      exact wm_iret hg hr dX4_moved_17 (by simp only [fMov, if_neg h1, if_pos h2]) (by simp only [fMov, if_neg h1, if_pos h2])
set_option maxRecDepth 100000 in
set_option maxHeartbeats 4000000 in
theorem c_X4_write {Γ : GT} {M : Mem} {v : Int32} (hI : InvC M) : Ct Γ yX4_write cX4_write 2 (some .int) 2 [.ref (ad Γ 4 0 0), .int v] M (some (.int (fWrite M v).1)) (fWrite M v).2 := by
  refine ct_of (by decide) (Nat.le_of_ble_eq_true rfl) (fun K hg hr => ?_)
  show WM Γ K _ [(0, _), (1, _)] 0 []
  obtain ⟨hU, hC, hBB, hT⟩ := hI
  have hz := hC 0 (by decide)
  have hB := hBB 0 (by decide)
  have hz2 := hz.2
  refine wm_iload_n (q := 1) (i := 1) hg dX4_write_0 rfl rfl rfl ?_
  refine wm_bipush (q := 3) 32 hg dX4_write_1 rfl (by decide) ?_
  refine wm_bipush (q := 5) 126 hg dX4_write_3 rfl (by decide) ?_
  refine wm_callS1 (q := 8) hg dX4_write_5 rfl lk_X4_45 (by decide) c_X4_isWithin rfl rfl (Nat.le_of_ble_eq_true rfl) ?_
  refine wm_if_ne (q := 14) (q2 := 11) hg dX4_write_8 (by decide) rfl (fun h1 => ?_) (fun h1 => ?_)
  · by_cases h2 : (M.1 3 0).1 1 < 40
    · refine wm_aload_n (q := 15) (i := 0) hg dX4_write_14 rfl rfl rfl ?_
      refine wm_get (q := 18) hg dX4_write_15 rfl fl_X4_34 (by first | assumption | decide | omega | (simp only [nO]; omega)) rfl ?_
      refine wm_iload_n (q := 19) (i := 1) hg dX4_write_18 rfl rfl rfl ?_
      refine wm_callV1 (q := 22) hg dX4_write_19 rfl lk_X4_223 (by decide) (c_X3_append1 hT h2) (by first | assumption | decide | omega | (simp only [nO]; omega)) ⟨rfl, by decide⟩ rfl rfl (Nat.le_of_ble_eq_true rfl) ?_
      refine wm_if_eq (q := 35) (q2 := 25) hg dX4_write_22 (by decide) rfl (fun h3 => ?_) (fun h3 => ?_)
      · exact absurd h3 (by decide)
      · refine wm_aload_n (q := 26) (i := 0) hg dX4_write_25 rfl rfl rfl ?_
        refine wm_get (q := 29) hg dX4_write_26 rfl fl_X4_34 (by first | assumption | decide | omega | (simp only [nO]; omega)) rfl ?_
        refine wm_get (q := 32) hg dX4_write_29 rfl fl_X4_183 (by first | assumption | decide | omega | (simp only [nO]; omega)) rfl ?_
        refine wm_goto (q := 37) hg dX4_write_32 (by decide) ?_
        exact wm_iret hg hr dX4_write_37 (by simp only [fWrite, if_neg h1, if_pos h2, sO_same, taX, upd_same]) (by simp only [fWrite, if_neg h1, if_pos h2])
    · refine wm_aload_n (q := 15) (i := 0) hg dX4_write_14 rfl rfl rfl ?_
      refine wm_get (q := 18) hg dX4_write_15 rfl fl_X4_34 (by first | assumption | decide | omega | (simp only [nO]; omega)) rfl ?_
      refine wm_iload_n (q := 19) (i := 1) hg dX4_write_18 rfl rfl rfl ?_
      refine wm_callV1 (q := 22) hg dX4_write_19 rfl lk_X4_223 (by decide) (c_X3_append0 hT h2) (by first | assumption | decide | omega | (simp only [nO]; omega)) ⟨rfl, by decide⟩ rfl rfl (Nat.le_of_ble_eq_true rfl) ?_
      refine wm_if_eq (q := 35) (q2 := 25) hg dX4_write_22 (by decide) rfl (fun h3 => ?_) (fun h3 => ?_)
      · refine wm_ldc (q := 37) (-1000000003) hg dX4_write_35 rfl ld_X4_81 ?_
        exact wm_iret hg hr dX4_write_37 (by simp only [fWrite, if_neg h1, if_neg h2]) (by simp only [fWrite, if_neg h1, if_neg h2])
      · exact absurd rfl h3
  · refine wm_ldc (q := 13) (-1000000001) hg dX4_write_11 rfl ld_X4_49 ?_
    exact wm_iret hg hr dX4_write_13 (by simp only [fWrite, if_pos h1]) (by simp only [fWrite, if_pos h1])
set_option maxRecDepth 100000 in
set_option maxHeartbeats 4000000 in
theorem c_X4_wipe {Γ : GT} {M : Mem} (hI : InvC M) : Ct Γ yX4_wipe cX4_wipe 2 (some .int) 1 [.ref (ad Γ 4 0 0)] M (some (.int ((M.1 3 0).1 1))) (sI M 3 0 1 0) := by
  refine ct_of (by decide) (Nat.le_of_ble_eq_true rfl) (fun K hg hr => ?_)
  show WM Γ K _ [(0, _)] 0 []
  refine wm_aload_n (q := 1) (i := 0) hg dX4_wipe_0 rfl rfl rfl ?_
  refine wm_get (q := 4) hg dX4_wipe_1 rfl fl_X4_34 (by first | assumption | decide | omega | (simp only [nO]; omega)) rfl ?_
  refine wm_get (q := 7) hg dX4_wipe_4 rfl fl_X4_183 (by first | assumption | decide | omega | (simp only [nO]; omega)) rfl ?_
  refine wm_istore_n (q := 8) (i := 1) (L' := [(0, _), (1, _)]) hg dX4_wipe_7 rfl rfl rfl rfl ?_
  refine wm_aload_n (q := 9) (i := 0) hg dX4_wipe_8 rfl rfl rfl ?_
  refine wm_get (q := 12) hg dX4_wipe_9 rfl fl_X4_34 (by first | assumption | decide | omega | (simp only [nO]; omega)) rfl ?_
  refine wm_iconst (q := 13) 0 hg dX4_wipe_12 rfl (by decide) ?_
  refine wm_put (q := 16) hg dX4_wipe_13 rfl fl_X4_183 (by first | assumption | decide | omega | (simp only [nO]; omega)) rfl ?_
  refine wm_iload_n (q := 17) (i := 1) hg dX4_wipe_16 rfl rfl rfl ?_
  exact wm_iret hg hr dX4_wipe_17 (rfl) (rfl)
set_option maxRecDepth 100000 in
set_option maxHeartbeats 4000000 in
theorem c_X4_fault {Γ : GT} {M : Mem} {v : Int32} (hI : InvC M) : Ct Γ yX4_fault cX4_fault 2 (some .int) 1 [.ref (ad Γ 4 0 0), .int v] M (some (.int (fFault M v))) M := by
  refine ct_of (by decide) (Nat.le_of_ble_eq_true rfl) (fun K hg hr => ?_)
  show WM Γ K _ [(0, _), (1, _)] 0 []
  obtain ⟨hU, hC, hBB, hT⟩ := hI
  have hz := hC 0 (by decide)
  have hB := hBB 0 (by decide)
  have hz2 := hz.2
  refine wm_iload_n (q := 1) (i := 1) hg dX4_fault_0 rfl rfl rfl ?_
  by_cases hk0 : v = 0
  · subst hk0
    refine wm_lookup (q := 28) (off := 27) hg dX4_fault_1 (by decide) (by decide) (by decide) ?_
    refine wm_aload_n (q := 29) (i := 0) hg dX4_fault_28 rfl rfl rfl ?_
    refine wm_get (q := 32) hg dX4_fault_29 rfl fl_X4_34 (by first | assumption | decide | omega | (simp only [nO]; omega)) rfl ?_
    refine wm_get (q := 35) hg dX4_fault_32 rfl fl_X4_229 (by first | assumption | decide | omega | (simp only [nO]; omega)) rfl ?_
    exact wm_iret hg hr dX4_fault_35 (rfl) (rfl)
  · by_cases hk1 : v = 1
    · subst hk1
      refine wm_lookup (q := 36) (off := 35) hg dX4_fault_1 (by decide) (by decide) (by decide) ?_
      refine wm_aload_n (q := 37) (i := 0) hg dX4_fault_36 rfl rfl rfl ?_
      refine wm_get (q := 40) hg dX4_fault_37 rfl fl_X4_34 (by first | assumption | decide | omega | (simp only [nO]; omega)) rfl ?_
      refine wm_get (q := 43) hg dX4_fault_40 rfl fl_X4_232 (by first | assumption | decide | omega | (simp only [nO]; omega)) rfl ?_
      exact wm_iret hg hr dX4_fault_43 (rfl) (rfl)
    · have hj0 : v.toInt ≠ 0 := fun z => hk0 (Int32.toInt_inj.mp (z.trans (by decide)))
      have hj1 : v.toInt ≠ 1 := fun z => hk1 (Int32.toInt_inj.mp (z.trans (by decide)))
      refine wm_lookup (q := 44) (off := 43) hg dX4_fault_1 (by decide) (by simp [Op.lookupswitch.offset_cons, Op.lookupswitch.offset_nil, Ne.symm hj0, Ne.symm hj1]) (by decide) ?_
      refine wm_ldc (q := 46) (-1000000001) hg dX4_fault_44 rfl ld_X4_49 ?_
      exact wm_iret hg hr dX4_fault_46 (by simp only [fFault, if_neg hk0, if_neg hk1]) (rfl)
set_option maxRecDepth 100000 in
set_option maxHeartbeats 4000000 in
theorem c_X4_keep {Γ : GT} {M : Mem} {i : Int32} (hI : InvC M) : Ct Γ yX4_keep cX4_keep 2 (some .int) 6 [.ref (ad Γ 4 0 0), .int i] M (some (.int (fKeep M i).1)) (fKeep M i).2 := by
  refine ct_of (by decide) (Nat.le_of_ble_eq_true rfl) (fun K hg hr => ?_)
  show WM Γ K _ [(0, _), (1, _)] 0 []
  obtain ⟨hU, hC, hBB, hT⟩ := hI
  have hz := hC 0 (by decide)
  have hB := hBB 0 (by decide)
  have hz2 := hz.2
  refine wm_iload_n (q := 1) (i := 1) hg dX4_keep_0 rfl rfl rfl ?_
  refine wm_iconst (q := 2) 0 hg dX4_keep_1 rfl (by decide) ?_
  refine wm_iconst (q := 3) 1 hg dX4_keep_2 rfl (by decide) ?_
  refine wm_callS1 (q := 6) hg dX4_keep_3 rfl lk_X4_45 (by decide) c_X4_isWithin rfl rfl (Nat.le_of_ble_eq_true rfl) ?_
  refine wm_if_ne (q := 12) (q2 := 9) hg dX4_keep_6 (by decide) rfl (fun h1 => ?_) (fun h1 => ?_)
  · obtain ⟨k, -, hk2, hk⟩ := wthn_n (lo := 0) (hi := 1) h1 (by decide) (by decide)
    have hkc : i.toNatClampNeg = k := by rw [hk, nI_clamp (by omega)]
    refine wm_aload_n (q := 13) (i := 0) hg dX4_keep_12 rfl rfl rfl ?_
    refine wm_get (q := 16) hg dX4_keep_13 rfl fl_X4_24 (by first | assumption | decide | omega | (simp only [nO]; omega)) rfl ?_
    refine wm_iload_n (q := 17) (i := 1) hg dX4_keep_16 rfl rfl rfl ?_
    refine wm_imload (q := 18) k hg dX4_keep_17 rfl hk (by omega) ?_
    refine wm_aload_n (q := 19) (i := 0) hg dX4_keep_18 rfl rfl rfl ?_
    refine wm_get (q := 22) hg dX4_keep_19 rfl fl_X4_10 (by first | assumption | decide | omega | (simp only [nO]; omega)) rfl ?_
    refine wm_callV0 (q := 25) hg dX4_keep_22 rfl lk_X4_155 (by decide) (c_X2_takeFrom (by omega) (by decide) (by omega)) (by first | assumption | decide | omega | (simp only [nO]; omega)) ⟨rfl, by decide⟩ rfl rfl (Nat.le_of_ble_eq_true rfl) ?_
    refine wm_aload_n (q := 26) (i := 0) hg dX4_keep_25 rfl rfl rfl ?_
    refine wm_get (q := 29) hg dX4_keep_26 rfl fl_X4_27 (by first | assumption | decide | omega | (simp only [nO]; omega)) rfl ?_
    refine wm_iload_n (q := 30) (i := 1) hg dX4_keep_29 rfl rfl rfl ?_
    refine wm_iconst (q := 31) 1 hg dX4_keep_30 rfl (by decide) ?_
    refine wm_zastore (q := 32) k hg dX4_keep_31 rfl hk (by omega) rfl ?_
    refine wm_aload_n (q := 33) (i := 0) hg dX4_keep_32 rfl rfl rfl ?_
    refine wm_get (q := 36) hg dX4_keep_33 rfl fl_X4_10 (by first | assumption | decide | omega | (simp only [nO]; omega)) rfl ?_
    refine wm_get (q := 39) hg dX4_keep_36 rfl fl_X4_50 (by first | assumption | decide | omega | (simp only [nO]; omega)) rfl ?_
    refine wm_get (q := 42) hg dX4_keep_39 rfl fl_X4_54 (by first | assumption | decide | omega | (simp only [nO]; omega)) rfl ?_
    exact wm_iret hg hr dX4_keep_42 (by simp only [fKeep, if_neg h1, sO_kind _ _ _ _ (show (1:Nat) ≠ 4 by decide), sO_kind _ _ _ _ (show (1:Nat) ≠ 0 by decide), sO_idx _ _ _ _ (show (0:Nat) ≠ 9 + k by omega)]) (by simp only [fKeep, if_neg h1, keM, hkc, sO_kind _ _ _ _ (show (4:Nat) ≠ 1 by decide), sO_kind _ _ _ _ (show (4:Nat) ≠ 0 by decide)])
  · refine wm_ldc (q := 11) (-1000000001) hg dX4_keep_9 rfl ld_X4_49 ?_
    exact wm_iret hg hr dX4_keep_11 (by simp only [fKeep, if_pos h1]) (by simp only [fKeep, if_pos h1])
set_option maxRecDepth 100000 in
set_option maxHeartbeats 4000000 in
theorem c_X4_back {Γ : GT} {M : Mem} {i : Int32} (hI : InvC M) : Ct Γ yX4_back cX4_back 2 (some .int) 6 [.ref (ad Γ 4 0 0), .int i] M (some (.int (fBack M i).1)) (fBack M i).2 := by
  refine ct_of (by decide) (Nat.le_of_ble_eq_true rfl) (fun K hg hr => ?_)
  show WM Γ K _ [(0, _), (1, _)] 0 []
  obtain ⟨hU, hC, hBB, hT⟩ := hI
  have hz := hC 0 (by decide)
  have hB := hBB 0 (by decide)
  have hz2 := hz.2
  refine wm_iload_n (q := 1) (i := 1) hg dX4_back_0 rfl rfl rfl ?_
  refine wm_iconst (q := 2) 0 hg dX4_back_1 rfl (by decide) ?_
  refine wm_iconst (q := 3) 1 hg dX4_back_2 rfl (by decide) ?_
  refine wm_callS1 (q := 6) hg dX4_back_3 rfl lk_X4_45 (by decide) c_X4_isWithin rfl rfl (Nat.le_of_ble_eq_true rfl) ?_
  refine wm_if_ne (q := 12) (q2 := 9) hg dX4_back_6 (by decide) rfl (fun h1 => ?_) (fun h1 => ?_)
  · obtain ⟨k, -, hk2, hk⟩ := wthn_n (lo := 0) (hi := 1) h1 (by decide) (by decide)
    have hkc : i.toNatClampNeg = k := by rw [hk, nI_clamp (by omega)]
    refine wm_aload_n (q := 13) (i := 0) hg dX4_back_12 rfl rfl rfl ?_
    refine wm_get (q := 16) hg dX4_back_13 rfl fl_X4_27 (by first | assumption | decide | omega | (simp only [nO]; omega)) rfl ?_
    refine wm_iload_n (q := 17) (i := 1) hg dX4_back_16 rfl rfl rfl ?_
    refine wm_zaload (q := 18) k hg dX4_back_17 rfl hk (by omega) ?_
    refine wm_if_ne (q := 24) (q2 := 21) hg dX4_back_18 (by decide) rfl (fun h2 => ?_) (fun h2 => ?_)
    · rw [← hkc] at h2
      refine wm_aload_n (q := 25) (i := 0) hg dX4_back_24 rfl rfl rfl ?_
      refine wm_callV0 (q := 28) hg dX4_back_25 rfl lk_X4_57 (by decide) (c_X4_record (by first | assumption | decide | omega)) (by first | assumption | decide | omega | (simp only [nO]; omega)) ⟨rfl, by decide⟩ rfl rfl (Nat.le_of_ble_eq_true rfl) ?_
      refine wm_aload_n (q := 29) (i := 0) hg dX4_back_28 rfl rfl rfl ?_
      refine wm_get (q := 32) hg dX4_back_29 rfl fl_X4_10 (by first | assumption | decide | omega | (simp only [nO]; omega)) rfl ?_
      refine wm_aload_n (q := 33) (i := 0) hg dX4_back_32 rfl rfl rfl ?_
      refine wm_get (q := 36) hg dX4_back_33 rfl fl_X4_24 (by first | assumption | decide | omega | (simp only [nO]; omega)) rfl ?_
      refine wm_iload_n (q := 37) (i := 1) hg dX4_back_36 rfl rfl rfl ?_
      refine wm_imload (q := 38) k hg dX4_back_37 rfl hk (by omega) ?_
      refine wm_callV0 (q := 41) hg dX4_back_38 rfl lk_X4_155 (by decide) (c_X2_takeFrom (by decide) (by omega) (by omega)) (by first | assumption | decide | omega | (simp only [nO]; omega)) ⟨rfl, by decide⟩ rfl rfl (Nat.le_of_ble_eq_true rfl) ?_
      refine wm_mem (M' := (fBack M i).2) (by rw [hkc] at h2; simp only [fBack, if_neg h1, hkc, if_neg h2, setP, recM_c hU (g := 9 + k) (Or.inr (by omega)), recM_b hU (g := 9 + k) (Or.inr (by omega))]) ?_
      refine wm_aload_n (q := 42) (i := 0) hg dX4_back_41 rfl rfl rfl ?_
      refine wm_get (q := 45) hg dX4_back_42 rfl fl_X4_10 (by first | assumption | decide | omega | (simp only [nO]; omega)) rfl ?_
      refine wm_get (q := 48) hg dX4_back_45 rfl fl_X4_50 (by first | assumption | decide | omega | (simp only [nO]; omega)) rfl ?_
      refine wm_get (q := 51) hg dX4_back_48 rfl fl_X4_54 (by first | assumption | decide | omega | (simp only [nO]; omega)) rfl ?_
      exact wm_iret hg hr dX4_back_51 (by simp only [fBack, if_neg h1, if_neg h2, setP_c]) (rfl)
    · rw [← hkc] at h2
      refine wm_ldc (q := 23) (-1000000002) hg dX4_back_21 rfl ld_X4_97 ?_
      exact wm_iret hg hr dX4_back_23 (by simp only [fBack, if_neg h1, if_pos h2]) (by simp only [fBack, if_neg h1, if_pos h2])
  · refine wm_ldc (q := 11) (-1000000001) hg dX4_back_9 rfl ld_X4_49 ?_
    exact wm_iret hg hr dX4_back_11 (by simp only [fBack, if_pos h1]) (by simp only [fBack, if_pos h1])
end
section
/-! ===== shed, reverse, load, mean ===== -/
theorem HU_sO {M : Mem} (h : HU M) {ci : Nat} (i : Nat) (X : OV) (h4 : (4 : Nat) ≠ ci) : HU (sO M ci i X) := by
  have e : (sO M ci i X).1 4 0 = M.1 4 0 := sO_kind _ _ _ _ h4
  have e2 : unN (sO M ci i X) = unN M := by unfold unN; rw [e]
  exact ⟨by rw [e, e2]; exact h.1, by rw [e2]; exact h.2.1, h.2.2⟩
theorem ok10_0 (C : OV) : ok10 (oI C 0 0) := ok10_sz (n := 0) (by simp only [oI, upd_same]; rfl) (by decide)
theorem szN_0 (C : OV) : szN (oI C 0 0) = 0 := szN_of (by simp only [oI, upd_same]; rfl) (by decide)
theorem apX_0 (X Y : OV) (f : Nat) : (apX X Y f).1 0 = X.1 0 + 1 := by simp [apX, cpX, oI, upd]
theorem ok10_ap {X Y : OV} {f : Nat} (hX : ok10 X) (h : szN X < 10) : ok10 (apX X Y f) ∧ szN (apX X Y f) = szN X + 1 := by
  have e : (apX X Y f).1 0 = nI (szN X + 1) := by rw [apX_0, hX.1]; exact nI_1 _
  exact ⟨ok10_sz e (by omega), szN_of e (by omega)⟩
def shR (C X : OV) : Nat → OV
  | 0 => oI C 0 0
  | i + 1 => if X.2 2 i = 1 then apX (shR C X i) X i else if 0 < pNb X i then shR C X i else apX (shR C X i) X i
theorem shR_ok (C X : OV) : ∀ i, i ≤ 10 → ok10 (shR C X i) ∧ szN (shR C X i) ≤ i
  | 0, _ => ⟨ok10_0 C, Nat.le_of_eq (szN_0 C)⟩
  | i + 1, h => by
    have h0 := shR_ok C X i (by omega)
    have ha := ok10_ap (Y := X) (f := i) h0.1 (by omega)
    unfold shR
    split
    · exact ⟨ha.1, by omega⟩
    · split
      · exact ⟨h0.1, by omega⟩
      · exact ⟨ha.1, by omega⟩
def rvL (C X : OV) : Nat → OV
  | 0 => oI C 0 0
  | j + 1 => apX (rvL C X j) X (szN X - j - 1)
theorem rvL_ok (C X : OV) : ∀ i, i ≤ 10 → ok10 (rvL C X i) ∧ szN (rvL C X i) = i
  | 0, _ => ⟨ok10_0 C, szN_0 C⟩
  | i + 1, h => by
    have h0 := rvL_ok C X i (by omega)
    have ha := ok10_ap (Y := X) (f := szN X - i - 1) h0.1 (by omega)
    exact ⟨ha.1, by show szN (apX _ _ _) = _; omega⟩
theorem ok10_mi {X : OV} (h : ok10 X) (j : Nat) : ok10 (miL X j) := ok10_1 (miL_1 X j) h
theorem ok10_tm {X Y : OV} (h : ok10 Y) : ok10 (tmX X Y) := ok10_sz (n := szN Y) (by simp only [tmX, upd_same]; exact h.1) h.2
theorem tmX_0 (X Y : OV) : (tmX X Y).1 0 = Y.1 0 := by simp [tmX, upd]
theorem rdG_ok (T : OV) : ∀ (n i : Nat) (X : OV) (bh : Int32), ok10 X → ok10 (rdG T n i X bh).2.2
  | 0, _, _, _, h => h
  | n + 1, i, X, bh, h => by
    have k := fun Y (hY : ok10 Y) b => rdG_ok T n (i + 1) Y b hY
    unfold rdG
    split
    · split
      · split
        · split
          · exact k X h _
          · exact h
        · split
          · split
            · exact k X h _
            · exact h
          · exact k (oA X 2 (upd (X.2 2) (szN X - 1) 1)) (ok10_1 rfl h) _
      · split
        · exact k X h _
        · exact h
    · split
      · next h2 =>
        refine k _ (ok10_pi h ?_ _ _) _
        have := h.2
        rcases Nat.lt_or_ge (szN X) 10 with q | q
        · exact q
        · exact absurd h2 (by rw [h.1]; exact nI_nlt (a := szN X) (b := 10) q (by omega))
      · exact h
def fShed (M : Mem) : Int32 × Mem := if (shR (M.1 1 11) (M.1 1 0) (szN (M.1 1 0))).1 0 = 0 then (-1000000002, sO M 1 11 (shR (M.1 1 11) (M.1 1 0) (szN (M.1 1 0)))) else ((M.1 1 0).1 0 - (shR (M.1 1 11) (M.1 1 0) (szN (M.1 1 0))).1 0, chM (sO M 1 11 (shR (M.1 1 11) (M.1 1 0) (szN (M.1 1 0)))) (tmX (M.1 1 0) (shR (M.1 1 11) (M.1 1 0) (szN (M.1 1 0)))) (M.1 0 0))
def rvR (C X : OV) : OV := miL (rvL C X (szN X)) (szN (rvL C X (szN X)))
def fRev (M : Mem) : Int32 × Mem := (dfS (M.1 1 0) (rvR (M.1 1 11) (M.1 1 0)) (szN (M.1 1 0)), chM (sO M 1 11 (rvR (M.1 1 11) (M.1 1 0))) (tmX (M.1 1 0) (rvR (M.1 1 11) (M.1 1 0))) (M.1 0 0))
def fLoad (M : Mem) : Int32 × Mem := if (rdR (M.1 3 0) (M.1 1 11)).1 = 0 then ((rdR (M.1 3 0) (M.1 1 11)).2.2.1 0, chM (sO M 1 11 (rdR (M.1 3 0) (M.1 1 11)).2.2) (tmX (M.1 1 0) (rdR (M.1 3 0) (M.1 1 11)).2.2) (M.1 0 0)) else (-1000000002, sO (sO M 1 11 (rdR (M.1 3 0) (M.1 1 11)).2.2) 3 0 (rfX (M.1 3 0) (rdR (M.1 3 0) (M.1 1 11)).1 (nI (rdR (M.1 3 0) (M.1 1 11)).2.1)))
def fMean (M : Mem) : UInt32 := FP.fdiv (FP.i2f (energy (M.1 1 0))) (FP.i2f ((M.1 1 0).1 0))
theorem sO11_c (M : Mem) (R : OV) : (sO M 1 11 R).1 1 0 = M.1 1 0 := sO_idx _ _ _ _ (by decide)
theorem sO11_b (M : Mem) (R : OV) : (sO M 1 11 R).1 0 0 = M.1 0 0 := sO_kind _ _ _ _ (by decide)
/-- recording behind a changed copy -/
theorem recP11 {M : Mem} (h : HU M) (R : OV) : recM (sO M 1 11 R) = setP (recM (sO M 1 11 R)) (M.1 1 0) (M.1 0 0) := by
  have e := recP (HU_sO h 11 R (by decide) : HU (sO M 1 11 R))
  rw [sO11_c, sO11_b] at e
  exact e
theorem rec11 {M : Mem} (h : HU M) (R X B : OV) : (setP (recM (sO M 1 11 R)) X B).1 1 11 = R := by
  rw [setP_cg _ _ _ (by decide), recM_c (HU_sO h 11 R (by decide)) (Or.inr (by decide)), sO_same]
theorem c_tm11 {Γ : GT} {M : Mem} {R X B : OV} (h : HU M) : Ct Γ yX1_takeMagnets cX1_takeMagnets 2 none 2 [.ref (ad Γ 1 0 0), .ref (ad Γ 1 11 0)] (setP (recM (sO M 1 11 R)) X B) none (setP (recM (sO M 1 11 R)) (tmX X R) B) := by
  have k := c_X1_takeMagnets (Γ := Γ) (M := setP (recM (sO M 1 11 R)) X B) (c := 0) (o := 11) (by decide) (by decide) (by decide)
  rw [setP_c, rec11 h, setP_1] at k
  exact k
theorem c_sc11 {Γ : GT} {M : Mem} {R : OV} (h : HU M) (hz : ok10 (M.1 1 0)) : Ct Γ yX4_startChange cX4_startChange 1 (some .int) 6 [.ref (ad Γ 4 0 0)] (sO M 1 11 R) (some (.int (energy (M.1 1 0)))) (setP (recM (sO M 1 11 R)) (M.1 1 0) (M.1 0 0)) := by
  have k := c_X4_startChange (Γ := Γ) (M := sO M 1 11 R) (HU_sO h 11 R (by decide)) (by rw [sO11_c]; exact hz)
  rw [sO11_c, recP11 h] at k
  exact k
set_option maxRecDepth 100000 in
set_option maxHeartbeats 4000000 in
theorem c_X4_shed {Γ : GT} {M : Mem}  (hI : InvC M) : Ct Γ yX4_shed cX4_shed 5 (some .int) 7 [.ref (ad Γ 4 0 0)] M (some (.int (fShed M).1)) (fShed M).2 := by
  refine ct_of (by decide) (Nat.le_of_ble_eq_true rfl) (fun K hg hr => ?_)
  show WM Γ K _ [(0, _)] 0 []
  obtain ⟨hU, hC, hBB, hT⟩ := hI
  have hz := hC 0 (by decide)
  have hB := hBB 0 (by decide)
  have hz2 := hz.2
  have hC11 := hC 11 (by decide)
  refine wm_aload_n (q := 1) (i := 0) hg dX4_shed_0 rfl rfl rfl ?_
  refine wm_get (q := 4) hg dX4_shed_1 rfl fl_X4_10 (by first | assumption | decide | omega | (simp only [nO]; omega)) rfl ?_
  refine wm_get (q := 7) hg dX4_shed_4 rfl fl_X4_50 (by first | assumption | decide | omega | (simp only [nO]; omega)) rfl ?_
  refine wm_astore_n (q := 8) (i := 1) (L' := [(0, _), (1, _)]) hg dX4_shed_7 rfl rfl rfl rfl ?_
  refine wm_aload_n (q := 9) (i := 0) hg dX4_shed_8 rfl rfl rfl ?_
  refine wm_get (q := 12) hg dX4_shed_9 rfl fl_X4_40 (by first | assumption | decide | omega | (simp only [nO]; omega)) rfl ?_
  refine wm_iconst (q := 13) 0 hg dX4_shed_12 rfl (by decide) ?_
  refine wm_cload (q := 14) 0 hg dX4_shed_13 rfl (rfl : (0 : Int32) = nI 0) (by omega) ?_
  refine wm_astore_n (q := 15) (i := 2) (L' := [(0, _), (1, _), (2, _)]) hg dX4_shed_14 rfl rfl rfl rfl ?_
  refine wm_aload_n (q := 16) (i := 2) hg dX4_shed_15 rfl rfl rfl ?_
  refine wm_iconst (q := 17) 0 hg dX4_shed_16 rfl (by decide) ?_
  refine wm_put (q := 20) hg dX4_shed_17 rfl fl_X4_54 (by first | assumption | decide | omega | (simp only [nO]; omega)) rfl ?_
  refine wm_iconst (q := 21) 0 hg dX4_shed_20 rfl (by decide) ?_
  refine wm_istore_n (q := 22) (i := 3) (L' := [(0, _), (1, _), (2, _), (3, _)]) hg dX4_shed_21 rfl rfl rfl rfl ?_
  suffices hloop : ∀ (n i : Nat), i + n = (szN (M.1 1 0)) → WM Γ K (sO M 1 11 (shR (M.1 1 11) (M.1 1 0) i)) [(0, .ref (ad Γ 4 0 0)), (1, .ref (ad Γ 1 0 0)), (2, .ref (ad Γ 1 11 0)), (3, .int (nI i))] 22 [] from hloop (szN (M.1 1 0)) 0 (by omega)
  intro n
  induction n with
  | zero =>
    intro i hi 
    have eX : (sO M 1 11 (shR (M.1 1 11) (M.1 1 0) i)).1 1 0 = (M.1 1 0) := sO11_c _ _
    have hsz : ((sO M 1 11 (shR (M.1 1 11) (M.1 1 0) i)).1 1 0).1 0 = nI (szN (M.1 1 0)) := by rw [eX]; exact hz.1
    have hR := shR_ok (M.1 1 11) (M.1 1 0) i (by omega)
    refine wm_iload_n (q := 23) (i := 3) hg dX4_shed_22 rfl rfl rfl ?_
    refine wm_aload_n (q := 24) (i := 1) hg dX4_shed_23 rfl rfl rfl ?_
    refine wm_get (q := 27) hg dX4_shed_24 rfl fl_X4_54 (by first | assumption | decide | omega | (simp only [nO]; omega)) rfl ?_
    refine wm_icmp_ge (q := 60) (q2 := 30) hg dX4_shed_27 (by decide) rfl (fun hb => ?_) (fun hb => ?_)
    · have he : i = (szN (M.1 1 0)) := by omega
      subst he
      have hR10 := hR.1
      refine wm_aload_n (q := 61) (i := 2) hg dX4_shed_60 rfl rfl rfl ?_
      refine wm_get (q := 64) hg dX4_shed_61 rfl fl_X4_54 (by first | assumption | decide | omega | (simp only [nO]; omega)) rfl ?_
      refine wm_if_ne (q := 70) (q2 := 67) hg dX4_shed_64 (by decide) rfl (fun h1 => ?_) (fun h1 => ?_)
      · rw [sO_same] at h1
        refine wm_aload_n (q := 71) (i := 1) hg dX4_shed_70 rfl rfl rfl ?_
        refine wm_get (q := 74) hg dX4_shed_71 rfl fl_X4_54 (by first | assumption | decide | omega | (simp only [nO]; omega)) rfl ?_
        refine wm_aload_n (q := 75) (i := 2) hg dX4_shed_74 rfl rfl rfl ?_
        refine wm_get (q := 78) hg dX4_shed_75 rfl fl_X4_54 (by first | assumption | decide | omega | (simp only [nO]; omega)) rfl ?_
        refine wm_isub (q := 79) hg dX4_shed_78 rfl ?_
        refine wm_istore_n (q := 80) (i := 3) (L' := [(0, _), (1, _), (2, _), (3, _)]) hg dX4_shed_79 rfl rfl rfl rfl ?_
        refine wm_aload_n (q := 81) (i := 0) hg dX4_shed_80 rfl rfl rfl ?_
        refine wm_callV1 (q := 84) hg dX4_shed_81 rfl lk_X4_82 (by decide) (c_sc11 hU hz) (by first | assumption | decide | omega | (simp only [nO]; omega)) ⟨rfl, by decide⟩ rfl rfl (Nat.le_of_ble_eq_true rfl) ?_
        refine wm_istore (q := 86) (i := 4) (L' := [(0, _), (1, _), (2, _), (3, _), (4, _)]) hg dX4_shed_84 rfl rfl rfl ?_
        refine wm_aload_n (q := 87) (i := 1) hg dX4_shed_86 rfl rfl rfl ?_
        refine wm_aload_n (q := 88) (i := 2) hg dX4_shed_87 rfl rfl rfl ?_
        refine wm_callV0 (q := 91) hg dX4_shed_88 rfl lk_X4_115 (by decide) (c_tm11 hU) (by first | assumption | decide | omega | (simp only [nO]; omega)) ⟨rfl, by decide⟩ rfl rfl (Nat.le_of_ble_eq_true rfl) ?_
        refine wm_aload_n (q := 92) (i := 0) hg dX4_shed_91 rfl rfl rfl ?_
        refine wm_iload (q := 94) (i := 4) hg dX4_shed_92 rfl rfl ?_
        refine wm_callV1 (q := 97) hg dX4_shed_94 rfl lk_X4_90 (by decide) (c_endCh (ok10_tm hR10) hB) (by first | assumption | decide | omega | (simp only [nO]; omega)) ⟨rfl, by decide⟩ rfl rfl (Nat.le_of_ble_eq_true rfl) ?_
        refine wm_pop (q := 98) hg dX4_shed_97 rfl rfl ?_
        refine wm_iload_n (q := 99) (i := 3) hg dX4_shed_98 rfl rfl rfl ?_
        exact wm_iret hg hr dX4_shed_99 (by simp only [fShed, if_neg h1, eX, sO_same]) (by simp only [fShed, if_neg h1, chM, sO11_c])
      · rw [sO_same] at h1
        refine wm_ldc (q := 69) (-1000000002) hg dX4_shed_67 rfl ld_X4_97 ?_
        exact wm_iret hg hr dX4_shed_69 (by simp only [fShed, if_pos h1]) (by simp only [fShed, if_pos h1])
    · exact absurd (lpLe hsz (by omega) (by omega)) hb
  | succ n ih =>
    intro i hi 
    have eX : (sO M 1 11 (shR (M.1 1 11) (M.1 1 0) i)).1 1 0 = (M.1 1 0) := sO11_c _ _
    have hsz : ((sO M 1 11 (shR (M.1 1 11) (M.1 1 0) i)).1 1 0).1 0 = nI (szN (M.1 1 0)) := by rw [eX]; exact hz.1
    have hR := shR_ok (M.1 1 11) (M.1 1 0) i (by omega)
    refine wm_iload_n (q := 23) (i := 3) hg dX4_shed_22 rfl rfl rfl ?_
    refine wm_aload_n (q := 24) (i := 1) hg dX4_shed_23 rfl rfl rfl ?_
    refine wm_get (q := 27) hg dX4_shed_24 rfl fl_X4_54 (by first | assumption | decide | omega | (simp only [nO]; omega)) rfl ?_
    refine wm_icmp_ge (q := 60) (q2 := 30) hg dX4_shed_27 (by decide) rfl (fun hb => ?_) (fun hb => ?_)
    · exact absurd hb (lpLt hsz (by omega) (by omega))
    · refine wm_aload_n (q := 31) (i := 1) hg dX4_shed_30 rfl rfl rfl ?_
      refine wm_get (q := 34) hg dX4_shed_31 rfl fl_X4_105 (by first | assumption | decide | omega | (simp only [nO]; omega)) rfl ?_
      refine wm_iload_n (q := 35) (i := 3) hg dX4_shed_34 rfl rfl rfl ?_
      refine wm_iaload (q := 36) i hg dX4_shed_35 rfl (by first | assumption | decide | omega | (simp only [nO]; omega)) rfl rfl (by simp only [alen]; omega) ?_
      refine wm_iconst (q := 37) 1 hg dX4_shed_36 rfl (by decide) ?_
      refine wm_icmp_eq (q := 48) (q2 := 40) hg dX4_shed_37 (by decide) rfl (fun h1 => ?_) (fun h1 => ?_)
      · refine wm_aload_n (q := 49) (i := 2) hg dX4_shed_48 rfl rfl rfl ?_
        refine wm_aload_n (q := 50) (i := 1) hg dX4_shed_49 rfl rfl rfl ?_
        refine wm_iload_n (q := 51) (i := 3) hg dX4_shed_50 rfl rfl rfl ?_
        refine wm_callV0 (q := 54) hg dX4_shed_51 rfl lk_X4_111 (by decide) (c_X1_append (by decide) (by decide) (by rw [sO_same]; exact hR.1) (by rw [sO_same]; omega) rfl (by omega)) (by first | assumption | decide | omega | (simp only [nO]; omega)) ⟨rfl, by decide⟩ rfl rfl (Nat.le_of_ble_eq_true rfl) ?_
        refine wm_iinc (q := 57) (L' := [(0, _), (1, _), (2, _), (3, _)]) (nI (i + 1)) hg dX4_shed_54 rfl rfl (nadd rfl rfl) rfl rfl ?_
        refine wm_goto (q := 22) hg dX4_shed_57 (by decide) ?_
        refine wm_mem ?_ (ih (i + 1) (by omega))
        first | (simp only [eX, sO_same, sO_sO, shR] at *; simp [*]; done) | skip
      · refine wm_aload_n (q := 41) (i := 1) hg dX4_shed_40 rfl rfl rfl ?_
        refine wm_iload_n (q := 42) (i := 3) hg dX4_shed_41 rfl rfl rfl ?_
        refine wm_callV1 (q := 45) hg dX4_shed_42 rfl lk_X4_108 (by decide) (c_X1_pullOfNeighbors (by decide) (by rw [eX]; exact hz) rfl (by omega)) (by first | assumption | decide | omega | (simp only [nO]; omega)) ⟨rfl, by decide⟩ rfl rfl (Nat.le_of_ble_eq_true rfl) ?_
        refine wm_if_gt (q := 54) (q2 := 48) hg dX4_shed_45 (by decide) rfl (fun h2 => ?_) (fun h2 => ?_)
        · refine wm_iinc (q := 57) (L' := [(0, _), (1, _), (2, _), (3, _)]) (nI (i + 1)) hg dX4_shed_54 rfl rfl (nadd rfl rfl) rfl rfl ?_
          refine wm_goto (q := 22) hg dX4_shed_57 (by decide) ?_
          refine wm_mem ?_ (ih (i + 1) (by omega))
          first | (simp only [eX, sO_same, sO_sO, shR] at *; simp [*]; done) | skip
        · refine wm_aload_n (q := 49) (i := 2) hg dX4_shed_48 rfl rfl rfl ?_
          refine wm_aload_n (q := 50) (i := 1) hg dX4_shed_49 rfl rfl rfl ?_
          refine wm_iload_n (q := 51) (i := 3) hg dX4_shed_50 rfl rfl rfl ?_
          refine wm_callV0 (q := 54) hg dX4_shed_51 rfl lk_X4_111 (by decide) (c_X1_append (by decide) (by decide) (by rw [sO_same]; exact hR.1) (by rw [sO_same]; omega) rfl (by omega)) (by first | assumption | decide | omega | (simp only [nO]; omega)) ⟨rfl, by decide⟩ rfl rfl (Nat.le_of_ble_eq_true rfl) ?_
          refine wm_iinc (q := 57) (L' := [(0, _), (1, _), (2, _), (3, _)]) (nI (i + 1)) hg dX4_shed_54 rfl rfl (nadd rfl rfl) rfl rfl ?_
          refine wm_goto (q := 22) hg dX4_shed_57 (by decide) ?_
          refine wm_mem ?_ (ih (i + 1) (by omega))
          first | (simp only [eX, sO_same, sO_sO, shR] at *; simp [*]; done) | skip
set_option maxRecDepth 100000 in
set_option maxHeartbeats 4000000 in
theorem c_X4_reverse {Γ : GT} {M : Mem}  (hI : InvC M) : Ct Γ yX4_reverse cX4_reverse 5 (some .int) 7 [.ref (ad Γ 4 0 0)] M (some (.int (fRev M).1)) (fRev M).2 := by
  refine ct_of (by decide) (Nat.le_of_ble_eq_true rfl) (fun K hg hr => ?_)
  show WM Γ K _ [(0, _)] 0 []
  obtain ⟨hU, hC, hBB, hT⟩ := hI
  have hz := hC 0 (by decide)
  have hB := hBB 0 (by decide)
  have hz2 := hz.2
  have hC11 := hC 11 (by decide)
  refine wm_aload_n (q := 1) (i := 0) hg dX4_reverse_0 rfl rfl rfl ?_
  refine wm_get (q := 4) hg dX4_reverse_1 rfl fl_X4_10 (by first | assumption | decide | omega | (simp only [nO]; omega)) rfl ?_
  refine wm_get (q := 7) hg dX4_reverse_4 rfl fl_X4_50 (by first | assumption | decide | omega | (simp only [nO]; omega)) rfl ?_
  refine wm_astore_n (q := 8) (i := 1) (L' := [(0, _), (1, _)]) hg dX4_reverse_7 rfl rfl rfl rfl ?_
  refine wm_aload_n (q := 9) (i := 0) hg dX4_reverse_8 rfl rfl rfl ?_
  refine wm_get (q := 12) hg dX4_reverse_9 rfl fl_X4_40 (by first | assumption | decide | omega | (simp only [nO]; omega)) rfl ?_
  refine wm_iconst (q := 13) 0 hg dX4_reverse_12 rfl (by decide) ?_
  refine wm_cload (q := 14) 0 hg dX4_reverse_13 rfl (rfl : (0 : Int32) = nI 0) (by omega) ?_
  refine wm_astore_n (q := 15) (i := 2) (L' := [(0, _), (1, _), (2, _)]) hg dX4_reverse_14 rfl rfl rfl rfl ?_
  refine wm_aload_n (q := 16) (i := 2) hg dX4_reverse_15 rfl rfl rfl ?_
  refine wm_iconst (q := 17) 0 hg dX4_reverse_16 rfl (by decide) ?_
  refine wm_put (q := 20) hg dX4_reverse_17 rfl fl_X4_54 (by first | assumption | decide | omega | (simp only [nO]; omega)) rfl ?_
  refine wm_aload_n (q := 21) (i := 1) hg dX4_reverse_20 rfl rfl rfl ?_
  refine wm_get (q := 24) hg dX4_reverse_21 rfl fl_X4_54 (by first | assumption | decide | omega | (simp only [nO]; omega)) rfl ?_
  refine wm_iconst (q := 25) 1 hg dX4_reverse_24 rfl (by decide) ?_
  refine wm_isub (q := 26) hg dX4_reverse_25 rfl ?_
  refine wm_istore_n (q := 27) (i := 3) (L' := [(0, _), (1, _), (2, _), (3, _)]) hg dX4_reverse_26 rfl rfl rfl rfl ?_
  suffices hloop : ∀ (n j : Nat), j + n = (szN (M.1 1 0)) → WM Γ K (sO M 1 11 (rvL (M.1 1 11) (M.1 1 0) j)) [(0, .ref (ad Γ 4 0 0)), (1, .ref (ad Γ 1 0 0)), (2, .ref (ad Γ 1 11 0)), (3, .int (nI ((szN (M.1 1 0)) - j) - 1))] 27 [] from wm_Leq (by rw [sO11_c, hz.1]; rfl) (hloop (szN (M.1 1 0)) 0 (by omega))
  intro n
  induction n with
  | zero =>
    intro j hj
    have he : j = (szN (M.1 1 0)) := by omega
    subst he
    have hR := rvL_ok (M.1 1 11) (M.1 1 0) (szN (M.1 1 0)) hz2
    have hM := ok10_mi hR.1 (szN (rvL (M.1 1 11) (M.1 1 0) (szN (M.1 1 0))))
    refine wm_iload_n (q := 28) (i := 3) hg dX4_reverse_27 rfl rfl rfl ?_
    refine wm_if_lt (q := 43) (q2 := 31) hg dX4_reverse_28 (by decide) rfl (fun hb => ?_) (fun hb => ?_)
    · refine wm_aload_n (q := 44) (i := 2) hg dX4_reverse_43 rfl rfl rfl ?_
      refine wm_callV0 (q := 47) hg dX4_reverse_44 rfl lk_X4_119 (by decide) (c_X1_mirror (by decide) (by rw [sO_same]; exact hR.1)) (by first | assumption | decide | omega | (simp only [nO]; omega)) ⟨rfl, by decide⟩ rfl rfl (Nat.le_of_ble_eq_true rfl) ?_
      refine wm_mem (M' := (sO M 1 11 (rvR (M.1 1 11) (M.1 1 0)))) (by simp only [sO_same, sO_sO, rvR]) ?_
      refine wm_aload_n (q := 48) (i := 1) hg dX4_reverse_47 rfl rfl rfl ?_
      refine wm_aload_n (q := 49) (i := 2) hg dX4_reverse_48 rfl rfl rfl ?_
      refine wm_callV1 (q := 52) hg dX4_reverse_49 rfl lk_X4_122 (by decide) (c_X1_differencesFrom (M := (sO M 1 11 (rvR (M.1 1 11) (M.1 1 0)))) (by decide) (by rw [sO11_c]; exact hz) (by decide)) (by first | assumption | decide | omega | (simp only [nO]; omega)) ⟨rfl, by decide⟩ rfl rfl (Nat.le_of_ble_eq_true rfl) ?_
      refine wm_istore_n (q := 53) (i := 3) (L' := [(0, _), (1, _), (2, _), (3, _)]) hg dX4_reverse_52 rfl rfl rfl rfl ?_
      refine wm_aload_n (q := 54) (i := 0) hg dX4_reverse_53 rfl rfl rfl ?_
      refine wm_callV1 (q := 57) hg dX4_reverse_54 rfl lk_X4_82 (by decide) (c_sc11 hU hz) (by first | assumption | decide | omega | (simp only [nO]; omega)) ⟨rfl, by decide⟩ rfl rfl (Nat.le_of_ble_eq_true rfl) ?_
      refine wm_istore (q := 59) (i := 4) (L' := [(0, _), (1, _), (2, _), (3, _), (4, _)]) hg dX4_reverse_57 rfl rfl rfl ?_
      refine wm_aload_n (q := 60) (i := 1) hg dX4_reverse_59 rfl rfl rfl ?_
      refine wm_aload_n (q := 61) (i := 2) hg dX4_reverse_60 rfl rfl rfl ?_
      refine wm_callV0 (q := 64) hg dX4_reverse_61 rfl lk_X4_115 (by decide) (c_tm11 hU) (by first | assumption | decide | omega | (simp only [nO]; omega)) ⟨rfl, by decide⟩ rfl rfl (Nat.le_of_ble_eq_true rfl) ?_
      refine wm_aload_n (q := 65) (i := 0) hg dX4_reverse_64 rfl rfl rfl ?_
      refine wm_iload (q := 67) (i := 4) hg dX4_reverse_65 rfl rfl ?_
      refine wm_callV1 (q := 70) hg dX4_reverse_67 rfl lk_X4_90 (by decide) (c_endCh (ok10_tm hM) hB) (by first | assumption | decide | omega | (simp only [nO]; omega)) ⟨rfl, by decide⟩ rfl rfl (Nat.le_of_ble_eq_true rfl) ?_
      refine wm_pop (q := 71) hg dX4_reverse_70 rfl rfl ?_
      refine wm_iload_n (q := 72) (i := 3) hg dX4_reverse_71 rfl rfl rfl ?_
      exact wm_iret hg hr dX4_reverse_72 (by simp only [fRev, sO11_c, sO_same]) (by simp only [fRev, chM, sO11_c])
    · exact absurd (show nI ((szN (M.1 1 0)) - (szN (M.1 1 0))) - 1 < 0 by rw [Nat.sub_self]; decide) hb
  | succ n ih =>
    intro j hj
    have hR := rvL_ok (M.1 1 11) (M.1 1 0) j (by omega)
    have hd : nI ((szN (M.1 1 0)) - j) - 1 = nI ((szN (M.1 1 0)) - j - 1) := nsub rfl rfl (by omega)
    have eX : (sO M 1 11 (rvL (M.1 1 11) (M.1 1 0) j)).1 1 0 = (M.1 1 0) := sO11_c _ _
    rw [hd]
    refine wm_iload_n (q := 28) (i := 3) hg dX4_reverse_27 rfl rfl rfl ?_
    refine wm_if_lt (q := 43) (q2 := 31) hg dX4_reverse_28 (by decide) rfl (fun hb => ?_) (fun hb => ?_)
    · exact absurd hb (nI_pos (by omega))
    · refine wm_aload_n (q := 32) (i := 2) hg dX4_reverse_31 rfl rfl rfl ?_
      refine wm_aload_n (q := 33) (i := 1) hg dX4_reverse_32 rfl rfl rfl ?_
      refine wm_iload_n (q := 34) (i := 3) hg dX4_reverse_33 rfl rfl rfl ?_
      refine wm_callV0 (q := 37) hg dX4_reverse_34 rfl lk_X4_111 (by decide) (c_X1_append (by decide) (by decide) (by rw [sO_same]; exact hR.1) (by rw [sO_same]; omega) rfl (by omega)) (by first | assumption | decide | omega | (simp only [nO]; omega)) ⟨rfl, by decide⟩ rfl rfl (Nat.le_of_ble_eq_true rfl) ?_
      refine wm_iinc (q := 40) (L' := [(0, _), (1, _), (2, _), (3, _)]) _ hg dX4_reverse_37 rfl rfl rfl rfl rfl ?_
      refine wm_goto (q := 27) hg dX4_reverse_40 (by decide) ?_
      refine wm_mem (M' := sO M 1 11 (rvL (M.1 1 11) (M.1 1 0) (j + 1))) (by simp only [eX, sO_same, sO_sO, rvL]) (wm_Leq ?_ (ih (j + 1) (by omega)))
      rw [show (szN (M.1 1 0)) - (j + 1) = (szN (M.1 1 0)) - j - 1 by omega, Int32.sub_eq_add_neg (nI ((szN (M.1 1 0)) - j - 1)) 1]; rfl
set_option maxRecDepth 100000 in
set_option maxHeartbeats 4000000 in
theorem c_X4_load {Γ : GT} {M : Mem}  (hI : InvC M) : Ct Γ yX4_load cX4_load 3 (some .int) 7 [.ref (ad Γ 4 0 0)] M (some (.int (fLoad M).1)) (fLoad M).2 := by
  refine ct_of (by decide) (Nat.le_of_ble_eq_true rfl) (fun K hg hr => ?_)
  show WM Γ K _ [(0, _)] 0 []
  obtain ⟨hU, hC, hBB, hT⟩ := hI
  have hz := hC 0 (by decide)
  have hB := hBB 0 (by decide)
  have hz2 := hz.2
  have hC11 := hC 11 (by decide)
  have hRk : ok10 (rdR (M.1 3 0) (M.1 1 11)).2.2 := rdG_ok _ _ _ _ _ (ok10_0 _)
  by_cases h1 : (rdR (M.1 3 0) (M.1 1 11)).1 = 0
  · refine wm_aload_n (q := 1) (i := 0) hg dX4_load_0 rfl rfl rfl ?_
    refine wm_get (q := 4) hg dX4_load_1 rfl fl_X4_40 (by first | assumption | decide | omega | (simp only [nO]; omega)) rfl ?_
    refine wm_iconst (q := 5) 0 hg dX4_load_4 rfl (by decide) ?_
    refine wm_cload (q := 6) 0 hg dX4_load_5 rfl (rfl : (0 : Int32) = nI 0) (by omega) ?_
    refine wm_astore_n (q := 7) (i := 1) (L' := [(0, _), (1, _)]) hg dX4_load_6 rfl rfl rfl rfl ?_
    refine wm_aload_n (q := 8) (i := 0) hg dX4_load_7 rfl rfl rfl ?_
    refine wm_get (q := 11) hg dX4_load_8 rfl fl_X4_34 (by first | assumption | decide | omega | (simp only [nO]; omega)) rfl ?_
    refine wm_aload_n (q := 12) (i := 1) hg dX4_load_11 rfl rfl rfl ?_
    refine wm_callV1 (q := 15) hg dX4_load_12 rfl lk_X4_225 (by decide) (c_X3_readInto1 hT h1) (by first | assumption | decide | omega | (simp only [nO]; omega)) ⟨rfl, by decide⟩ rfl rfl (Nat.le_of_ble_eq_true rfl) ?_
    refine wm_if_ne (q := 21) (q2 := 18) hg dX4_load_15 (by decide) rfl (fun h2 => ?_) (fun h2 => ?_)
    · refine wm_aload_n (q := 22) (i := 0) hg dX4_load_21 rfl rfl rfl ?_
      refine wm_callV1 (q := 25) hg dX4_load_22 rfl lk_X4_82 (by decide) (c_sc11 hU hz) (by first | assumption | decide | omega | (simp only [nO]; omega)) ⟨rfl, by decide⟩ rfl rfl (Nat.le_of_ble_eq_true rfl) ?_
      refine wm_istore_n (q := 26) (i := 2) (L' := [(0, _), (1, _), (2, _)]) hg dX4_load_25 rfl rfl rfl rfl ?_
      refine wm_aload_n (q := 27) (i := 0) hg dX4_load_26 rfl rfl rfl ?_
      refine wm_get (q := 30) hg dX4_load_27 rfl fl_X4_10 (by first | assumption | decide | omega | (simp only [nO]; omega)) rfl ?_
      refine wm_get (q := 33) hg dX4_load_30 rfl fl_X4_50 (by first | assumption | decide | omega | (simp only [nO]; omega)) rfl ?_
      refine wm_aload_n (q := 34) (i := 1) hg dX4_load_33 rfl rfl rfl ?_
      refine wm_callV0 (q := 37) hg dX4_load_34 rfl lk_X4_115 (by decide) (c_tm11 hU) (by first | assumption | decide | omega | (simp only [nO]; omega)) ⟨rfl, by decide⟩ rfl rfl (Nat.le_of_ble_eq_true rfl) ?_
      refine wm_aload_n (q := 38) (i := 0) hg dX4_load_37 rfl rfl rfl ?_
      refine wm_iload_n (q := 39) (i := 2) hg dX4_load_38 rfl rfl rfl ?_
      refine wm_callV1 (q := 42) hg dX4_load_39 rfl lk_X4_90 (by decide) (c_endCh (ok10_tm hRk) hB) (by first | assumption | decide | omega | (simp only [nO]; omega)) ⟨rfl, by decide⟩ rfl rfl (Nat.le_of_ble_eq_true rfl) ?_
      refine wm_pop (q := 43) hg dX4_load_42 rfl rfl ?_
      refine wm_aload_n (q := 44) (i := 0) hg dX4_load_43 rfl rfl rfl ?_
      refine wm_get (q := 47) hg dX4_load_44 rfl fl_X4_10 (by first | assumption | decide | omega | (simp only [nO]; omega)) rfl ?_
      refine wm_get (q := 50) hg dX4_load_47 rfl fl_X4_50 (by first | assumption | decide | omega | (simp only [nO]; omega)) rfl ?_
      refine wm_get (q := 53) hg dX4_load_50 rfl fl_X4_54 (by first | assumption | decide | omega | (simp only [nO]; omega)) rfl ?_
      exact wm_iret hg hr dX4_load_53 (by simp only [fLoad, if_pos h1, setP_c, endX, stB_1, tmX_0]) (by simp only [fLoad, if_pos h1, chM, sO11_c])
    · exact absurd h2 (by decide)
  · refine wm_aload_n (q := 1) (i := 0) hg dX4_load_0 rfl rfl rfl ?_
    refine wm_get (q := 4) hg dX4_load_1 rfl fl_X4_40 (by first | assumption | decide | omega | (simp only [nO]; omega)) rfl ?_
    refine wm_iconst (q := 5) 0 hg dX4_load_4 rfl (by decide) ?_
    refine wm_cload (q := 6) 0 hg dX4_load_5 rfl (rfl : (0 : Int32) = nI 0) (by omega) ?_
    refine wm_astore_n (q := 7) (i := 1) (L' := [(0, _), (1, _)]) hg dX4_load_6 rfl rfl rfl rfl ?_
    refine wm_aload_n (q := 8) (i := 0) hg dX4_load_7 rfl rfl rfl ?_
    refine wm_get (q := 11) hg dX4_load_8 rfl fl_X4_34 (by first | assumption | decide | omega | (simp only [nO]; omega)) rfl ?_
    refine wm_aload_n (q := 12) (i := 1) hg dX4_load_11 rfl rfl rfl ?_
    refine wm_callV1 (q := 15) hg dX4_load_12 rfl lk_X4_225 (by decide) (c_X3_readInto0 hT h1) (by first | assumption | decide | omega | (simp only [nO]; omega)) ⟨rfl, by decide⟩ rfl rfl (Nat.le_of_ble_eq_true rfl) ?_
    refine wm_if_ne (q := 21) (q2 := 18) hg dX4_load_15 (by decide) rfl (fun h2 => ?_) (fun h2 => ?_)
    · exact absurd rfl h2
    · refine wm_ldc (q := 20) (-1000000002) hg dX4_load_18 rfl ld_X4_97 ?_
      exact wm_iret hg hr dX4_load_20 (by simp only [fLoad, if_neg h1]) (by simp only [fLoad, if_neg h1])
set_option maxRecDepth 100000 in
set_option maxHeartbeats 4000000 in
theorem c_X4_mean {Γ : GT} {M : Mem} (hI : InvC M) (hn : vf_n32 (fMean M)) : Ct Γ yX4_mean cX4_mean 1 (some .float) 3 [.ref (ad Γ 4 0 0)] M (some (.float (fMean M))) M := by
  refine ct_of (by decide) (Nat.le_of_ble_eq_true rfl) (fun K hg hr => ?_)
  show WM Γ K _ [(0, _)] 0 []
  obtain ⟨hU, hC, hBB, hT⟩ := hI
  have hz := hC 0 (by decide)
  have hB := hBB 0 (by decide)
  have hz2 := hz.2
  refine wm_aload_n (q := 1) (i := 0) hg dX4_mean_0 rfl rfl rfl ?_
  refine wm_get (q := 4) hg dX4_mean_1 rfl fl_X4_10 (by first | assumption | decide | omega | (simp only [nO]; omega)) rfl ?_
  refine wm_get (q := 7) hg dX4_mean_4 rfl fl_X4_50 (by first | assumption | decide | omega | (simp only [nO]; omega)) rfl ?_
  refine wm_callV1 (q := 10) hg dX4_mean_7 rfl lk_X4_159 (by decide) (c_X1_energy (by first | assumption | decide | omega) (by first | assumption | decide | omega)) (by first | assumption | decide | omega | (simp only [nO]; omega)) ⟨rfl, by decide⟩ rfl rfl (Nat.le_of_ble_eq_true rfl) ?_
  refine wm_i2f (q := 11) hg dX4_mean_10 rfl ?_
  refine wm_aload_n (q := 12) (i := 0) hg dX4_mean_11 rfl rfl rfl ?_
  refine wm_get (q := 15) hg dX4_mean_12 rfl fl_X4_10 (by first | assumption | decide | omega | (simp only [nO]; omega)) rfl ?_
  refine wm_get (q := 18) hg dX4_mean_15 rfl fl_X4_50 (by first | assumption | decide | omega | (simp only [nO]; omega)) rfl ?_
  refine wm_get (q := 21) hg dX4_mean_18 rfl fl_X4_54 (by first | assumption | decide | omega | (simp only [nO]; omega)) rfl ?_
  refine wm_i2f (q := 22) hg dX4_mean_21 rfl ?_
  refine wm_fdiv (q := 23) hg dX4_mean_22 rfl hn ?_
  exact wm_fret hg hr dX4_mean_23 (rfl) (rfl)
end
