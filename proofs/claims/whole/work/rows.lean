section
-- ===== PART A: goes FIRST, ahead of the names: the tables' words, and 'selects' of the private methods out of them =====
/-- a private method of a class that the tables say can be made, by its rows of tables_1 -/
def lw_okq (q : MethodName × Nat) : Prop := (q.1.cls ≠ "java/lang/invoke/MethodHandle" ∧ q.1.cls ≠ "java/lang/invoke/VarHandle") ∧ Cond.instantiable q.1.cls q.2 ∈ tables_1 ∧ Cond.privateMethod q.1 ∈ tables_1 ∧ Cond.instanceMethod q.1 ∈ tables_1
theorem lw_p0 : lw_okq (⟨"MagnetChain", "record", "()V"⟩, 7) := ⟨⟨by decide +kernel, by decide +kernel⟩, List.mem_of_getElem? (i := 11) (by decide +kernel), List.mem_of_getElem? (i := 177) (by decide +kernel), List.mem_of_getElem? (i := 178) (by decide +kernel)⟩
theorem lw_p1 : lw_okq (⟨"MagnetChain", "dropOldest", "()V"⟩, 7) := ⟨⟨by decide +kernel, by decide +kernel⟩, List.mem_of_getElem? (i := 11) (by decide +kernel), List.mem_of_getElem? (i := 181) (by decide +kernel), List.mem_of_getElem? (i := 182) (by decide +kernel)⟩
theorem lw_p2 : lw_okq (⟨"MagnetChain$Chain", "settleOnce", "(LMagnetChain$Books;)Z"⟩, 8) := ⟨⟨by decide +kernel, by decide +kernel⟩, List.mem_of_getElem? (i := 25) (by decide +kernel), List.mem_of_getElem? (i := 221) (by decide +kernel), List.mem_of_getElem? (i := 222) (by decide +kernel)⟩
theorem lw_p3 : lw_okq (⟨"MagnetChain$Chain", "pullOn", "(II)I"⟩, 8) := ⟨⟨by decide +kernel, by decide +kernel⟩, List.mem_of_getElem? (i := 25) (by decide +kernel), List.mem_of_getElem? (i := 229) (by decide +kernel), List.mem_of_getElem? (i := 230) (by decide +kernel)⟩
theorem lw_p4 : lw_okq (⟨"MagnetChain$Chain", "partOfField", "(I)I"⟩, 8) := ⟨⟨by decide +kernel, by decide +kernel⟩, List.mem_of_getElem? (i := 25) (by decide +kernel), List.mem_of_getElem? (i := 238) (by decide +kernel), List.mem_of_getElem? (i := 239) (by decide +kernel)⟩
theorem lw_p5 : lw_okq (⟨"MagnetChain$Books", "dropOldestTurn", "()V"⟩, 8) := ⟨⟨by decide +kernel, by decide +kernel⟩, List.mem_of_getElem? (i := 71) (by decide +kernel), List.mem_of_getElem? (i := 256) (by decide +kernel), List.mem_of_getElem? (i := 257) (by decide +kernel)⟩
theorem lw_p6 : lw_okq (⟨"MagnetChain", "startChange", "()I"⟩, 7) := ⟨⟨by decide +kernel, by decide +kernel⟩, List.mem_of_getElem? (i := 11) (by decide +kernel), List.mem_of_getElem? (i := 268) (by decide +kernel), List.mem_of_getElem? (i := 269) (by decide +kernel)⟩
theorem lw_p7 : lw_okq (⟨"MagnetChain$Chain", "copyMagnet", "(ILMagnetChain$Chain;I)V"⟩, 8) := ⟨⟨by decide +kernel, by decide +kernel⟩, List.mem_of_getElem? (i := 25) (by decide +kernel), List.mem_of_getElem? (i := 280) (by decide +kernel), List.mem_of_getElem? (i := 281) (by decide +kernel)⟩
theorem lw_p8 : lw_okq (⟨"MagnetChain", "endChange", "(I)I"⟩, 7) := ⟨⟨by decide +kernel, by decide +kernel⟩, List.mem_of_getElem? (i := 11) (by decide +kernel), List.mem_of_getElem? (i := 284) (by decide +kernel), List.mem_of_getElem? (i := 285) (by decide +kernel)⟩
theorem lw_p9 : lw_okq (⟨"MagnetChain", "isMagnet", "(I)Z"⟩, 7) := ⟨⟨by decide +kernel, by decide +kernel⟩, List.mem_of_getElem? (i := 11) (by decide +kernel), List.mem_of_getElem? (i := 292) (by decide +kernel), List.mem_of_getElem? (i := 293) (by decide +kernel)⟩
theorem lw_p10 : lw_okq (⟨"MagnetChain$Text", "refuse", "(II)Z"⟩, 4) := ⟨⟨by decide +kernel, by decide +kernel⟩, List.mem_of_getElem? (i := 120) (by decide +kernel), List.mem_of_getElem? (i := 445) (by decide +kernel), List.mem_of_getElem? (i := 446) (by decide +kernel)⟩
theorem lw_p11 : lw_okq (⟨"MagnetChainModel", "lay", "(I)V"⟩, 21) := ⟨⟨by decide +kernel, by decide +kernel⟩, List.mem_of_getElem? (i := 462) (by decide +kernel), List.mem_of_getElem? (i := 469) (by decide +kernel), List.mem_of_getElem? (i := 470) (by decide +kernel)⟩
theorem lw_p12 : lw_okq (⟨"MagnetChainModel", "record", "()V"⟩, 21) := ⟨⟨by decide +kernel, by decide +kernel⟩, List.mem_of_getElem? (i := 462) (by decide +kernel), List.mem_of_getElem? (i := 550) (by decide +kernel), List.mem_of_getElem? (i := 551) (by decide +kernel)⟩
theorem lw_p13 : lw_okq (⟨"MagnetChainModel", "settle", "()I"⟩, 21) := ⟨⟨by decide +kernel, by decide +kernel⟩, List.mem_of_getElem? (i := 462) (by decide +kernel), List.mem_of_getElem? (i := 554) (by decide +kernel), List.mem_of_getElem? (i := 555) (by decide +kernel)⟩
theorem lw_p14 : lw_okq (⟨"MagnetChainModel", "free", "(II)I"⟩, 21) := ⟨⟨by decide +kernel, by decide +kernel⟩, List.mem_of_getElem? (i := 462) (by decide +kernel), List.mem_of_getElem? (i := 558) (by decide +kernel), List.mem_of_getElem? (i := 559) (by decide +kernel)⟩
theorem lw_p15 : lw_okq (⟨"MagnetChainModel", "angle", "(I)I"⟩, 21) := ⟨⟨by decide +kernel, by decide +kernel⟩, List.mem_of_getElem? (i := 462) (by decide +kernel), List.mem_of_getElem? (i := 562) (by decide +kernel), List.mem_of_getElem? (i := 563) (by decide +kernel)⟩
def lw_privs_1 : List (MethodName × Nat) := [(⟨"MagnetChain", "record", "()V"⟩, 7), (⟨"MagnetChain", "dropOldest", "()V"⟩, 7), (⟨"MagnetChain$Chain", "settleOnce", "(LMagnetChain$Books;)Z"⟩, 8), (⟨"MagnetChain$Chain", "pullOn", "(II)I"⟩, 8), (⟨"MagnetChain$Chain", "partOfField", "(I)I"⟩, 8), (⟨"MagnetChain$Books", "dropOldestTurn", "()V"⟩, 8), (⟨"MagnetChain", "startChange", "()I"⟩, 7), (⟨"MagnetChain$Chain", "copyMagnet", "(ILMagnetChain$Chain;I)V"⟩, 8), (⟨"MagnetChain", "endChange", "(I)I"⟩, 7), (⟨"MagnetChain", "isMagnet", "(I)Z"⟩, 7), (⟨"MagnetChain$Text", "refuse", "(II)Z"⟩, 4), (⟨"MagnetChainModel", "lay", "(I)V"⟩, 21), (⟨"MagnetChainModel", "record", "()V"⟩, 21), (⟨"MagnetChainModel", "settle", "()I"⟩, 21), (⟨"MagnetChainModel", "free", "(II)I"⟩, 21), (⟨"MagnetChainModel", "angle", "(I)I"⟩, 21)]
theorem lw_r1 : ∀ q ∈ lw_privs_1, lw_okq q := List.forall_mem_cons.mpr ⟨lw_p0, List.forall_mem_cons.mpr ⟨lw_p1, List.forall_mem_cons.mpr ⟨lw_p2, List.forall_mem_cons.mpr ⟨lw_p3, List.forall_mem_cons.mpr ⟨lw_p4, List.forall_mem_cons.mpr ⟨lw_p5, List.forall_mem_cons.mpr ⟨lw_p6, List.forall_mem_cons.mpr ⟨lw_p7, List.forall_mem_cons.mpr ⟨lw_p8, List.forall_mem_cons.mpr ⟨lw_p9, List.forall_mem_cons.mpr ⟨lw_p10, List.forall_mem_cons.mpr ⟨lw_p11, List.forall_mem_cons.mpr ⟨lw_p12, List.forall_mem_cons.mpr ⟨lw_p13, List.forall_mem_cons.mpr ⟨lw_p14, List.forall_mem_cons.mpr ⟨lw_p15, fun _ h => absurd h List.not_mem_nil⟩⟩⟩⟩⟩⟩⟩⟩⟩⟩⟩⟩⟩⟩⟩⟩
theorem lw_p16 : lw_okq (⟨"MagnetChainModel", "part", "(II)I"⟩, 21) := ⟨⟨by decide +kernel, by decide +kernel⟩, List.mem_of_getElem? (i := 462) (by decide +kernel), List.mem_of_getElem? (i := 566) (by decide +kernel), List.mem_of_getElem? (i := 567) (by decide +kernel)⟩
theorem lw_p17 : lw_okq (⟨"MagnetChainModel", "pair", "(III)I"⟩, 21) := ⟨⟨by decide +kernel, by decide +kernel⟩, List.mem_of_getElem? (i := 462) (by decide +kernel), List.mem_of_getElem? (i := 570) (by decide +kernel), List.mem_of_getElem? (i := 571) (by decide +kernel)⟩
theorem lw_p18 : lw_okq (⟨"MagnetChainModel", "isMagnet", "(I)Z"⟩, 21) := ⟨⟨by decide +kernel, by decide +kernel⟩, List.mem_of_getElem? (i := 462) (by decide +kernel), List.mem_of_getElem? (i := 574) (by decide +kernel), List.mem_of_getElem? (i := 575) (by decide +kernel)⟩
theorem lw_p19 : lw_okq (⟨"MagnetChainModel", "field", "(I)I"⟩, 21) := ⟨⟨by decide +kernel, by decide +kernel⟩, List.mem_of_getElem? (i := 462) (by decide +kernel), List.mem_of_getElem? (i := 584) (by decide +kernel), List.mem_of_getElem? (i := 585) (by decide +kernel)⟩
theorem lw_p20 : lw_okq (⟨"MagnetChainModel", "note", "(III)V"⟩, 21) := ⟨⟨by decide +kernel, by decide +kernel⟩, List.mem_of_getElem? (i := 462) (by decide +kernel), List.mem_of_getElem? (i := 591) (by decide +kernel), List.mem_of_getElem? (i := 592) (by decide +kernel)⟩
theorem lw_p21 : lw_okq (⟨"MagnetChainModel", "energy", "()I"⟩, 21) := ⟨⟨by decide +kernel, by decide +kernel⟩, List.mem_of_getElem? (i := 462) (by decide +kernel), List.mem_of_getElem? (i := 600) (by decide +kernel), List.mem_of_getElem? (i := 601) (by decide +kernel)⟩
theorem lw_p22 : lw_okq (⟨"MagnetChainModel", "end", "(I)I"⟩, 21) := ⟨⟨by decide +kernel, by decide +kernel⟩, List.mem_of_getElem? (i := 462) (by decide +kernel), List.mem_of_getElem? (i := 604) (by decide +kernel), List.mem_of_getElem? (i := 605) (by decide +kernel)⟩
theorem lw_p23 : lw_okq (⟨"MagnetChainModel", "take", "(I)V"⟩, 21) := ⟨⟨by decide +kernel, by decide +kernel⟩, List.mem_of_getElem? (i := 462) (by decide +kernel), List.mem_of_getElem? (i := 612) (by decide +kernel), List.mem_of_getElem? (i := 613) (by decide +kernel)⟩
theorem lw_p24 : lw_okq (⟨"MagnetChainModel", "shedSet", "()I"⟩, 21) := ⟨⟨by decide +kernel, by decide +kernel⟩, List.mem_of_getElem? (i := 462) (by decide +kernel), List.mem_of_getElem? (i := 620) (by decide +kernel), List.mem_of_getElem? (i := 621) (by decide +kernel)⟩
theorem lw_p25 : lw_okq (⟨"MagnetChainModel", "isPush", "(II)Z"⟩, 21) := ⟨⟨by decide +kernel, by decide +kernel⟩, List.mem_of_getElem? (i := 462) (by decide +kernel), List.mem_of_getElem? (i := 639) (by decide +kernel), List.mem_of_getElem? (i := 640) (by decide +kernel)⟩
theorem lw_p26 : lw_okq (⟨"MagnetChainModel", "walls", "()I"⟩, 21) := ⟨⟨by decide +kernel, by decide +kernel⟩, List.mem_of_getElem? (i := 462) (by decide +kernel), List.mem_of_getElem? (i := 655) (by decide +kernel), List.mem_of_getElem? (i := 656) (by decide +kernel)⟩
theorem lw_p27 : lw_okq (⟨"MagnetChainModel", "unsolved", "()I"⟩, 21) := ⟨⟨by decide +kernel, by decide +kernel⟩, List.mem_of_getElem? (i := 462) (by decide +kernel), List.mem_of_getElem? (i := 659) (by decide +kernel), List.mem_of_getElem? (i := 660) (by decide +kernel)⟩
theorem lw_p28 : lw_okq (⟨"MagnetChainModel", "held", "()I"⟩, 21) := ⟨⟨by decide +kernel, by decide +kernel⟩, List.mem_of_getElem? (i := 462) (by decide +kernel), List.mem_of_getElem? (i := 663) (by decide +kernel), List.mem_of_getElem? (i := 664) (by decide +kernel)⟩
theorem lw_p29 : lw_okq (⟨"MagnetChainModel", "pointsTo", "(I)I"⟩, 21) := ⟨⟨by decide +kernel, by decide +kernel⟩, List.mem_of_getElem? (i := 462) (by decide +kernel), List.mem_of_getElem? (i := 679) (by decide +kernel), List.mem_of_getElem? (i := 680) (by decide +kernel)⟩
theorem lw_p30 : lw_okq (⟨"MagnetChainModel", "putAside", "()V"⟩, 21) := ⟨⟨by decide +kernel, by decide +kernel⟩, List.mem_of_getElem? (i := 462) (by decide +kernel), List.mem_of_getElem? (i := 691) (by decide +kernel), List.mem_of_getElem? (i := 692) (by decide +kernel)⟩
theorem lw_p31 : lw_okq (⟨"MagnetChainModel", "putBack", "()V"⟩, 21) := ⟨⟨by decide +kernel, by decide +kernel⟩, List.mem_of_getElem? (i := 462) (by decide +kernel), List.mem_of_getElem? (i := 695) (by decide +kernel), List.mem_of_getElem? (i := 696) (by decide +kernel)⟩
def lw_privs_2 : List (MethodName × Nat) := [(⟨"MagnetChainModel", "part", "(II)I"⟩, 21), (⟨"MagnetChainModel", "pair", "(III)I"⟩, 21), (⟨"MagnetChainModel", "isMagnet", "(I)Z"⟩, 21), (⟨"MagnetChainModel", "field", "(I)I"⟩, 21), (⟨"MagnetChainModel", "note", "(III)V"⟩, 21), (⟨"MagnetChainModel", "energy", "()I"⟩, 21), (⟨"MagnetChainModel", "end", "(I)I"⟩, 21), (⟨"MagnetChainModel", "take", "(I)V"⟩, 21), (⟨"MagnetChainModel", "shedSet", "()I"⟩, 21), (⟨"MagnetChainModel", "isPush", "(II)Z"⟩, 21), (⟨"MagnetChainModel", "walls", "()I"⟩, 21), (⟨"MagnetChainModel", "unsolved", "()I"⟩, 21), (⟨"MagnetChainModel", "held", "()I"⟩, 21), (⟨"MagnetChainModel", "pointsTo", "(I)I"⟩, 21), (⟨"MagnetChainModel", "putAside", "()V"⟩, 21), (⟨"MagnetChainModel", "putBack", "()V"⟩, 21)]
theorem lw_r2 : ∀ q ∈ lw_privs_2, lw_okq q := List.forall_mem_cons.mpr ⟨lw_p16, List.forall_mem_cons.mpr ⟨lw_p17, List.forall_mem_cons.mpr ⟨lw_p18, List.forall_mem_cons.mpr ⟨lw_p19, List.forall_mem_cons.mpr ⟨lw_p20, List.forall_mem_cons.mpr ⟨lw_p21, List.forall_mem_cons.mpr ⟨lw_p22, List.forall_mem_cons.mpr ⟨lw_p23, List.forall_mem_cons.mpr ⟨lw_p24, List.forall_mem_cons.mpr ⟨lw_p25, List.forall_mem_cons.mpr ⟨lw_p26, List.forall_mem_cons.mpr ⟨lw_p27, List.forall_mem_cons.mpr ⟨lw_p28, List.forall_mem_cons.mpr ⟨lw_p29, List.forall_mem_cons.mpr ⟨lw_p30, List.forall_mem_cons.mpr ⟨lw_p31, fun _ h => absurd h List.not_mem_nil⟩⟩⟩⟩⟩⟩⟩⟩⟩⟩⟩⟩⟩⟩⟩⟩
theorem lw_p32 : lw_okq (⟨"MagnetChainModel", "run", "(III)I"⟩, 21) := ⟨⟨by decide +kernel, by decide +kernel⟩, List.mem_of_getElem? (i := 462) (by decide +kernel), List.mem_of_getElem? (i := 703) (by decide +kernel), List.mem_of_getElem? (i := 704) (by decide +kernel)⟩
theorem lw_p33 : lw_okq (⟨"MagnetChainModel", "to", "(II)I"⟩, 21) := ⟨⟨by decide +kernel, by decide +kernel⟩, List.mem_of_getElem? (i := 462) (by decide +kernel), List.mem_of_getElem? (i := 707) (by decide +kernel), List.mem_of_getElem? (i := 708) (by decide +kernel)⟩
theorem lw_p34 : lw_okq (⟨"MagnetChainModel", "isSolvedBy", "(I)Z"⟩, 21) := ⟨⟨by decide +kernel, by decide +kernel⟩, List.mem_of_getElem? (i := 462) (by decide +kernel), List.mem_of_getElem? (i := 715) (by decide +kernel), List.mem_of_getElem? (i := 716) (by decide +kernel)⟩
theorem lw_p35 : lw_okq (⟨"MagnetChainModel", "search", "(I)Z"⟩, 21) := ⟨⟨by decide +kernel, by decide +kernel⟩, List.mem_of_getElem? (i := 462) (by decide +kernel), List.mem_of_getElem? (i := 719) (by decide +kernel), List.mem_of_getElem? (i := 720) (by decide +kernel)⟩
theorem lw_p36 : lw_okq (⟨"MagnetChainModel", "store", "(I)V"⟩, 21) := ⟨⟨by decide +kernel, by decide +kernel⟩, List.mem_of_getElem? (i := 462) (by decide +kernel), List.mem_of_getElem? (i := 723) (by decide +kernel), List.mem_of_getElem? (i := 724) (by decide +kernel)⟩
theorem lw_p37 : lw_okq (⟨"MagnetChainModel", "choices", "()I"⟩, 21) := ⟨⟨by decide +kernel, by decide +kernel⟩, List.mem_of_getElem? (i := 462) (by decide +kernel), List.mem_of_getElem? (i := 727) (by decide +kernel), List.mem_of_getElem? (i := 728) (by decide +kernel)⟩
theorem lw_p38 : lw_okq (⟨"MagnetChainModel", "restore", "(I)V"⟩, 21) := ⟨⟨by decide +kernel, by decide +kernel⟩, List.mem_of_getElem? (i := 462) (by decide +kernel), List.mem_of_getElem? (i := 731) (by decide +kernel), List.mem_of_getElem? (i := 732) (by decide +kernel)⟩
theorem lw_p39 : lw_okq (⟨"MagnetChainModel", "readAll", "()V"⟩, 21) := ⟨⟨by decide +kernel, by decide +kernel⟩, List.mem_of_getElem? (i := 462) (by decide +kernel), List.mem_of_getElem? (i := 747) (by decide +kernel), List.mem_of_getElem? (i := 748) (by decide +kernel)⟩
theorem lw_p40 : lw_okq (⟨"MagnetChainModel", "fails", "(II)V"⟩, 21) := ⟨⟨by decide +kernel, by decide +kernel⟩, List.mem_of_getElem? (i := 462) (by decide +kernel), List.mem_of_getElem? (i := 751) (by decide +kernel), List.mem_of_getElem? (i := 752) (by decide +kernel)⟩
theorem lw_p41 : lw_okq (⟨"MagnetChainModel", "readByte", "(I)V"⟩, 21) := ⟨⟨by decide +kernel, by decide +kernel⟩, List.mem_of_getElem? (i := 462) (by decide +kernel), List.mem_of_getElem? (i := 755) (by decide +kernel), List.mem_of_getElem? (i := 756) (by decide +kernel)⟩
def lw_privs_3 : List (MethodName × Nat) := [(⟨"MagnetChainModel", "run", "(III)I"⟩, 21), (⟨"MagnetChainModel", "to", "(II)I"⟩, 21), (⟨"MagnetChainModel", "isSolvedBy", "(I)Z"⟩, 21), (⟨"MagnetChainModel", "search", "(I)Z"⟩, 21), (⟨"MagnetChainModel", "store", "(I)V"⟩, 21), (⟨"MagnetChainModel", "choices", "()I"⟩, 21), (⟨"MagnetChainModel", "restore", "(I)V"⟩, 21), (⟨"MagnetChainModel", "readAll", "()V"⟩, 21), (⟨"MagnetChainModel", "fails", "(II)V"⟩, 21), (⟨"MagnetChainModel", "readByte", "(I)V"⟩, 21)]
theorem lw_r3 : ∀ q ∈ lw_privs_3, lw_okq q := List.forall_mem_cons.mpr ⟨lw_p32, List.forall_mem_cons.mpr ⟨lw_p33, List.forall_mem_cons.mpr ⟨lw_p34, List.forall_mem_cons.mpr ⟨lw_p35, List.forall_mem_cons.mpr ⟨lw_p36, List.forall_mem_cons.mpr ⟨lw_p37, List.forall_mem_cons.mpr ⟨lw_p38, List.forall_mem_cons.mpr ⟨lw_p39, List.forall_mem_cons.mpr ⟨lw_p40, List.forall_mem_cons.mpr ⟨lw_p41, fun _ h => absurd h List.not_mem_nil⟩⟩⟩⟩⟩⟩⟩⟩⟩⟩
def lw_privs : List (MethodName × Nat) := lw_privs_1 ++ (lw_privs_2 ++ (lw_privs_3))
def lw_tbl : List Cond := k2_sels lw_privs ++ tables_1
theorem lw_privs_ok : ∀ q ∈ lw_privs, lw_okq q := by
  show ∀ q ∈ lw_privs_1 ++ (lw_privs_2 ++ (lw_privs_3)), lw_okq q
  exact List.forall_mem_append.mpr ⟨lw_r1, List.forall_mem_append.mpr ⟨lw_r2, lw_r3⟩⟩
/-- the streams that the claim lets the run draw from -/
abbrev lw_cs : List Choice := [Jvm.Choice.named "NaN.bits"]
theorem lw_bits : nanBits ∈ lw_cs := by first | decide | exact List.mem_cons_self | simp [lw_cs, nanBits]
-- ===== end of PART A; then your names; then what follows =====
end
section
/-! ===== BEGIN words of one list among another's, by their places ===== -/
theorem goodIn_r {big : List Cond} (ws : List Cond) (ps : List Nat) (hp : ws = ps.filterMap (fun i => big[i]?)) (h : ws.all goodWord = true) : GoodIn big ws := by
  intro w hw
  have h1 := List.all_eq_true.mp h w hw
  rw [hp] at hw
  obtain ⟨i, -, hi⟩ := List.mem_filterMap.mp hw
  have hm : w ∈ big := by first | exact List.mem_of_getElem? hi | exact List.getElem?_mem hi
  exact ⟨hm, good_of_word h1⟩
theorem goodIn_app {big a b : List Cond} (ha : GoodIn big a) (hb : GoodIn big b) : GoodIn big (a ++ b) := fun w h => (List.mem_append.mp h).elim (ha w) (hb w)
theorem goodIn_ca {big a b : List Cond} {c : Cond} (ha : GoodIn big (c :: a)) (hb : GoodIn big b) : GoodIn big (c :: (a ++ b)) := fun w h => (List.mem_cons.mp h).elim (fun e => ha w (List.mem_cons.mpr (Or.inl e))) (fun h => (List.mem_append.mp h).elim (fun h => ha w (List.mem_cons.mpr (Or.inr h))) (hb w))
theorem goodIn_sub {big ws : List Cond} (hm : ∀ w ∈ ws, w ∈ big) (h : ws.all goodWord = true) : GoodIn big ws := fun w hw => ⟨hm w hw, good_of_word (List.all_eq_true.mp h w hw)⟩
/-! ===== END ===== -/

/-! ===== BEGIN printed: names, fields, word lists, decode rows ===== -/
def RX0 : String := "MagnetChain$Books"
def TX0 : u_T := fun k => match k with
  | 0 => ("MagnetChain$Books", "work", "I", false)
  | 1 => ("MagnetChain$Books", "heat", "I", false)
  | 2 => ("MagnetChain$Books", "turns", "I", false)
  | 3 => ("MagnetChain$Books", "pushes", "I", false)
  | 4 => ("MagnetChain$Books", "logged", "I", false)
  | 5 => ("MagnetChain$Books", "loggedMagnets", "[I", true)
  | 6 => ("MagnetChain$Books", "loggedDirections", "[I", true)
  | _ => ("MagnetChain$Books", "loggedHeats", "[I", true)
def tyX0 : Nat → FieldType := fun k => match k with
  | 0 => .int
  | 1 => .int
  | 2 => .int
  | 3 => .int
  | 4 => .int
  | 5 => .array .int
  | 6 => .array .int
  | _ => .array .int
abbrev wsX00 : List Cond := u_ws RX0 TX0 8
theorem nmX0 : ∀ a, a < 8 → ∀ b, b < 8 → a ≠ b → (TX0 a).2.1 ≠ (TX0 b).2.1 := by decide +kernel
theorem tyX0_ok : ∀ k, k < 8 → parseFieldDescriptor (TX0 k).2.2.1 = some (tyX0 k) := by decide +kernel
abbrev cX0_init : ByteArray := prog_2_method_1_code
def yX0_init : MethodName := ⟨RX0, "<init>", "()V"⟩
abbrev cX0_takeFrom : ByteArray := prog_2_method_2_code
def yX0_takeFrom : MethodName := ⟨RX0, "takeFrom", "(LMagnetChain$Books;)V"⟩
abbrev cX0_clear : ByteArray := prog_2_method_3_code
def yX0_clear : MethodName := ⟨RX0, "clear", "()V"⟩
abbrev cX0_enter : ByteArray := prog_2_method_4_code
def yX0_enter : MethodName := ⟨RX0, "enter", "(III)V"⟩
abbrev cX0_dropOldestTurn : ByteArray := prog_2_method_5_code
def yX0_dropOldestTurn : MethodName := ⟨RX0, "dropOldestTurn", "()V"⟩
def RX1 : String := "MagnetChain$Chain"
def TX1 : u_T := fun k => match k with
  | 0 => ("MagnetChain$Chain", "size", "I", false)
  | 1 => ("MagnetChain$Chain", "angles", "[I", true)
  | 2 => ("MagnetChain$Chain", "held", "[I", true)
  | 3 => ("MagnetChain$Chain", "goals", "[I", true)
  | 4 => ("MagnetChain$Chain", "coupling", "I", false)
  | 5 => ("MagnetChain$Chain", "depth", "I", false)
  | 6 => ("MagnetChain$Chain", "strength", "I", false)
  | _ => ("MagnetChain$Chain", "side", "I", false)
def tyX1 : Nat → FieldType := fun k => match k with
  | 0 => .int
  | 1 => .array .int
  | 2 => .array .int
  | 3 => .array .int
  | 4 => .int
  | 5 => .int
  | 6 => .int
  | _ => .int
abbrev wsX10 : List Cond := u_ws RX1 TX1 8
theorem nmX1 : ∀ a, a < 8 → ∀ b, b < 8 → a ≠ b → (TX1 a).2.1 ≠ (TX1 b).2.1 := by decide +kernel
theorem tyX1_ok : ∀ k, k < 8 → parseFieldDescriptor (TX1 k).2.2.1 = some (tyX1 k) := by decide +kernel
abbrev cX1_init : ByteArray := prog_3_method_1_code
def yX1_init : MethodName := ⟨RX1, "<init>", "()V"⟩
abbrev cX1_takeFrom : ByteArray := prog_3_method_2_code
def yX1_takeFrom : MethodName := ⟨RX1, "takeFrom", "(LMagnetChain$Chain;)V"⟩
abbrev cX1_takeMagnets : ByteArray := prog_3_method_3_code
def yX1_takeMagnets : MethodName := ⟨RX1, "takeMagnets", "(LMagnetChain$Chain;)V"⟩
abbrev cX1_takeAngles : ByteArray := prog_3_method_4_code
def yX1_takeAngles : MethodName := ⟨RX1, "takeAngles", "(LMagnetChain$Chain;)V"⟩
abbrev cX1_startWith : ByteArray := prog_3_method_5_code
def yX1_startWith : MethodName := ⟨RX1, "startWith", "(I)V"⟩
abbrev cX1_putIn : ByteArray := prog_3_method_6_code
def yX1_putIn : MethodName := ⟨RX1, "putIn", "(II)V"⟩
abbrev cX1_takeOut : ByteArray := prog_3_method_7_code
def yX1_takeOut : MethodName := ⟨RX1, "takeOut", "(I)V"⟩
abbrev cX1_append : ByteArray := prog_3_method_8_code
def yX1_append : MethodName := ⟨RX1, "append", "(LMagnetChain$Chain;I)V"⟩
abbrev cX1_copyMagnet : ByteArray := prog_3_method_9_code
def yX1_copyMagnet : MethodName := ⟨RX1, "copyMagnet", "(ILMagnetChain$Chain;I)V"⟩
abbrev cX1_mirror : ByteArray := prog_3_method_10_code
def yX1_mirror : MethodName := ⟨RX1, "mirror", "()V"⟩
abbrev cX1_turn : ByteArray := prog_3_method_11_code
def yX1_turn : MethodName := ⟨RX1, "turn", "(II)V"⟩
abbrev cX1_energy : ByteArray := prog_3_method_12_code
def yX1_energy : MethodName := ⟨RX1, "energy", "()I"⟩
abbrev cX1_partOf : ByteArray := prog_3_method_13_code
def yX1_partOf : MethodName := ⟨RX1, "partOf", "(II)I"⟩
abbrev cX1_freedBy : ByteArray := prog_3_method_14_code
def yX1_freedBy : MethodName := ⟨RX1, "freedBy", "(II)I"⟩
abbrev cX1_pullOfNeighbors : ByteArray := prog_3_method_15_code
def yX1_pullOfNeighbors : MethodName := ⟨RX1, "pullOfNeighbors", "(I)I"⟩
abbrev cX1_pullOn : ByteArray := prog_3_method_16_code
def yX1_pullOn : MethodName := ⟨RX1, "pullOn", "(II)I"⟩
abbrev cX1_partOfField : ByteArray := prog_3_method_17_code
def yX1_partOfField : MethodName := ⟨RX1, "partOfField", "(I)I"⟩
abbrev cX1_settle : ByteArray := prog_3_method_18_code
def yX1_settle : MethodName := ⟨RX1, "settle", "(LMagnetChain$Books;)I"⟩
abbrev cX1_settleOnce : ByteArray := prog_3_method_19_code
def yX1_settleOnce : MethodName := ⟨RX1, "settleOnce", "(LMagnetChain$Books;)Z"⟩
abbrev cX1_pointsTo : ByteArray := prog_3_method_20_code
def yX1_pointsTo : MethodName := ⟨RX1, "pointsTo", "(I)I"⟩
abbrev cX1_walls : ByteArray := prog_3_method_21_code
def yX1_walls : MethodName := ⟨RX1, "walls", "()I"⟩
abbrev cX1_goalsMissed : ByteArray := prog_3_method_22_code
def yX1_goalsMissed : MethodName := ⟨RX1, "goalsMissed", "()I"⟩
abbrev cX1_heldOnes : ByteArray := prog_3_method_23_code
def yX1_heldOnes : MethodName := ⟨RX1, "heldOnes", "()I"⟩
abbrev cX1_differencesFrom : ByteArray := prog_3_method_24_code
def yX1_differencesFrom : MethodName := ⟨RX1, "differencesFrom", "(LMagnetChain$Chain;)I"⟩
def RX2 : String := "MagnetChain$State"
def TX2 : u_T := fun k => match k with
  | 0 => ("MagnetChain$State", "chain", "LMagnetChain$Chain;", true)
  | _ => ("MagnetChain$State", "books", "LMagnetChain$Books;", true)
def tyX2 : Nat → FieldType := fun k => match k with
  | 0 => .object "MagnetChain$Chain"
  | _ => .object "MagnetChain$Books"
abbrev wsX20 : List Cond := u_ws RX2 TX2 2
theorem nmX2 : ∀ a, a < 2 → ∀ b, b < 2 → a ≠ b → (TX2 a).2.1 ≠ (TX2 b).2.1 := by decide +kernel
theorem tyX2_ok : ∀ k, k < 2 → parseFieldDescriptor (TX2 k).2.2.1 = some (tyX2 k) := by decide +kernel
abbrev cX2_init : ByteArray := prog_4_method_1_code
def yX2_init : MethodName := ⟨RX2, "<init>", "()V"⟩
abbrev cX2_takeFrom : ByteArray := prog_4_method_2_code
def yX2_takeFrom : MethodName := ⟨RX2, "takeFrom", "(LMagnetChain$State;)V"⟩
def RX3 : String := "MagnetChain$Text"
def TX3 : u_T := fun k => match k with
  | 0 => ("MagnetChain$Text", "codes", "[I", true)
  | 1 => ("MagnetChain$Text", "length", "I", false)
  | 2 => ("MagnetChain$Text", "faultKind", "I", false)
  | _ => ("MagnetChain$Text", "faultPlace", "I", false)
def tyX3 : Nat → FieldType := fun k => match k with
  | 0 => .array .int
  | 1 => .int
  | 2 => .int
  | _ => .int
abbrev wsX30 : List Cond := u_ws RX3 TX3 4
theorem nmX3 : ∀ a, a < 4 → ∀ b, b < 4 → a ≠ b → (TX3 a).2.1 ≠ (TX3 b).2.1 := by decide +kernel
theorem tyX3_ok : ∀ k, k < 4 → parseFieldDescriptor (TX3 k).2.2.1 = some (tyX3 k) := by decide +kernel
abbrev cX3_init : ByteArray := prog_5_method_1_code
def yX3_init : MethodName := ⟨RX3, "<init>", "()V"⟩
abbrev cX3_append : ByteArray := prog_5_method_2_code
def yX3_append : MethodName := ⟨RX3, "append", "(I)Z"⟩
abbrev cX3_readInto : ByteArray := prog_5_method_3_code
def yX3_readInto : MethodName := ⟨RX3, "readInto", "(LMagnetChain$Chain;)Z"⟩
abbrev cX3_refuse : ByteArray := prog_5_method_4_code
def yX3_refuse : MethodName := ⟨RX3, "refuse", "(II)Z"⟩
def RX4 : String := "MagnetChain"
def TX4 : u_T := fun k => match k with
  | 0 => ("MagnetChain", "present", "LMagnetChain$State;", true)
  | 1 => ("MagnetChain", "history", "[LMagnetChain$State;", true)
  | 2 => ("MagnetChain", "undoable", "I", false)
  | 3 => ("MagnetChain", "images", "[LMagnetChain$State;", true)
  | 4 => ("MagnetChain", "kept", "[Z", true)
  | 5 => ("MagnetChain", "text", "LMagnetChain$Text;", true)
  | _ => ("MagnetChain", "copies", "[LMagnetChain$Chain;", true)
def tyX4 : Nat → FieldType := fun k => match k with
  | 0 => .object "MagnetChain$State"
  | 1 => .array (.object "MagnetChain$State")
  | 2 => .int
  | 3 => .array (.object "MagnetChain$State")
  | 4 => .array .boolean
  | 5 => .object "MagnetChain$Text"
  | _ => .array (.object "MagnetChain$Chain")
abbrev wsX40 : List Cond := u_ws RX4 TX4 7
theorem nmX4 : ∀ a, a < 7 → ∀ b, b < 7 → a ≠ b → (TX4 a).2.1 ≠ (TX4 b).2.1 := by decide +kernel
theorem tyX4_ok : ∀ k, k < 7 → parseFieldDescriptor (TX4 k).2.2.1 = some (tyX4 k) := by decide +kernel
abbrev cX4_init : ByteArray := prog_1_method_1_code
def yX4_init : MethodName := ⟨RX4, "<init>", "()V"⟩
abbrev cX4_begin : ByteArray := prog_1_method_2_code
def yX4_begin : MethodName := ⟨RX4, "begin", "(I)I"⟩
abbrev cX4_insert : ByteArray := prog_1_method_3_code
def yX4_insert : MethodName := ⟨RX4, "insert", "(II)I"⟩
abbrev cX4_remove : ByteArray := prog_1_method_4_code
def yX4_remove : MethodName := ⟨RX4, "remove", "(I)I"⟩
abbrev cX4_shed : ByteArray := prog_1_method_5_code
def yX4_shed : MethodName := ⟨RX4, "shed", "()I"⟩
abbrev cX4_reverse : ByteArray := prog_1_method_6_code
def yX4_reverse : MethodName := ⟨RX4, "reverse", "()I"⟩
abbrev cX4_hold : ByteArray := prog_1_method_7_code
def yX4_hold : MethodName := ⟨RX4, "hold", "(II)I"⟩
abbrev cX4_push : ByteArray := prog_1_method_8_code
def yX4_push : MethodName := ⟨RX4, "push", "(II)I"⟩
abbrev cX4_set : ByteArray := prog_1_method_9_code
def yX4_set : MethodName := ⟨RX4, "set", "(II)I"⟩
abbrev cX4_goal : ByteArray := prog_1_method_10_code
def yX4_goal : MethodName := ⟨RX4, "goal", "(II)I"⟩
abbrev cX4_undo : ByteArray := prog_1_method_11_code
def yX4_undo : MethodName := ⟨RX4, "undo", "()I"⟩
abbrev cX4_told : ByteArray := prog_1_method_12_code
def yX4_told : MethodName := ⟨RX4, "told", "(I)I"⟩
abbrev cX4_magnet : ByteArray := prog_1_method_13_code
def yX4_magnet : MethodName := ⟨RX4, "magnet", "(II)I"⟩
abbrev cX4_log : ByteArray := prog_1_method_14_code
def yX4_log : MethodName := ⟨RX4, "log", "(II)I"⟩
abbrev cX4_points : ByteArray := prog_1_method_15_code
def yX4_points : MethodName := ⟨RX4, "points", "(I)I"⟩
abbrev cX4_mean : ByteArray := prog_1_method_16_code
def yX4_mean : MethodName := ⟨RX4, "mean", "()F"⟩
abbrev cX4_moved : ByteArray := prog_1_method_17_code
def yX4_moved : MethodName := ⟨RX4, "moved", "(II)I"⟩
abbrev cX4_loop : ByteArray := prog_1_method_18_code
def yX4_loop : MethodName := ⟨RX4, "loop", "(III)I"⟩
abbrev cX4_solve : ByteArray := prog_1_method_19_code
def yX4_solve : MethodName := ⟨RX4, "solve", "(II)I"⟩
abbrev cX4_write : ByteArray := prog_1_method_20_code
def yX4_write : MethodName := ⟨RX4, "write", "(I)I"⟩
abbrev cX4_wipe : ByteArray := prog_1_method_21_code
def yX4_wipe : MethodName := ⟨RX4, "wipe", "()I"⟩
abbrev cX4_load : ByteArray := prog_1_method_22_code
def yX4_load : MethodName := ⟨RX4, "load", "()I"⟩
abbrev cX4_fault : ByteArray := prog_1_method_23_code
def yX4_fault : MethodName := ⟨RX4, "fault", "(I)I"⟩
abbrev cX4_keep : ByteArray := prog_1_method_24_code
def yX4_keep : MethodName := ⟨RX4, "keep", "(I)I"⟩
abbrev cX4_back : ByteArray := prog_1_method_25_code
def yX4_back : MethodName := ⟨RX4, "back", "(I)I"⟩
abbrev cX4_isWithin : ByteArray := prog_1_method_26_code
def yX4_isWithin : MethodName := ⟨RX4, "isWithin", "(III)Z"⟩
abbrev cX4_isAngle : ByteArray := prog_1_method_27_code
def yX4_isAngle : MethodName := ⟨RX4, "isAngle", "(I)Z"⟩
abbrev cX4_isPush : ByteArray := prog_1_method_28_code
def yX4_isPush : MethodName := ⟨RX4, "isPush", "(I)Z"⟩
abbrev cX4_isSetting : ByteArray := prog_1_method_29_code
def yX4_isSetting : MethodName := ⟨RX4, "isSetting", "(II)Z"⟩
abbrev cX4_isLoop : ByteArray := prog_1_method_30_code
def yX4_isLoop : MethodName := ⟨RX4, "isLoop", "(II)Z"⟩
abbrev cX4_isMagnet : ByteArray := prog_1_method_31_code
def yX4_isMagnet : MethodName := ⟨RX4, "isMagnet", "(I)Z"⟩
abbrev cX4_startChange : ByteArray := prog_1_method_32_code
def yX4_startChange : MethodName := ⟨RX4, "startChange", "()I"⟩
abbrev cX4_endChange : ByteArray := prog_1_method_33_code
def yX4_endChange : MethodName := ⟨RX4, "endChange", "(I)I"⟩
abbrev cX4_record : ByteArray := prog_1_method_34_code
def yX4_record : MethodName := ⟨RX4, "record", "()V"⟩
abbrev cX4_dropOldest : ByteArray := prog_1_method_35_code
def yX4_dropOldest : MethodName := ⟨RX4, "dropOldest", "()V"⟩
abbrev cX4_stepsUp : ByteArray := prog_1_method_36_code
def yX4_stepsUp : MethodName := ⟨RX4, "stepsUp", "(II)I"⟩
abbrev cX4_firstPush : ByteArray := prog_1_method_37_code
def yX4_firstPush : MethodName := ⟨RX4, "firstPush", "([LMagnetChain$Chain;II)I"⟩
abbrev cX4_magnetOf : ByteArray := prog_1_method_38_code
def yX4_magnetOf : MethodName := ⟨RX4, "magnetOf", "(I)I"⟩
abbrev cX4_directionOf : ByteArray := prog_1_method_39_code
def yX4_directionOf : MethodName := ⟨RX4, "directionOf", "(I)I"⟩
abbrev cX4_cosine : ByteArray := prog_1_method_40_code
def yX4_cosine : MethodName := ⟨RX4, "cosine", "(I)I"⟩
abbrev cX4_pull : ByteArray := prog_1_method_41_code
def yX4_pull : MethodName := ⟨RX4, "pull", "(II)I"⟩
def RX5 : String := "MagnetChainModel"
def TX5 : u_T := fun k => match k with
  | 0 => ("MagnetChainModel", "w", "[I", true)
  | 1 => ("MagnetChainModel", "past", "[I", true)
  | 2 => ("MagnetChainModel", "changes", "I", false)
  | 3 => ("MagnetChainModel", "images", "[I", true)
  | 4 => ("MagnetChainModel", "isKept", "[I", true)
  | 5 => ("MagnetChainModel", "text", "[I", true)
  | 6 => ("MagnetChainModel", "length", "I", false)
  | 7 => ("MagnetChainModel", "faultKind", "I", false)
  | 8 => ("MagnetChainModel", "faultPlace", "I", false)
  | 9 => ("MagnetChainModel", "aside", "[I", true)
  | 10 => ("MagnetChainModel", "loopTurns", "I", false)
  | 11 => ("MagnetChainModel", "area", "I", false)
  | 12 => ("MagnetChainModel", "remains", "I", false)
  | 13 => ("MagnetChainModel", "turnsOver", "I", false)
  | 14 => ("MagnetChainModel", "stack", "[I", true)
  | 15 => ("MagnetChainModel", "digits", "[I", true)
  | 16 => ("MagnetChainModel", "readAngles", "[I", true)
  | 17 => ("MagnetChainModel", "readHeld", "[I", true)
  | 18 => ("MagnetChainModel", "read", "I", false)
  | 19 => ("MagnetChainModel", "wrongKind", "I", false)
  | _ => ("MagnetChainModel", "wrongPlace", "I", false)
def tyX5 : Nat → FieldType := fun k => match k with
  | 0 => .array .int
  | 1 => .array .int
  | 2 => .int
  | 3 => .array .int
  | 4 => .array .int
  | 5 => .array .int
  | 6 => .int
  | 7 => .int
  | 8 => .int
  | 9 => .array .int
  | 10 => .int
  | 11 => .int
  | 12 => .int
  | 13 => .int
  | 14 => .array .int
  | 15 => .array .int
  | 16 => .array .int
  | 17 => .array .int
  | 18 => .int
  | 19 => .int
  | _ => .int
abbrev wsX50 : List Cond := u_ws RX5 TX5 21
theorem nmX5 : ∀ a, a < 21 → ∀ b, b < 21 → a ≠ b → (TX5 a).2.1 ≠ (TX5 b).2.1 := by decide +kernel
theorem tyX5_ok : ∀ k, k < 21 → parseFieldDescriptor (TX5 k).2.2.1 = some (tyX5 k) := by decide +kernel
abbrev cX5_init : ByteArray := prog_7_method_1_code
def yX5_init : MethodName := ⟨RX5, "<init>", "()V"⟩
abbrev cX5_isIn : ByteArray := prog_7_method_2_code
def yX5_isIn : MethodName := ⟨RX5, "isIn", "(III)Z"⟩
abbrev cX5_isMagnet : ByteArray := prog_7_method_3_code
def yX5_isMagnet : MethodName := ⟨RX5, "isMagnet", "(I)Z"⟩
abbrev cX5_lay : ByteArray := prog_7_method_4_code
def yX5_lay : MethodName := ⟨RX5, "lay", "(I)V"⟩
abbrev cX5_record : ByteArray := prog_7_method_5_code
def yX5_record : MethodName := ⟨RX5, "record", "()V"⟩
abbrev cX5_undo : ByteArray := prog_7_method_6_code
def yX5_undo : MethodName := ⟨RX5, "undo", "()I"⟩
abbrev cX5_c : ByteArray := prog_7_method_7_code
def yX5_c : MethodName := ⟨RX5, "c", "(I)I"⟩
abbrev cX5_pull : ByteArray := prog_7_method_8_code
def yX5_pull : MethodName := ⟨RX5, "pull", "(II)I"⟩
abbrev cX5_angle : ByteArray := prog_7_method_9_code
def yX5_angle : MethodName := ⟨RX5, "angle", "(I)I"⟩
abbrev cX5_pair : ByteArray := prog_7_method_10_code
def yX5_pair : MethodName := ⟨RX5, "pair", "(III)I"⟩
abbrev cX5_field : ByteArray := prog_7_method_11_code
def yX5_field : MethodName := ⟨RX5, "field", "(I)I"⟩
abbrev cX5_part : ByteArray := prog_7_method_12_code
def yX5_part : MethodName := ⟨RX5, "part", "(II)I"⟩
abbrev cX5_energy : ByteArray := prog_7_method_13_code
def yX5_energy : MethodName := ⟨RX5, "energy", "()I"⟩
abbrev cX5_turned : ByteArray := prog_7_method_14_code
def yX5_turned : MethodName := ⟨RX5, "turned", "(II)I"⟩
abbrev cX5_free : ByteArray := prog_7_method_15_code
def yX5_free : MethodName := ⟨RX5, "free", "(II)I"⟩
abbrev cX5_note : ByteArray := prog_7_method_16_code
def yX5_note : MethodName := ⟨RX5, "note", "(III)V"⟩
abbrev cX5_settle : ByteArray := prog_7_method_17_code
def yX5_settle : MethodName := ⟨RX5, "settle", "()I"⟩
abbrev cX5_end : ByteArray := prog_7_method_18_code
def yX5_end : MethodName := ⟨RX5, "end", "(I)I"⟩
abbrev cX5_begin : ByteArray := prog_7_method_19_code
def yX5_begin : MethodName := ⟨RX5, "begin", "(I)I"⟩
abbrev cX5_insert : ByteArray := prog_7_method_20_code
def yX5_insert : MethodName := ⟨RX5, "insert", "(II)I"⟩
abbrev cX5_take : ByteArray := prog_7_method_21_code
def yX5_take : MethodName := ⟨RX5, "take", "(I)V"⟩
abbrev cX5_remove : ByteArray := prog_7_method_22_code
def yX5_remove : MethodName := ⟨RX5, "remove", "(I)I"⟩
abbrev cX5_shedSet : ByteArray := prog_7_method_23_code
def yX5_shedSet : MethodName := ⟨RX5, "shedSet", "()I"⟩
abbrev cX5_shed : ByteArray := prog_7_method_24_code
def yX5_shed : MethodName := ⟨RX5, "shed", "()I"⟩
abbrev cX5_mirrored : ByteArray := prog_7_method_25_code
def yX5_mirrored : MethodName := ⟨RX5, "mirrored", "(I)I"⟩
abbrev cX5_reverse : ByteArray := prog_7_method_26_code
def yX5_reverse : MethodName := ⟨RX5, "reverse", "()I"⟩
abbrev cX5_hold : ByteArray := prog_7_method_27_code
def yX5_hold : MethodName := ⟨RX5, "hold", "(II)I"⟩
abbrev cX5_isPush : ByteArray := prog_7_method_28_code
def yX5_isPush : MethodName := ⟨RX5, "isPush", "(II)Z"⟩
abbrev cX5_push : ByteArray := prog_7_method_29_code
def yX5_push : MethodName := ⟨RX5, "push", "(II)I"⟩
abbrev cX5_set : ByteArray := prog_7_method_30_code
def yX5_set : MethodName := ⟨RX5, "set", "(II)I"⟩
abbrev cX5_goal : ByteArray := prog_7_method_31_code
def yX5_goal : MethodName := ⟨RX5, "goal", "(II)I"⟩
abbrev cX5_unsolved : ByteArray := prog_7_method_32_code
def yX5_unsolved : MethodName := ⟨RX5, "unsolved", "()I"⟩
abbrev cX5_walls : ByteArray := prog_7_method_33_code
def yX5_walls : MethodName := ⟨RX5, "walls", "()I"⟩
abbrev cX5_held : ByteArray := prog_7_method_34_code
def yX5_held : MethodName := ⟨RX5, "held", "()I"⟩
abbrev cX5_told : ByteArray := prog_7_method_35_code
def yX5_told : MethodName := ⟨RX5, "told", "(I)I"⟩
abbrev cX5_magnet : ByteArray := prog_7_method_36_code
def yX5_magnet : MethodName := ⟨RX5, "magnet", "(II)I"⟩
abbrev cX5_log : ByteArray := prog_7_method_37_code
def yX5_log : MethodName := ⟨RX5, "log", "(II)I"⟩
abbrev cX5_pointsTo : ByteArray := prog_7_method_38_code
def yX5_pointsTo : MethodName := ⟨RX5, "pointsTo", "(I)I"⟩
abbrev cX5_points : ByteArray := prog_7_method_39_code
def yX5_points : MethodName := ⟨RX5, "points", "(I)I"⟩
abbrev cX5_mean : ByteArray := prog_7_method_40_code
def yX5_mean : MethodName := ⟨RX5, "mean", "()F"⟩
abbrev cX5_putAside : ByteArray := prog_7_method_41_code
def yX5_putAside : MethodName := ⟨RX5, "putAside", "()V"⟩
abbrev cX5_putBack : ByteArray := prog_7_method_42_code
def yX5_putBack : MethodName := ⟨RX5, "putBack", "()V"⟩
abbrev cX5_moved : ByteArray := prog_7_method_43_code
def yX5_moved : MethodName := ⟨RX5, "moved", "(II)I"⟩
abbrev cX5_to : ByteArray := prog_7_method_44_code
def yX5_to : MethodName := ⟨RX5, "to", "(II)I"⟩
abbrev cX5_run : ByteArray := prog_7_method_45_code
def yX5_run : MethodName := ⟨RX5, "run", "(III)I"⟩
abbrev cX5_loop : ByteArray := prog_7_method_46_code
def yX5_loop : MethodName := ⟨RX5, "loop", "(III)I"⟩
abbrev cX5_choices : ByteArray := prog_7_method_47_code
def yX5_choices : MethodName := ⟨RX5, "choices", "()I"⟩
abbrev cX5_store : ByteArray := prog_7_method_48_code
def yX5_store : MethodName := ⟨RX5, "store", "(I)V"⟩
abbrev cX5_restore : ByteArray := prog_7_method_49_code
def yX5_restore : MethodName := ⟨RX5, "restore", "(I)V"⟩
abbrev cX5_search : ByteArray := prog_7_method_50_code
def yX5_search : MethodName := ⟨RX5, "search", "(I)Z"⟩
abbrev cX5_isSolvedBy : ByteArray := prog_7_method_51_code
def yX5_isSolvedBy : MethodName := ⟨RX5, "isSolvedBy", "(I)Z"⟩
abbrev cX5_solve : ByteArray := prog_7_method_52_code
def yX5_solve : MethodName := ⟨RX5, "solve", "(II)I"⟩
abbrev cX5_write : ByteArray := prog_7_method_53_code
def yX5_write : MethodName := ⟨RX5, "write", "(I)I"⟩
abbrev cX5_wipe : ByteArray := prog_7_method_54_code
def yX5_wipe : MethodName := ⟨RX5, "wipe", "()I"⟩
abbrev cX5_fails : ByteArray := prog_7_method_55_code
def yX5_fails : MethodName := ⟨RX5, "fails", "(II)V"⟩
abbrev cX5_readByte : ByteArray := prog_7_method_56_code
def yX5_readByte : MethodName := ⟨RX5, "readByte", "(I)V"⟩
abbrev cX5_readAll : ByteArray := prog_7_method_57_code
def yX5_readAll : MethodName := ⟨RX5, "readAll", "()V"⟩
abbrev cX5_load : ByteArray := prog_7_method_58_code
def yX5_load : MethodName := ⟨RX5, "load", "()I"⟩
abbrev cX5_fault : ByteArray := prog_7_method_59_code
def yX5_fault : MethodName := ⟨RX5, "fault", "(I)I"⟩
abbrev cX5_isImage : ByteArray := prog_7_method_60_code
def yX5_isImage : MethodName := ⟨RX5, "isImage", "(I)Z"⟩
abbrev cX5_keep : ByteArray := prog_7_method_61_code
def yX5_keep : MethodName := ⟨RX5, "keep", "(I)I"⟩
abbrev cX5_back : ByteArray := prog_7_method_62_code
def yX5_back : MethodName := ⟨RX5, "back", "(I)I"⟩
def RJ9 : String := "java/lang/Math"
def TJ9 : u_T := fun k => match k with
  | _ => ("", "", "", false)
def tyJ9 : Nat → FieldType := fun k => match k with
  | _ => .int
abbrev wsJ90 : List Cond := u_ws RJ9 TJ9 0
theorem nmJ9 : ∀ a, a < 0 → ∀ b, b < 0 → a ≠ b → (TJ9 a).2.1 ≠ (TJ9 b).2.1 := by decide +kernel
theorem tyJ9_ok : ∀ k, k < 0 → parseFieldDescriptor (TJ9 k).2.2.1 = some (tyJ9 k) := by decide +kernel
abbrev cJ9_max_7cf53 : ByteArray := prog_8_method_65_code
def yJ9_max_7cf53 : MethodName := ⟨RJ9, "max", "(II)I"⟩
def RJ10 : String := "java/lang/System"
def TJ10 : u_T := fun k => match k with
  | _ => ("", "", "", false)
def tyJ10 : Nat → FieldType := fun k => match k with
  | _ => .int
abbrev wsJ100 : List Cond := u_ws RJ10 TJ10 0
theorem nmJ10 : ∀ a, a < 0 → ∀ b, b < 0 → a ≠ b → (TJ10 a).2.1 ≠ (TJ10 b).2.1 := by decide +kernel
theorem tyJ10_ok : ∀ k, k < 0 → parseFieldDescriptor (TJ10 k).2.2.1 = some (tyJ10 k) := by decide +kernel
def RJ7 : String := "java/util/Arrays"
def TJ7 : u_T := fun k => match k with
  | _ => ("", "", "", false)
def tyJ7 : Nat → FieldType := fun k => match k with
  | _ => .int
abbrev wsJ70 : List Cond := u_ws RJ7 TJ7 0
theorem nmJ7 : ∀ a, a < 0 → ∀ b, b < 0 → a ≠ b → (TJ7 a).2.1 ≠ (TJ7 b).2.1 := by decide +kernel
theorem tyJ7_ok : ∀ k, k < 0 → parseFieldDescriptor (TJ7 k).2.2.1 = some (tyJ7 k) := by decide +kernel
abbrev cJ7_fill_53178 : ByteArray := prog_10_method_103_code
def yJ7_fill_53178 : MethodName := ⟨RJ7, "fill", "([II)V"⟩
def RL : String := "MagnetChainLaw"
abbrev cL_law : ByteArray := code
def yL_law : MethodName := ⟨RL, "law", "([I)Z"⟩
def wsL_law_r1 : List Cond := [Cond.classLink RL 7 RX4, Cond.instantiable RX4 7, Cond.initialized RX4, Cond.classLink RL 10 RX5, Cond.instantiable RX5 21, Cond.initialized RX5, Cond.methodLink RL 9 yX4_init, Cond.instanceMethod yX4_init, Cond.code yX4_init cX4_init 2 none, Cond.methodLink RX4 1 objectInit, Cond.instanceMethod objectInit, Cond.code objectInit ⟨#[0xb1]⟩ 1 none, Cond.classLink RX4 7 RX2, Cond.instantiable RX2 2, Cond.initialized RX2, Cond.fieldLink RX4 10 "MagnetChain" "present" "LMagnetChain$State;", Cond.fieldLink RX4 16 "MagnetChain" "history" "[LMagnetChain$State;", Cond.fieldLink RX4 20 "MagnetChain" "undoable" "I", Cond.fieldLink RX4 24 "MagnetChain" "images" "[LMagnetChain$State;", Cond.arrayClass .boolean, Cond.fieldLink RX4 27 "MagnetChain" "kept" "[Z", Cond.classLink RX4 31 RX3, Cond.instantiable RX3 4, Cond.initialized RX3]
def wsL_law_r2 : List Cond := [Cond.fieldLink RX4 34 "MagnetChain" "text" "LMagnetChain$Text;", Cond.classLink RX4 38 RX1, Cond.fieldLink RX4 40 "MagnetChain" "copies" "[LMagnetChain$Chain;", Cond.instantiable RX1 8, Cond.initialized RX1, Cond.instanceMethod yX2_init, Cond.code yX2_init cX2_init 1 none, Cond.methodLink RX2 1 objectInit, Cond.classLink RX2 7 RX1, Cond.fieldLink RX2 10 "MagnetChain$State" "chain" "LMagnetChain$Chain;", Cond.classLink RX2 16 RX0, Cond.instantiable RX0 8, Cond.initialized RX0, Cond.fieldLink RX2 19 "MagnetChain$State" "books" "LMagnetChain$Books;", Cond.methodLink RX2 9 yX1_init, Cond.instanceMethod yX1_init, Cond.code yX1_init cX1_init 1 none, Cond.methodLink RX1 3 objectInit, Cond.fieldLink RX1 9 "MagnetChain$Chain" "size" "I", Cond.arrayClass .int, Cond.fieldLink RX1 15 "MagnetChain$Chain" "angles" "[I", Cond.fieldLink RX1 19 "MagnetChain$Chain" "held" "[I", Cond.fieldLink RX1 22 "MagnetChain$Chain" "goals" "[I", Cond.fieldLink RX1 25 "MagnetChain$Chain" "coupling" "I"]
def wsL_law_r3 : List Cond := [Cond.fieldLink RX1 28 "MagnetChain$Chain" "depth" "I", Cond.fieldLink RX1 31 "MagnetChain$Chain" "strength" "I", Cond.fieldLink RX1 34 "MagnetChain$Chain" "side" "I", Cond.constant RX1 37 (-1000000009), Cond.methodLink RX1 38 yJ7_fill_53178, Cond.static yJ7_fill_53178, Cond.initialized RJ7, Cond.code yJ7_fill_53178 cJ7_fill_53178 4 none, Cond.instanceMethod yX0_init, Cond.code yX0_init cX0_init 1 none, Cond.methodLink RX0 3 objectInit, Cond.fieldLink RX0 9 "MagnetChain$Books" "work" "I", Cond.fieldLink RX0 15 "MagnetChain$Books" "heat" "I", Cond.fieldLink RX0 18 "MagnetChain$Books" "turns" "I", Cond.fieldLink RX0 21 "MagnetChain$Books" "pushes" "I", Cond.fieldLink RX0 24 "MagnetChain$Books" "logged" "I", Cond.fieldLink RX0 27 "MagnetChain$Books" "loggedMagnets" "[I", Cond.fieldLink RX0 31 "MagnetChain$Books" "loggedDirections" "[I", Cond.fieldLink RX0 34 "MagnetChain$Books" "loggedHeats" "[I", Cond.instanceMethod yX3_init, Cond.code yX3_init cX3_init 1 none, Cond.methodLink RX3 3 objectInit, Cond.fieldLink RX3 9 "MagnetChain$Text" "codes" "[I", Cond.fieldLink RX3 15 "MagnetChain$Text" "length" "I"]
def wsL_law_r4 : List Cond := [Cond.constant RX3 19 (-1000000009), Cond.fieldLink RX3 20 "MagnetChain$Text" "faultKind" "I", Cond.fieldLink RX3 23 "MagnetChain$Text" "faultPlace" "I", Cond.methodLink RX4 44 yX1_init, Cond.methodLink RL 12 yX5_init, Cond.instanceMethod yX5_init, Cond.code yX5_init cX5_init 1 none, Cond.methodLink RX5 1 objectInit, Cond.fieldLink RX5 7 "MagnetChainModel" "w" "[I", Cond.fieldLink RX5 13 "MagnetChainModel" "past" "[I", Cond.fieldLink RX5 16 "MagnetChainModel" "images" "[I", Cond.fieldLink RX5 19 "MagnetChainModel" "isKept" "[I", Cond.fieldLink RX5 22 "MagnetChainModel" "text" "[I", Cond.constant RX5 25 (-1000000009), Cond.fieldLink RX5 26 "MagnetChainModel" "faultKind" "I", Cond.fieldLink RX5 30 "MagnetChainModel" "faultPlace" "I", Cond.fieldLink RX5 33 "MagnetChainModel" "aside" "[I", Cond.fieldLink RX5 36 "MagnetChainModel" "stack" "[I", Cond.fieldLink RX5 39 "MagnetChainModel" "digits" "[I", Cond.fieldLink RX5 42 "MagnetChainModel" "readAngles" "[I", Cond.fieldLink RX5 45 "MagnetChainModel" "readHeld" "[I", Cond.methodLink RX5 48 yX5_lay, Cond.instanceMethod yX5_lay, Cond.selects RX5 yX5_lay yX5_lay]
def wsL_law_r5 : List Cond := [Cond.code yX5_lay cX5_lay 3 none, Cond.methodLink RL 13 yX4_begin, Cond.instanceMethod yX4_begin, Cond.selects RX4 yX4_begin yX4_begin, Cond.code yX4_begin cX4_begin 3 (some .int), Cond.constant RX4 49 (-1000000001), Cond.fieldLink RX4 50 "MagnetChain$State" "chain" "LMagnetChain$Chain;", Cond.fieldLink RX4 54 "MagnetChain$Chain" "size" "I", Cond.fieldLink RX4 64 "MagnetChain$State" "books" "LMagnetChain$Books;", Cond.methodLink RX4 45 yX4_isWithin, Cond.static yX4_isWithin, Cond.code yX4_isWithin cX4_isWithin 3 (some .boolean), Cond.methodLink RX4 57 yX4_record, Cond.instanceMethod yX4_record, Cond.selects RX4 yX4_record yX4_record, Cond.code yX4_record cX4_record 1 none, Cond.methodLink RX4 235 yX4_dropOldest, Cond.instanceMethod yX4_dropOldest, Cond.selects RX4 yX4_dropOldest yX4_dropOldest, Cond.code yX4_dropOldest cX4_dropOldest 3 none, Cond.methodLink RX4 155 yX2_takeFrom, Cond.instanceMethod yX2_takeFrom, Cond.selects RX2 yX2_takeFrom yX2_takeFrom, Cond.code yX2_takeFrom cX2_takeFrom 2 none]
def wsL_law_r6 : List Cond := [Cond.methodLink RX2 23 yX1_takeFrom, Cond.instanceMethod yX1_takeFrom, Cond.selects RX1 yX1_takeFrom yX1_takeFrom, Cond.code yX1_takeFrom cX1_takeFrom 2 none, Cond.methodLink RX1 44 yX1_takeMagnets, Cond.instanceMethod yX1_takeMagnets, Cond.selects RX1 yX1_takeMagnets yX1_takeMagnets, Cond.code yX1_takeMagnets cX1_takeMagnets 2 none, Cond.methodLink RX1 51 arraycopyName, Cond.native arraycopyName, Cond.static arraycopyName, Cond.initialized "java/lang/System", Cond.methodLink RX1 48 yX1_takeAngles, Cond.instanceMethod yX1_takeAngles, Cond.selects RX1 yX1_takeAngles yX1_takeAngles, Cond.code yX1_takeAngles cX1_takeAngles 2 none, Cond.methodLink RX2 27 yX0_takeFrom, Cond.instanceMethod yX0_takeFrom, Cond.selects RX0 yX0_takeFrom yX0_takeFrom, Cond.code yX0_takeFrom cX0_takeFrom 2 none, Cond.methodLink RX0 37 arraycopyName, Cond.methodLink RX4 60 yX1_startWith, Cond.instanceMethod yX1_startWith, Cond.selects RX1 yX1_startWith yX1_startWith]
def wsL_law_r7 : List Cond := [Cond.code yX1_startWith cX1_startWith 2 none, Cond.methodLink RX4 68 yX0_clear, Cond.instanceMethod yX0_clear, Cond.selects RX0 yX0_clear yX0_clear, Cond.code yX0_clear cX0_clear 1 none, Cond.methodLink RX4 73 yX1_settle, Cond.instanceMethod yX1_settle, Cond.selects RX1 yX1_settle yX1_settle, Cond.code yX1_settle cX1_settle 3 (some .int), Cond.methodLink RX1 78 yX1_settleOnce, Cond.instanceMethod yX1_settleOnce, Cond.selects RX1 yX1_settleOnce yX1_settleOnce, Cond.code yX1_settleOnce cX1_settleOnce 9 (some .boolean), Cond.methodLink RX1 82 Lib.Math.max.name, Cond.static Lib.Math.max.name, Cond.initialized "java/lang/Math", Cond.code Lib.Math.max.name Lib.Math.max.code 2 (some .int), Cond.methodLink RX1 69 yX1_partOf, Cond.instanceMethod yX1_partOf, Cond.selects RX1 yX1_partOf yX1_partOf, Cond.code yX1_partOf cX1_partOf 3 (some .int), Cond.methodLink RX1 61 yX1_pullOn, Cond.instanceMethod yX1_pullOn, Cond.selects RX1 yX1_pullOn yX1_pullOn]
def wsL_law_r8 : List Cond := [Cond.code yX1_pullOn cX1_pullOn 3 (some .int), Cond.static yX4_pull, Cond.code yX4_pull cX4_pull 2 (some .int), Cond.fieldLink RX4 241 "MagnetChain" "COSINES" "[I", Cond.methodLink RX1 65 yX1_partOfField, Cond.instanceMethod yX1_partOfField, Cond.selects RX1 yX1_partOfField yX1_partOfField, Cond.code yX1_partOfField cX1_partOfField 2 (some .int), Cond.static yX4_cosine, Cond.code yX4_cosine cX4_cosine 1 (some .int), Cond.methodLink RX1 87 yX1_turn, Cond.instanceMethod yX1_turn, Cond.selects RX1 yX1_turn yX1_turn, Cond.code yX1_turn cX1_turn 3 none, Cond.methodLink RX1 91 yX0_enter, Cond.instanceMethod yX0_enter, Cond.selects RX0 yX0_enter yX0_enter, Cond.code yX0_enter cX0_enter 4 none, Cond.methodLink RX0 43 yX0_dropOldestTurn, Cond.instanceMethod yX0_dropOldestTurn, Cond.selects RX0 yX0_dropOldestTurn yX0_dropOldestTurn, Cond.code yX0_dropOldestTurn cX0_dropOldestTurn 1 none, Cond.methodLink RL 17 yX5_begin, Cond.instanceMethod yX5_begin]
def wsL_law_r9 : List Cond := [Cond.selects RX5 yX5_begin yX5_begin, Cond.code yX5_begin cX5_begin 4 (some .int), Cond.constant RX5 102 (-1000000001), Cond.methodLink RX5 52 yX5_isIn, Cond.static yX5_isIn, Cond.code yX5_isIn cX5_isIn 3 (some .boolean), Cond.methodLink RX5 103 yX5_record, Cond.instanceMethod yX5_record, Cond.selects RX5 yX5_record yX5_record, Cond.code yX5_record cX5_record 2 none, Cond.fieldLink RX5 56 "MagnetChainModel" "changes" "I", Cond.methodLink RX5 99 yX5_settle, Cond.instanceMethod yX5_settle, Cond.selects RX5 yX5_settle yX5_settle, Cond.code yX5_settle cX5_settle 9 (some .int), Cond.methodLink RX5 88 yX5_free, Cond.instanceMethod yX5_free, Cond.selects RX5 yX5_free yX5_free, Cond.code yX5_free cX5_free 3 (some .int), Cond.methodLink RX5 68 yX5_angle, Cond.instanceMethod yX5_angle, Cond.selects RX5 yX5_angle yX5_angle, Cond.code yX5_angle cX5_angle 2 (some .int), Cond.methodLink RX5 82 yX5_part]
def wsL_law_r10 : List Cond := [Cond.instanceMethod yX5_part, Cond.selects RX5 yX5_part yX5_part, Cond.code yX5_part cX5_part 3 (some .int), Cond.methodLink RX5 75 yX5_pair, Cond.instanceMethod yX5_pair, Cond.selects RX5 yX5_pair yX5_pair, Cond.code yX5_pair cX5_pair 5 (some .int), Cond.methodLink RX5 64 yX5_isMagnet, Cond.instanceMethod yX5_isMagnet, Cond.selects RX5 yX5_isMagnet yX5_isMagnet, Cond.code yX5_isMagnet cX5_isMagnet 2 (some .boolean), Cond.methodLink RX5 71 yX5_pull, Cond.static yX5_pull, Cond.code yX5_pull cX5_pull 2 (some .int), Cond.methodLink RX5 60 yX5_c, Cond.static yX5_c, Cond.code yX5_c cX5_c 1 (some .int), Cond.methodLink RX5 79 yX5_field, Cond.instanceMethod yX5_field, Cond.selects RX5 yX5_field yX5_field, Cond.code yX5_field cX5_field 2 (some .int), Cond.methodLink RX5 85 yX5_turned, Cond.static yX5_turned, Cond.code yX5_turned cX5_turned 2 (some .int)]
def wsL_law_r11 : List Cond := [Cond.methodLink RX5 91 yX5_note, Cond.instanceMethod yX5_note, Cond.selects RX5 yX5_note yX5_note, Cond.code yX5_note cX5_note 5 none, Cond.methodLink RL 18 yX4_insert, Cond.instanceMethod yX4_insert, Cond.selects RX4 yX4_insert yX4_insert, Cond.code yX4_insert cX4_insert 5 (some .int), Cond.constant RX4 81 (-1000000003), Cond.methodLink RX4 77 yX4_isAngle, Cond.static yX4_isAngle, Cond.code yX4_isAngle cX4_isAngle 1 (some .boolean), Cond.methodLink RX4 82 yX4_startChange, Cond.instanceMethod yX4_startChange, Cond.selects RX4 yX4_startChange yX4_startChange, Cond.code yX4_startChange cX4_startChange 1 (some .int), Cond.methodLink RX4 159 yX1_energy, Cond.instanceMethod yX1_energy, Cond.selects RX1 yX1_energy yX1_energy, Cond.code yX1_energy cX1_energy 4 (some .int), Cond.methodLink RX4 86 yX1_putIn, Cond.instanceMethod yX1_putIn, Cond.selects RX1 yX1_putIn yX1_putIn, Cond.code yX1_putIn cX1_putIn 4 none]
def wsL_law_r12 : List Cond := [Cond.methodLink RX1 57 yX1_copyMagnet, Cond.instanceMethod yX1_copyMagnet, Cond.selects RX1 yX1_copyMagnet yX1_copyMagnet, Cond.code yX1_copyMagnet cX1_copyMagnet 4 none, Cond.methodLink RX4 90 yX4_endChange, Cond.instanceMethod yX4_endChange, Cond.selects RX4 yX4_endChange yX4_endChange, Cond.code yX4_endChange cX4_endChange 2 (some .int), Cond.fieldLink RX4 162 "MagnetChain$Books" "work" "I", Cond.methodLink RL 22 yX5_insert, Cond.instanceMethod yX5_insert, Cond.selects RX5 yX5_insert yX5_insert, Cond.code yX5_insert cX5_insert 5 (some .int), Cond.constant RX5 106 (-1000000003), Cond.methodLink RX5 95 yX5_energy, Cond.instanceMethod yX5_energy, Cond.selects RX5 yX5_energy yX5_energy, Cond.code yX5_energy cX5_energy 3 (some .int), Cond.methodLink RX5 107 yX5_end, Cond.instanceMethod yX5_end, Cond.selects RX5 yX5_end yX5_end, Cond.code yX5_end cX5_end 2 (some .int), Cond.methodLink RL 23 yX4_remove, Cond.instanceMethod yX4_remove]
def wsL_law_r13 : List Cond := [Cond.selects RX4 yX4_remove yX4_remove, Cond.code yX4_remove cX4_remove 5 (some .int), Cond.constant RX4 97 (-1000000002), Cond.fieldLink RX4 98 "MagnetChain$Chain" "angles" "[I", Cond.methodLink RX4 94 yX4_isMagnet, Cond.instanceMethod yX4_isMagnet, Cond.selects RX4 yX4_isMagnet yX4_isMagnet, Cond.code yX4_isMagnet cX4_isMagnet 2 (some .boolean), Cond.methodLink RX4 102 yX1_takeOut, Cond.instanceMethod yX1_takeOut, Cond.selects RX1 yX1_takeOut yX1_takeOut, Cond.code yX1_takeOut cX1_takeOut 3 none, Cond.methodLink RL 26 yX5_remove, Cond.instanceMethod yX5_remove, Cond.selects RX5 yX5_remove yX5_remove, Cond.code yX5_remove cX5_remove 5 (some .int), Cond.constant RX5 59 (-1000000002), Cond.methodLink RX5 110 yX5_take, Cond.instanceMethod yX5_take, Cond.selects RX5 yX5_take yX5_take, Cond.code yX5_take cX5_take 3 none, Cond.methodLink RL 27 yX4_shed, Cond.instanceMethod yX4_shed, Cond.selects RX4 yX4_shed yX4_shed]
def wsL_law_r14 : List Cond := [Cond.code yX4_shed cX4_shed 5 (some .int), Cond.fieldLink RX4 105 "MagnetChain$Chain" "held" "[I", Cond.methodLink RX4 108 yX1_pullOfNeighbors, Cond.instanceMethod yX1_pullOfNeighbors, Cond.selects RX1 yX1_pullOfNeighbors yX1_pullOfNeighbors, Cond.code yX1_pullOfNeighbors cX1_pullOfNeighbors 2 (some .int), Cond.methodLink RX4 111 yX1_append, Cond.instanceMethod yX1_append, Cond.selects RX1 yX1_append yX1_append, Cond.code yX1_append cX1_append 3 none, Cond.methodLink RX4 115 yX1_takeMagnets, Cond.methodLink RL 31 yX5_shed, Cond.instanceMethod yX5_shed, Cond.selects RX5 yX5_shed yX5_shed, Cond.code yX5_shed cX5_shed 5 (some .int), Cond.methodLink RX5 113 yX5_shedSet, Cond.instanceMethod yX5_shedSet, Cond.selects RX5 yX5_shedSet yX5_shedSet, Cond.code yX5_shedSet cX5_shedSet 4 (some .int), Cond.methodLink RL 32 yX4_reverse, Cond.instanceMethod yX4_reverse, Cond.selects RX4 yX4_reverse yX4_reverse, Cond.code yX4_reverse cX4_reverse 5 (some .int), Cond.methodLink RX4 119 yX1_mirror]
def wsL_law_r15 : List Cond := [Cond.instanceMethod yX1_mirror, Cond.selects RX1 yX1_mirror yX1_mirror, Cond.code yX1_mirror cX1_mirror 2 none, Cond.methodLink RX4 122 yX1_differencesFrom, Cond.instanceMethod yX1_differencesFrom, Cond.selects RX1 yX1_differencesFrom yX1_differencesFrom, Cond.code yX1_differencesFrom cX1_differencesFrom 4 (some .int), Cond.methodLink RL 35 yX5_reverse, Cond.instanceMethod yX5_reverse, Cond.selects RX5 yX5_reverse yX5_reverse, Cond.code yX5_reverse cX5_reverse 7 (some .int), Cond.methodLink RX5 116 yX5_mirrored, Cond.static yX5_mirrored, Cond.code yX5_mirrored cX5_mirrored 1 (some .int), Cond.methodLink RL 36 yX4_hold, Cond.instanceMethod yX4_hold, Cond.selects RX4 yX4_hold yX4_hold, Cond.code yX4_hold cX4_hold 5 (some .int), Cond.methodLink RL 39 yX5_hold, Cond.instanceMethod yX5_hold, Cond.selects RX5 yX5_hold yX5_hold, Cond.code yX5_hold cX5_hold 5 (some .int), Cond.methodLink RL 40 yX4_push, Cond.instanceMethod yX4_push]
def wsL_law_r16 : List Cond := [Cond.selects RX4 yX4_push yX4_push, Cond.code yX4_push cX4_push 4 (some .int), Cond.fieldLink RX4 132 "MagnetChain$Books" "pushes" "I", Cond.methodLink RX4 126 yX4_isPush, Cond.static yX4_isPush, Cond.code yX4_isPush cX4_isPush 1 (some .boolean), Cond.methodLink RX4 129 yX1_turn, Cond.methodLink RL 43 yX5_push, Cond.instanceMethod yX5_push, Cond.selects RX5 yX5_push yX5_push, Cond.code yX5_push cX5_push 4 (some .int), Cond.methodLink RX5 119 yX5_isPush, Cond.instanceMethod yX5_isPush, Cond.selects RX5 yX5_isPush yX5_isPush, Cond.code yX5_isPush cX5_isPush 3 (some .boolean), Cond.methodLink RL 44 yX4_set, Cond.instanceMethod yX4_set, Cond.selects RX4 yX4_set yX4_set, Cond.code yX4_set cX4_set 5 (some .int), Cond.fieldLink RX4 139 "MagnetChain$Chain" "coupling" "I", Cond.fieldLink RX4 142 "MagnetChain$Chain" "depth" "I", Cond.fieldLink RX4 145 "MagnetChain$Chain" "strength" "I", Cond.fieldLink RX4 148 "MagnetChain$Chain" "side" "I", Cond.methodLink RX4 135 yX4_isSetting]
def wsL_law_r17 : List Cond := [Cond.static yX4_isSetting, Cond.code yX4_isSetting cX4_isSetting 2 (some .boolean), Cond.methodLink RL 47 yX5_set, Cond.instanceMethod yX5_set, Cond.selects RX5 yX5_set yX5_set, Cond.code yX5_set cX5_set 4 (some .int), Cond.methodLink RL 48 yX4_goal, Cond.instanceMethod yX4_goal, Cond.selects RX4 yX4_goal yX4_goal, Cond.code yX4_goal cX4_goal 5 (some .int), Cond.constant RX4 151 (-1000000009), Cond.fieldLink RX4 152 "MagnetChain$Chain" "goals" "[I", Cond.methodLink RL 51 yX5_goal, Cond.instanceMethod yX5_goal, Cond.selects RX5 yX5_goal yX5_goal, Cond.code yX5_goal cX5_goal 5 (some .int), Cond.methodLink RL 52 yX4_undo, Cond.instanceMethod yX4_undo, Cond.selects RX4 yX4_undo yX4_undo, Cond.code yX4_undo cX4_undo 1 (some .int), Cond.methodLink RL 55 yX5_undo, Cond.instanceMethod yX5_undo, Cond.selects RX5 yX5_undo yX5_undo, Cond.code yX5_undo cX5_undo 2 (some .int)]
def wsL_law_r18 : List Cond := [Cond.methodLink RL 56 yX4_told, Cond.instanceMethod yX4_told, Cond.selects RX4 yX4_told yX4_told, Cond.code yX4_told cX4_told 4 (some .int), Cond.fieldLink RX4 165 "MagnetChain$Books" "heat" "I", Cond.fieldLink RX4 168 "MagnetChain$Books" "turns" "I", Cond.fieldLink RX4 171 "MagnetChain$Books" "logged" "I", Cond.fieldLink RX4 183 "MagnetChain$Text" "length" "I", Cond.methodLink RX4 174 yX1_walls, Cond.instanceMethod yX1_walls, Cond.selects RX1 yX1_walls yX1_walls, Cond.code yX1_walls cX1_walls 3 (some .int), Cond.methodLink RX4 177 yX1_goalsMissed, Cond.instanceMethod yX1_goalsMissed, Cond.selects RX1 yX1_goalsMissed yX1_goalsMissed, Cond.code yX1_goalsMissed cX1_goalsMissed 3 (some .int), Cond.methodLink RX4 180 yX1_heldOnes, Cond.instanceMethod yX1_heldOnes, Cond.selects RX1 yX1_heldOnes yX1_heldOnes, Cond.code yX1_heldOnes cX1_heldOnes 3 (some .int), Cond.methodLink RL 59 yX5_told, Cond.instanceMethod yX5_told, Cond.selects RX5 yX5_told yX5_told, Cond.code yX5_told cX5_told 2 (some .int)]
def wsL_law_r19 : List Cond := [Cond.fieldLink RX5 132 "MagnetChainModel" "length" "I", Cond.methodLink RX5 123 yX5_walls, Cond.instanceMethod yX5_walls, Cond.selects RX5 yX5_walls yX5_walls, Cond.code yX5_walls cX5_walls 3 (some .int), Cond.methodLink RX5 126 yX5_unsolved, Cond.instanceMethod yX5_unsolved, Cond.selects RX5 yX5_unsolved yX5_unsolved, Cond.code yX5_unsolved cX5_unsolved 3 (some .int), Cond.methodLink RX5 129 yX5_held, Cond.instanceMethod yX5_held, Cond.selects RX5 yX5_held yX5_held, Cond.code yX5_held cX5_held 3 (some .int), Cond.methodLink RL 60 yX4_magnet, Cond.instanceMethod yX4_magnet, Cond.selects RX4 yX4_magnet yX4_magnet, Cond.code yX4_magnet cX4_magnet 4 (some .int), Cond.methodLink RX4 186 yX1_freedBy, Cond.instanceMethod yX1_freedBy, Cond.selects RX1 yX1_freedBy yX1_freedBy, Cond.code yX1_freedBy cX1_freedBy 3 (some .int), Cond.methodLink RX4 190 yX1_partOf, Cond.methodLink RL 63 yX5_magnet, Cond.instanceMethod yX5_magnet]
def wsL_law_r20 : List Cond := [Cond.selects RX5 yX5_magnet yX5_magnet, Cond.code yX5_magnet cX5_magnet 3 (some .int), Cond.methodLink RL 64 yX4_log, Cond.instanceMethod yX4_log, Cond.selects RX4 yX4_log yX4_log, Cond.code yX4_log cX4_log 5 (some .int), Cond.fieldLink RX4 193 "MagnetChain$Books" "loggedMagnets" "[I", Cond.fieldLink RX4 196 "MagnetChain$Books" "loggedDirections" "[I", Cond.fieldLink RX4 199 "MagnetChain$Books" "loggedHeats" "[I", Cond.methodLink RL 67 yX5_log, Cond.instanceMethod yX5_log, Cond.selects RX5 yX5_log yX5_log, Cond.code yX5_log cX5_log 3 (some .int), Cond.methodLink RL 68 yX4_points, Cond.instanceMethod yX4_points, Cond.selects RX4 yX4_points yX4_points, Cond.code yX4_points cX4_points 2 (some .int), Cond.methodLink RX4 202 yX1_pointsTo, Cond.instanceMethod yX1_pointsTo, Cond.selects RX1 yX1_pointsTo yX1_pointsTo, Cond.code yX1_pointsTo cX1_pointsTo 4 (some .int), Cond.methodLink RL 71 yX5_points, Cond.instanceMethod yX5_points, Cond.selects RX5 yX5_points yX5_points]
def wsL_law_r21 : List Cond := [Cond.code yX5_points cX5_points 2 (some .int), Cond.methodLink RX5 135 yX5_pointsTo, Cond.instanceMethod yX5_pointsTo, Cond.selects RX5 yX5_pointsTo yX5_pointsTo, Cond.code yX5_pointsTo cX5_pointsTo 4 (some .int), Cond.methodLink RL 72 yX4_mean, Cond.instanceMethod yX4_mean, Cond.selects RX4 yX4_mean yX4_mean, Cond.code yX4_mean cX4_mean 1 (some .float), Cond.methodLink RL 76 yX5_mean, Cond.instanceMethod yX5_mean, Cond.selects RX5 yX5_mean yX5_mean, Cond.code yX5_mean cX5_mean 1 (some .float), Cond.methodLink RL 77 yX4_moved, Cond.instanceMethod yX4_moved, Cond.selects RX4 yX4_moved yX4_moved, Cond.code yX4_moved cX4_moved 4 (some .int), Cond.methodLink RX4 205 yX1_takeFrom, Cond.methodLink RL 80 yX5_moved, Cond.instanceMethod yX5_moved, Cond.selects RX5 yX5_moved yX5_moved, Cond.code yX5_moved cX5_moved 4 (some .int), Cond.methodLink RX5 138 yX5_putAside, Cond.instanceMethod yX5_putAside]
def wsL_law_r22 : List Cond := [Cond.selects RX5 yX5_putAside yX5_putAside, Cond.code yX5_putAside cX5_putAside 2 none, Cond.methodLink RX5 141 yX5_putBack, Cond.instanceMethod yX5_putBack, Cond.selects RX5 yX5_putBack yX5_putBack, Cond.code yX5_putBack cX5_putBack 2 none, Cond.methodLink RL 81 yX4_loop, Cond.instanceMethod yX4_loop, Cond.selects RX4 yX4_loop yX4_loop, Cond.code yX4_loop cX4_loop 15 (some .int), Cond.methodLink RX4 207 yX4_isLoop, Cond.static yX4_isLoop, Cond.code yX4_isLoop cX4_isLoop 2 (some .boolean), Cond.methodLink RX4 210 yX4_stepsUp, Cond.static yX4_stepsUp, Cond.code yX4_stepsUp cX4_stepsUp 2 (some .int), Cond.methodLink RL 85 yX5_loop, Cond.instanceMethod yX5_loop, Cond.selects RX5 yX5_loop yX5_loop, Cond.code yX5_loop cX5_loop 5 (some .int), Cond.fieldLink RX5 147 "MagnetChainModel" "area" "I", Cond.fieldLink RX5 150 "MagnetChainModel" "remains" "I", Cond.fieldLink RX5 153 "MagnetChainModel" "turnsOver" "I", Cond.fieldLink RX5 144 "MagnetChainModel" "loopTurns" "I"]
def wsL_law_r23 : List Cond := [Cond.methodLink RX5 159 yX5_run, Cond.instanceMethod yX5_run, Cond.selects RX5 yX5_run yX5_run, Cond.code yX5_run cX5_run 7 (some .int), Cond.methodLink RX5 156 yX5_to, Cond.instanceMethod yX5_to, Cond.selects RX5 yX5_to yX5_to, Cond.code yX5_to cX5_to 3 (some .int), Cond.methodLink RL 86 yX4_solve, Cond.instanceMethod yX4_solve, Cond.selects RX4 yX4_solve yX4_solve, Cond.code yX4_solve cX4_solve 5 (some .int), Cond.methodLink RX4 213 yX4_firstPush, Cond.static yX4_firstPush, Cond.code yX4_firstPush cX4_firstPush 6 (some .int), Cond.methodLink RX4 217 yX4_magnetOf, Cond.static yX4_magnetOf, Cond.code yX4_magnetOf cX4_magnetOf 1 (some .int), Cond.methodLink RX4 238 yX1_takeAngles, Cond.methodLink RX4 220 yX4_directionOf, Cond.static yX4_directionOf, Cond.code yX4_directionOf cX4_directionOf 1 (some .int), Cond.methodLink RL 89 yX5_solve, Cond.instanceMethod yX5_solve]
def wsL_law_r24 : List Cond := [Cond.selects RX5 yX5_solve yX5_solve, Cond.code yX5_solve cX5_solve 5 (some .int), Cond.methodLink RX5 174 yX5_isSolvedBy, Cond.instanceMethod yX5_isSolvedBy, Cond.selects RX5 yX5_isSolvedBy yX5_isSolvedBy, Cond.code yX5_isSolvedBy cX5_isSolvedBy 3 (some .boolean), Cond.methodLink RX5 171 yX5_search, Cond.instanceMethod yX5_search, Cond.selects RX5 yX5_search yX5_search, Cond.code yX5_search cX5_search 5 (some .boolean), Cond.methodLink RX5 162 yX5_store, Cond.instanceMethod yX5_store, Cond.selects RX5 yX5_store yX5_store, Cond.code yX5_store cX5_store 3 none, Cond.methodLink RX5 165 yX5_choices, Cond.instanceMethod yX5_choices, Cond.selects RX5 yX5_choices yX5_choices, Cond.code yX5_choices cX5_choices 1 (some .int), Cond.methodLink RX5 168 yX5_restore, Cond.instanceMethod yX5_restore, Cond.selects RX5 yX5_restore yX5_restore, Cond.code yX5_restore cX5_restore 3 none, Cond.methodLink RL 90 yX4_write, Cond.instanceMethod yX4_write]
def wsL_law_r25 : List Cond := [Cond.selects RX4 yX4_write yX4_write, Cond.code yX4_write cX4_write 2 (some .int), Cond.methodLink RX4 223 yX3_append, Cond.instanceMethod yX3_append, Cond.selects RX3 yX3_append yX3_append, Cond.code yX3_append cX3_append 2 (some .boolean), Cond.methodLink RL 93 yX5_write, Cond.instanceMethod yX5_write, Cond.selects RX5 yX5_write yX5_write, Cond.code yX5_write cX5_write 2 (some .int), Cond.methodLink RL 94 yX4_wipe, Cond.instanceMethod yX4_wipe, Cond.selects RX4 yX4_wipe yX4_wipe, Cond.code yX4_wipe cX4_wipe 2 (some .int), Cond.methodLink RL 97 yX5_wipe, Cond.instanceMethod yX5_wipe, Cond.selects RX5 yX5_wipe yX5_wipe, Cond.code yX5_wipe cX5_wipe 2 (some .int), Cond.methodLink RL 98 yX4_load, Cond.instanceMethod yX4_load, Cond.selects RX4 yX4_load yX4_load, Cond.code yX4_load cX4_load 3 (some .int), Cond.methodLink RX4 225 yX3_readInto, Cond.instanceMethod yX3_readInto]
def wsL_law_r26 : List Cond := [Cond.selects RX3 yX3_readInto yX3_readInto, Cond.code yX3_readInto cX3_readInto 6 (some .boolean), Cond.fieldLink RX3 26 "MagnetChain$Chain" "size" "I", Cond.fieldLink RX3 43 "MagnetChain$Chain" "held" "[I", Cond.methodLink RX3 35 yX3_refuse, Cond.instanceMethod yX3_refuse, Cond.selects RX3 yX3_refuse yX3_refuse, Cond.code yX3_refuse cX3_refuse 3 (some .boolean), Cond.methodLink RX3 39 yX1_putIn, Cond.methodLink RL 101 yX5_load, Cond.instanceMethod yX5_load, Cond.selects RX5 yX5_load yX5_load, Cond.code yX5_load cX5_load 3 (some .int), Cond.fieldLink RX5 177 "MagnetChainModel" "wrongKind" "I", Cond.fieldLink RX5 180 "MagnetChainModel" "wrongPlace" "I", Cond.fieldLink RX5 183 "MagnetChainModel" "read" "I", Cond.methodLink RX5 193 yX5_readAll, Cond.instanceMethod yX5_readAll, Cond.selects RX5 yX5_readAll yX5_readAll, Cond.code yX5_readAll cX5_readAll 2 none, Cond.methodLink RX5 186 yX5_fails, Cond.instanceMethod yX5_fails, Cond.selects RX5 yX5_fails yX5_fails, Cond.code yX5_fails cX5_fails 3 none]
def wsL_law_r27 : List Cond := [Cond.methodLink RX5 190 yX5_readByte, Cond.instanceMethod yX5_readByte, Cond.selects RX5 yX5_readByte yX5_readByte, Cond.code yX5_readByte cX5_readByte 4 none, Cond.methodLink RL 102 yX4_fault, Cond.instanceMethod yX4_fault, Cond.selects RX4 yX4_fault yX4_fault, Cond.code yX4_fault cX4_fault 2 (some .int), Cond.fieldLink RX4 229 "MagnetChain$Text" "faultKind" "I", Cond.fieldLink RX4 232 "MagnetChain$Text" "faultPlace" "I", Cond.methodLink RL 105 yX5_fault, Cond.instanceMethod yX5_fault, Cond.selects RX5 yX5_fault yX5_fault, Cond.code yX5_fault cX5_fault 2 (some .int), Cond.methodLink RL 106 yX4_keep, Cond.instanceMethod yX4_keep, Cond.selects RX4 yX4_keep yX4_keep, Cond.code yX4_keep cX4_keep 2 (some .int), Cond.methodLink RL 109 yX5_keep, Cond.instanceMethod yX5_keep, Cond.selects RX5 yX5_keep yX5_keep, Cond.code yX5_keep cX5_keep 3 (some .int), Cond.methodLink RX5 196 yX5_isImage, Cond.static yX5_isImage]
def wsL_law_r28 : List Cond := [Cond.code yX5_isImage cX5_isImage 1 (some .boolean), Cond.methodLink RL 110 yX4_back, Cond.instanceMethod yX4_back, Cond.selects RX4 yX4_back yX4_back, Cond.code yX4_back cX4_back 2 (some .int), Cond.methodLink RL 113 yX5_back, Cond.instanceMethod yX5_back, Cond.selects RX5 yX5_back yX5_back, Cond.code yX5_back cX5_back 3 (some .int)]
def wsL_law : List Cond := (wsL_law_r1 ++ (wsL_law_r2 ++ (wsL_law_r3 ++ (wsL_law_r4 ++ (wsL_law_r5 ++ (wsL_law_r6 ++ (wsL_law_r7 ++ (wsL_law_r8 ++ (wsL_law_r9 ++ (wsL_law_r10 ++ (wsL_law_r11 ++ (wsL_law_r12 ++ (wsL_law_r13 ++ (wsL_law_r14 ++ (wsL_law_r15 ++ (wsL_law_r16 ++ (wsL_law_r17 ++ (wsL_law_r18 ++ (wsL_law_r19 ++ (wsL_law_r20 ++ (wsL_law_r21 ++ (wsL_law_r22 ++ (wsL_law_r23 ++ (wsL_law_r24 ++ (wsL_law_r25 ++ (wsL_law_r26 ++ (wsL_law_r27 ++ wsL_law_r28))))))))))))))))))))))))))) ++ wsX40 ++ wsX50 ++ wsX20 ++ wsX30 ++ wsX10 ++ wsX00 ++ ([] : List Cond)
theorem inlX0 : ∀ w ∈ wsX00, w ∈ wsL_law := fun _ h => List.mem_append_left _ (List.mem_append_right _ h)
theorem inlX1 : ∀ w ∈ wsX10, w ∈ wsL_law := fun _ h => List.mem_append_left _ (List.mem_append_left _ (List.mem_append_right _ h))
theorem inlX2 : ∀ w ∈ wsX20, w ∈ wsL_law := fun _ h => List.mem_append_left _ (List.mem_append_left _ (List.mem_append_left _ (List.mem_append_left _ (List.mem_append_right _ h))))
theorem inlX3 : ∀ w ∈ wsX30, w ∈ wsL_law := fun _ h => List.mem_append_left _ (List.mem_append_left _ (List.mem_append_left _ (List.mem_append_right _ h)))
theorem inlX4 : ∀ w ∈ wsX40, w ∈ wsL_law := fun _ h => List.mem_append_left _ (List.mem_append_left _ (List.mem_append_left _ (List.mem_append_left _ (List.mem_append_left _ (List.mem_append_left _ (List.mem_append_right _ h))))))
theorem inlX5 : ∀ w ∈ wsX50, w ∈ wsL_law := fun _ h => List.mem_append_left _ (List.mem_append_left _ (List.mem_append_left _ (List.mem_append_left _ (List.mem_append_left _ (List.mem_append_right _ h)))))
theorem inJ9 : ∀ w ∈ wsJ90, w ∈ lw_tbl := by decide +kernel
theorem inJ10 : ∀ w ∈ wsJ100, w ∈ lw_tbl := by decide +kernel
theorem inJ7 : ∀ w ∈ wsJ70, w ∈ lw_tbl := by decide +kernel
abbrev vwCl : List vw_C := [(RX0, TX0, 8), (RX1, TX1, 8), (RX2, TX2, 2), (RX3, TX3, 4), (RX4, TX4, 7), (RX5, TX5, 21)]
end
section
/-! ===== the memory of class and reference: objects by (class, number), each with ints by slot and int arrays by slot ===== -/
abbrev OV : Type := (Nat → Int32) × (Nat → Nat → Int32)
abbrev Mem : Type := (Nat → Nat → OV) × (Nat → Nat)
/-- what stays the same over a run: the launch, the classes, the array classes (int, boolean, State, Chain), the addresses, where the world begins, the table's address -/
abbrev GT : Type := Launch × va_G × (ClassId × ClassId × ClassId × ClassId) × (Nat → Nat → Nat → Nat) × Nat × Nat
def ad (Γ : GT) (ci i j : Nat) : Nat := Γ.2.2.2.1 ci i j
def gA (Γ : GT) : Nat → Prop := fun q => Γ.2.2.2.2.1 ≤ q
def tys (Γ : GT) : List (ClassId × FieldType) := [(Γ.2.2.1.1, .int), (Γ.2.2.1.2.1, .boolean), (Γ.2.2.1.2.2.1, .object RX2), (Γ.2.2.1.2.2.2, .object RX1)]
def alen (ci s : Nat) : Nat := match ci with
  | 0 => 30
  | 1 => 10
  | 3 => 40
  | _ => match s with
    | 0 => 130
    | 1 => 1040
    | 3 => 260
    | 4 => 2
    | 5 => 40
    | 9 => 130
    | 14 => 30
    | 15 => 3
    | _ => 10
/-- how many objects of a class -/
abbrev nO (ci : Nat) : Nat := match ci with
  | 0 => 11
  | 1 => 15
  | 2 => 11
  | _ => 1
/-- which slots of a class are int arrays -/
def isA (ci s : Nat) : Bool := match ci with
  | 0 => Nat.beq s 5 || Nat.beq s 6 || Nat.beq s 7
  | 1 => Nat.beq s 1 || Nat.beq s 2 || Nat.beq s 3
  | 3 => Nat.beq s 0
  | 5 => Nat.beq s 0 || Nat.beq s 1 || Nat.beq s 3 || Nat.beq s 4 || Nat.beq s 5 || Nat.beq s 9 || Nat.beq s 14 || Nat.beq s 15 || Nat.beq s 16 || Nat.beq s 17
  | _ => false
/-- which slots of a class are ints -/
def isI (ci s : Nat) : Bool := match ci with
  | 0 => Nat.blt s 5
  | 1 => Nat.beq s 0 || Nat.beq s 4 || Nat.beq s 5 || Nat.beq s 6 || Nat.beq s 7
  | 3 => Nat.beq s 1 || Nat.beq s 2 || Nat.beq s 3
  | 4 => Nat.beq s 2
  | 5 => Nat.beq s 2 || Nat.beq s 6 || Nat.beq s 7 || Nat.beq s 8 || Nat.beq s 10 || Nat.beq s 11 || Nat.beq s 12 || Nat.beq s 13 || Nat.beq s 18 || Nat.beq s 19 || Nat.beq s 20
  | _ => false
/-- which slots of the main object are arrays of another kind -/
def isR (ci s : Nat) : Bool := Nat.beq ci 4 && (Nat.beq s 1 || Nat.beq s 3 || Nat.beq s 4 || Nat.beq s 6)
def okJ (ci j : Nat) : Bool := match j with
  | 0 => true
  | s + 1 => isA ci s || isR ci s
def keys : List (Nat × Nat × Nat) := (List.range 6).flatMap fun ci => (List.range (nO ci)).flatMap fun i => ((List.range 19).filter (okJ ci)).map fun j => (ci, i, j)
theorem mem_keys {ci i j : Nat} (h1 : ci < 6) (h2 : i < nO ci) (h3 : j < 19) (h4 : okJ ci j = true) : (ci, i, j) ∈ keys := by
  unfold keys
  refine List.mem_flatMap.mpr ⟨ci, List.mem_range.mpr h1, List.mem_flatMap.mpr ⟨i, List.mem_range.mpr h2, List.mem_map.mpr ⟨j, List.mem_filter.mpr ⟨List.mem_range.mpr h3, h4⟩, rfl⟩⟩⟩
theorem keys_nodup : keys.Nodup := by decide +kernel
def flds (Γ : GT) (M : Mem) (ci i : Nat) : List Value := match ci with
  | 0 => [.int ((M.1 0 i).1 0), .int ((M.1 0 i).1 1), .int ((M.1 0 i).1 2), .int ((M.1 0 i).1 3), .int ((M.1 0 i).1 4), .ref (ad Γ 0 i 6), .ref (ad Γ 0 i 7), .ref (ad Γ 0 i 8)]
  | 1 => [.int ((M.1 1 i).1 0), .ref (ad Γ 1 i 2), .ref (ad Γ 1 i 3), .ref (ad Γ 1 i 4), .int ((M.1 1 i).1 4), .int ((M.1 1 i).1 5), .int ((M.1 1 i).1 6), .int ((M.1 1 i).1 7)]
  | 2 => [.ref (ad Γ 1 i 0), .ref (ad Γ 0 i 0)]
  | 3 => [.ref (ad Γ 3 i 1), .int ((M.1 3 i).1 1), .int ((M.1 3 i).1 2), .int ((M.1 3 i).1 3)]
  | 4 => [.ref (ad Γ 2 0 0), .ref (ad Γ 4 i 2), .int ((M.1 4 i).1 2), .ref (ad Γ 4 i 4), .ref (ad Γ 4 i 5), .ref (ad Γ 3 0 0), .ref (ad Γ 4 i 7)]
  | ci => [.ref (ad Γ ci i 1), .ref (ad Γ ci i 2), .int ((M.1 ci i).1 2), .ref (ad Γ ci i 4), .ref (ad Γ ci i 5), .ref (ad Γ ci i 6), .int ((M.1 ci i).1 6), .int ((M.1 ci i).1 7), .int ((M.1 ci i).1 8), .ref (ad Γ ci i 10), .int ((M.1 ci i).1 10), .int ((M.1 ci i).1 11), .int ((M.1 ci i).1 12), .int ((M.1 ci i).1 13), .ref (ad Γ ci i 15), .ref (ad Γ ci i 16), .ref (ad Γ ci i 17), .ref (ad Γ ci i 18), .int ((M.1 ci i).1 18), .int ((M.1 ci i).1 19), .int ((M.1 ci i).1 20)]
def acell (Γ : GT) (M : Mem) (ci i s : Nat) : va_E := match ci with
  | 4 => (match s with
    | 1 => .inl (Γ.2.2.1.2.2.1, 8, .inr (.inr (.inr (.inr (fun k => some (ad Γ 2 (M.2 k) 0))))))
    | 3 => .inl (Γ.2.2.1.2.2.1, 2, .inr (.inr (.inr (.inr (fun k => some (ad Γ 2 (9 + k) 0))))))
    | 4 => .inl (Γ.2.2.1.2.1, 2, .inl ((M.1 4 i).2 4))
    | _ => .inl (Γ.2.2.1.2.2.2, 4, .inr (.inr (.inr (.inr (fun k => some (ad Γ 1 (11 + k) 0)))))))
  | ci => .inl (Γ.2.2.1.1, alen ci s, .inl ((M.1 ci i).2 s))
def cell (Γ : GT) (M : Mem) (ci i j : Nat) : va_E := match j with
  | 0 => .inr (ci, flds Γ M ci i)
  | s + 1 => acell Γ M ci i s
def mem (Γ : GT) (M : Mem) : va_W := keys.map fun k => (ad Γ k.1 k.2.1 k.2.2, cell Γ M k.1 k.2.1 k.2.2)
/-- the addresses are apart, and in the world -/
def GOK (Γ : GT) : Prop := (∀ k ∈ keys, ∀ k' ∈ keys, ad Γ k.1 k.2.1 k.2.2 = ad Γ k'.1 k'.2.1 k'.2.2 → k = k') ∧ ∀ k ∈ keys, gA Γ (ad Γ k.1 k.2.1 k.2.2)
theorem mem_at (Γ : GT) (M : Mem) {k : Nat × Nat × Nat} (hk : k ∈ keys) : ∃ q : Nat, (mem Γ M)[q]? = some (ad Γ k.1 k.2.1 k.2.2, cell Γ M k.1 k.2.1 k.2.2) := by
  obtain ⟨q, hq⟩ := List.getElem?_of_mem hk
  exact ⟨q, by simp [mem, hq]⟩
theorem mem_inv {Γ : GT} {M : Mem} {q : Nat} {x : Nat × va_E} (h : (mem Γ M)[q]? = some x) : ∃ k, keys[q]? = some k ∧ x = (ad Γ k.1 k.2.1 k.2.2, cell Γ M k.1 k.2.1 k.2.2) := by
  unfold mem at h
  rw [List.getElem?_map] at h
  cases hq : keys[q]? with
  | none => rw [hq] at h; cases h
  | some k => rw [hq] at h; exact ⟨k, rfl, (Option.some.inj h).symm⟩
theorem memD {Γ : GT} (hG : GOK Γ) (M : Mem) : va_D (gA Γ) (mem Γ M) := by
  refine ⟨fun i j x y hi hj hxy => ?_, fun q x hq => ?_⟩
  · obtain ⟨k, hk, rfl⟩ := mem_inv hi
    obtain ⟨k', hk', rfl⟩ := mem_inv hj
    have e := hG.1 k (List.mem_of_getElem? hk) k' (List.mem_of_getElem? hk') hxy
    subst e
    have hl : i < keys.length := (List.getElem?_eq_some_iff.mp hk).1
    exact (List.getElem?_inj hl keys_nodup).mp (hk.trans hk'.symm)
  · obtain ⟨k, hk, rfl⟩ := mem_inv hq
    exact hG.2 k (List.mem_of_getElem? hk)
theorem mem_set {Γ : GT} (hG : GOK Γ) {M M' : Mem} {k : Nat × Nat × Nat} (hk : k ∈ keys) {q : Nat} {e0 e : va_E} (hq : (mem Γ M)[q]? = some (ad Γ k.1 k.2.1 k.2.2, e0)) (he : cell Γ M' k.1 k.2.1 k.2.2 = e) (ho : ∀ k' ∈ keys, k' ≠ k → cell Γ M' k'.1 k'.2.1 k'.2.2 = cell Γ M k'.1 k'.2.1 k'.2.2) : (mem Γ M).set q (ad Γ k.1 k.2.1 k.2.2, e) = mem Γ M' := by
  obtain ⟨k0, hk0, e1⟩ := mem_inv hq
  have ek : k = k0 := hG.1 k hk k0 (List.mem_of_getElem? hk0) (by have := congrArg Prod.fst e1; exact this)
  subst ek
  have hl : q < keys.length := (List.getElem?_eq_some_iff.mp hk0).1
  apply List.ext_getElem?
  intro q'
  by_cases h : q' = q
  · subst h
    rw [List.getElem?_set_self (by unfold mem; rw [List.length_map]; exact hl)]
    unfold mem
    rw [List.getElem?_map, hk0]
    simp only [Option.map_some, he]
  · rw [List.getElem?_set_ne (Ne.symm h)]
    unfold mem
    rw [List.getElem?_map, List.getElem?_map]
    cases hq' : keys[q']? with
    | none => rfl
    | some k' =>
      have hne : k' ≠ k := by
        intro z
        subst z
        exact h ((List.getElem?_inj hl keys_nodup).mp (hk0.trans hq'.symm)).symm
      simp only [Option.map_some, ho k' (List.mem_of_getElem? hq') hne]
/-! ===== writes ===== -/
def sO (M : Mem) (ci i : Nat) (X : OV) : Mem := (fun c' i' => if c' = ci ∧ i' = i then X else M.1 c' i', M.2)
abbrev oI (X : OV) (j : Nat) (v : Int32) : OV := (upd X.1 j v, X.2)
def updA (F : Nat → Nat → Int32) (s : Nat) (f : Nat → Int32) : Nat → Nat → Int32 := fun s' => if s' = s then f else F s'
abbrev oA (X : OV) (s : Nat) (f : Nat → Int32) : OV := (X.1, updA X.2 s f)
abbrev sI (M : Mem) (ci i j : Nat) (v : Int32) : Mem := sO M ci i (oI (M.1 ci i) j v)
abbrev sA (M : Mem) (ci i s : Nat) (f : Nat → Int32) : Mem := sO M ci i (oA (M.1 ci i) s f)
abbrev sH (M : Mem) (g : Nat → Nat) : Mem := (M.1, g)
theorem sO_same (M : Mem) (ci i : Nat) (X : OV) : (sO M ci i X).1 ci i = X := by simp [sO]
theorem sO_kind (M : Mem) {ci ci' : Nat} (i i' : Nat) (X : OV) (h : ci' ≠ ci) : (sO M ci i X).1 ci' i' = M.1 ci' i' := by simp [sO, h]
theorem sO_idx (M : Mem) (ci ci' : Nat) {i i' : Nat} (X : OV) (h : i' ≠ i) : (sO M ci i X).1 ci' i' = M.1 ci' i' := by simp [sO, h]
theorem sO_hist (M : Mem) (ci i : Nat) (X : OV) : (sO M ci i X).2 = M.2 := rfl
theorem sO_sO (M : Mem) (ci i : Nat) (X Y : OV) : sO (sO M ci i X) ci i Y = sO M ci i Y := by
  unfold sO
  refine congrArg (fun f => (f, M.2)) ?_
  funext c' i'
  by_cases h : c' = ci ∧ i' = i <;> simp [h]
theorem sO_self (M : Mem) (ci i : Nat) : sO M ci i (M.1 ci i) = M := by
  unfold sO
  refine Prod.ext ?_ rfl
  funext c' i'
  by_cases h : c' = ci ∧ i' = i
  · simp [h]
  · simp [h]
theorem sO_comm (M : Mem) {ci ci' : Nat} (i i' : Nat) (X Y : OV) (h : ci ≠ ci' ∨ i ≠ i') : sO (sO M ci i X) ci' i' Y = sO (sO M ci' i' Y) ci i X := by
  unfold sO
  refine congrArg (fun f => (f, M.2)) ?_
  funext c i0
  show (if c = ci' ∧ i0 = i' then Y else if c = ci ∧ i0 = i then X else M.1 c i0) = (if c = ci ∧ i0 = i then X else if c = ci' ∧ i0 = i' then Y else M.1 c i0)
  by_cases h1 : c = ci ∧ i0 = i
  · have h2 : ¬ (c = ci' ∧ i0 = i') := by
      rintro ⟨h3, h4⟩
      rcases h with h | h
      · exact h (h1.1.symm.trans h3)
      · exact h (h1.2.symm.trans h4)
    rw [if_pos h1, if_neg h2, if_pos h1]
  · rw [if_neg h1, if_neg h1]
theorem upd_same (f : Nat → Int32) (k : Nat) (x : Int32) : upd f k x k = x := by simp [upd]
theorem upd_ne (f : Nat → Int32) {k j : Nat} (x : Int32) (h : j ≠ k) : upd f k x j = f j := by simp [upd, h]
theorem updA_same (F : Nat → Nat → Int32) (s : Nat) (f : Nat → Int32) : updA F s f s = f := by simp [updA]
theorem updA_ne (F : Nat → Nat → Int32) {s s' : Nat} (f : Nat → Int32) (h : s' ≠ s) : updA F s f s' = F s' := by simp [updA, h]
theorem updA_updA (F : Nat → Nat → Int32) (s : Nat) (f g : Nat → Int32) : updA (updA F s f) s g = updA F s g := by
  funext s'
  by_cases h : s' = s <;> simp [updA, h]
theorem flds_c (Γ : GT) {M M' : Mem} {ci i : Nat} (h : (M'.1 ci i).1 = (M.1 ci i).1) : flds Γ M' ci i = flds Γ M ci i := by
  unfold flds
  split <;> simp only [h]
theorem acell_c (Γ : GT) {M M' : Mem} {ci i s : Nat} (h : (M'.1 ci i).2 s = (M.1 ci i).2 s) (h2 : M'.2 = M.2) : acell Γ M' ci i s = acell Γ M ci i s := by
  unfold acell
  split
  · split
    · rw [h2]
    · rfl
    · rw [h]
    · rfl
  · rw [h]
theorem cell_c (Γ : GT) {M M' : Mem} {ci i j : Nat} (h1 : (M'.1 ci i).1 = (M.1 ci i).1) (h : (M'.1 ci i).2 = (M.1 ci i).2) (h2 : M'.2 = M.2) : cell Γ M' ci i j = cell Γ M ci i j := by
  cases j with
  | zero => exact congrArg (fun l => Sum.inr (ci, l)) (flds_c Γ h1)
  | succ s => exact acell_c Γ (by rw [h]) h2
theorem flds_put (Γ : GT) (M : Mem) {ci i j : Nat} (v : Int32) (h : isI ci j = true) : (flds Γ M ci i).set j (.int v) = flds Γ (sI M ci i j v) ci i := by
  have e : ((sI M ci i j v).1 ci i).1 = upd (M.1 ci i).1 j v := by rw [sI, sO_same]
  unfold isI at h
  split at h
  · have hj : j = 0 ∨ j = 1 ∨ j = 2 ∨ j = 3 ∨ j = 4 := by
      have := Nat.blt_eq.mp h
      omega
    rcases hj with rfl | rfl | rfl | rfl | rfl <;> simp [flds, e, upd]
  · simp only [Bool.or_eq_true, Nat.beq_eq] at h
    rcases h with (((rfl | rfl) | rfl) | rfl) | rfl <;> simp [flds, e, upd]
  · simp only [Bool.or_eq_true, Nat.beq_eq] at h
    rcases h with (rfl | rfl) | rfl <;> simp [flds, e, upd]
  · simp only [Nat.beq_eq] at h
    subst h
    simp [flds, e, upd]
  · simp only [Bool.or_eq_true, Nat.beq_eq] at h
    rcases h with (((((((((rfl | rfl) | rfl) | rfl) | rfl) | rfl) | rfl) | rfl) | rfl) | rfl) | rfl <;> simp [flds, e, upd]
  · cases h
theorem acell_isA (Γ : GT) (M : Mem) {ci i s : Nat} (h : isA ci s = true) : acell Γ M ci i s = .inl (Γ.2.2.1.1, alen ci s, .inl ((M.1 ci i).2 s)) := by
  unfold acell
  split
  · cases h
  · rfl
theorem mem_put {Γ : GT} (hG : GOK Γ) {M : Mem} {ci i j : Nat} (v : Int32) (hc : ci < 6) (hi : i < nO ci) (h : isI ci j = true) {q : Nat} {e0 : va_E} (hq : (mem Γ M)[q]? = some (ad Γ ci i 0, e0)) : (mem Γ M).set q (ad Γ ci i 0, .inr (ci, (flds Γ M ci i).set j (.int v))) = mem Γ (sI M ci i j v) := by
  refine mem_set (k := (ci, i, 0)) hG (mem_keys hc hi (by decide) rfl) hq ?_ ?_
  · show cell Γ _ ci i 0 = _
    exact congrArg (fun l => Sum.inr (ci, l)) (flds_put Γ M v h).symm
  · rintro ⟨ci', i', j'⟩ - hne
    show cell Γ _ ci' i' j' = cell Γ _ ci' i' j'
    by_cases hs : ci' = ci ∧ i' = i
    · obtain ⟨rfl, rfl⟩ := hs
      cases j' with
      | zero => exact absurd rfl hne
      | succ s => exact acell_c Γ (by rw [sI, sO_same]) rfl
    · have e : (sI M ci i j v).1 ci' i' = M.1 ci' i' := by simp only [sI, sO, if_neg hs]
      exact cell_c Γ (by rw [e]) (by rw [e]) rfl
theorem mem_aput {Γ : GT} (hG : GOK Γ) {M : Mem} {ci i s : Nat} (f : Nat → Int32) (hc : ci < 6) (hi : i < nO ci) (hs : s < 18) (h : isA ci s = true) {q : Nat} {e0 : va_E} (hq : (mem Γ M)[q]? = some (ad Γ ci i (s + 1), e0)) : (mem Γ M).set q (ad Γ ci i (s + 1), .inl (Γ.2.2.1.1, alen ci s, .inl f)) = mem Γ (sA M ci i s f) := by
  refine mem_set (k := (ci, i, s + 1)) hG (mem_keys hc hi (by omega) (by show (isA ci s || isR ci s) = true; rw [h]; rfl)) hq ?_ ?_
  · show acell Γ _ ci i s = _
    rw [acell_isA Γ _ h, sA, sO_same]
    simp only [oA, updA_same]
  · rintro ⟨ci', i', j'⟩ - hne
    show cell Γ _ ci' i' j' = cell Γ _ ci' i' j'
    by_cases hz : ci' = ci ∧ i' = i
    · obtain ⟨rfl, rfl⟩ := hz
      cases j' with
      | zero => exact congrArg (fun l => Sum.inr (ci', l)) (flds_c Γ (by rw [sA, sO_same]))
      | succ s' =>
        have hn : s' ≠ s := fun z => hne (by rw [z])
        exact acell_c Γ (by simp only [sA, sO_same, oA, updA_ne _ _ hn]) rfl
    · have e : (sA M ci i s f).1 ci' i' = M.1 ci' i' := by simp only [sA, sO, if_neg hz]
      exact cell_c Γ (by rw [e]) (by rw [e]) rfl
theorem mem_kput {Γ : GT} (hG : GOK Γ) {M : Mem} (f : Nat → Int32) {q : Nat} {e0 : va_E} (hq : (mem Γ M)[q]? = some (ad Γ 4 0 5, e0)) : (mem Γ M).set q (ad Γ 4 0 5, .inl (Γ.2.2.1.2.1, 2, .inl f)) = mem Γ (sA M 4 0 4 f) := by
  refine mem_set (k := (4, 0, 5)) hG (mem_keys (by decide) (by decide) (by decide) (by decide)) hq ?_ ?_
  · show acell Γ _ 4 0 4 = _
    simp only [acell, sO_same, oA, updA_same]
  · rintro ⟨ci', i', j'⟩ - hne
    show cell Γ _ ci' i' j' = cell Γ _ ci' i' j'
    by_cases hz : ci' = 4 ∧ i' = 0
    · obtain ⟨rfl, rfl⟩ := hz
      cases j' with
      | zero => exact congrArg (fun l => Sum.inr (4, l)) (flds_c Γ (by rw [sA, sO_same]))
      | succ s' =>
        have hn : s' ≠ 4 := fun z => hne (by rw [z])
        exact acell_c Γ (M := M) (M' := sA M 4 0 4 f) (ci := 4) (i := 0) (s := s') (by simp only [sA, sO_same, oA, updA_ne _ _ hn]) rfl
    · have e : (sA M 4 0 4 f).1 ci' i' = M.1 ci' i' := by simp only [sA, sO, if_neg hz]
      exact cell_c Γ (by rw [e]) (by rw [e]) rfl
theorem mem_hput {Γ : GT} (hG : GOK Γ) {M : Mem} (g : Nat → Nat) {q : Nat} {e0 : va_E} (hq : (mem Γ M)[q]? = some (ad Γ 4 0 2, e0)) : (mem Γ M).set q (ad Γ 4 0 2, .inl (Γ.2.2.1.2.2.1, 8, .inr (.inr (.inr (.inr (fun k => some (ad Γ 2 (g k) 0))))))) = mem Γ (sH M g) := by
  refine mem_set (k := (4, 0, 2)) hG (mem_keys (by decide) (by decide) (by decide) (by decide)) hq rfl ?_
  rintro ⟨ci', i', j'⟩ hk' hne
  show cell Γ _ ci' i' j' = cell Γ _ ci' i' j'
  cases j' with
  | zero => exact congrArg (fun l => Sum.inr (ci', l)) (flds_c Γ rfl)
  | succ s' =>
    show acell Γ _ ci' i' s' = acell Γ _ ci' i' s'
    by_cases hz : ci' = 4
    · subst hz
      have hi : i' = 0 := by
        unfold keys at hk'
        obtain ⟨a, -, h1⟩ := List.mem_flatMap.mp hk'
        obtain ⟨b, hb, h2⟩ := List.mem_flatMap.mp h1
        obtain ⟨c, -, h3⟩ := List.mem_map.mp h2
        cases h3
        have := List.mem_range.mp hb
        have h9 : nO 4 = 1 := rfl
        omega
      subst hi
      have hn : s' ≠ 1 := fun z => hne (by rw [z])
      unfold acell
      simp only
      split
      · exact absurd rfl hn
      · rfl
      · rfl
      · rfl
    · unfold acell
      split
      · exact absurd rfl hz
      · rfl
end
section
/-! ===== a method's walk over the memory ===== -/
abbrev KT : Type := Program × Env × Room × State × MethodId × Array Value × List Frame × Method × Code × (State → Prop)
abbrev kP (K : KT) : Program := K.1
abbrev kE (K : KT) : Env := K.2.1
abbrev kR (K : KT) : Room := K.2.2.1
abbrev kS (K : KT) : State := K.2.2.2.1
abbrev kM (K : KT) : MethodId := K.2.2.2.2.1
abbrev kArgs (K : KT) : Array Value := K.2.2.2.2.2.1
abbrev kB (K : KT) : List Frame := K.2.2.2.2.2.2.1
abbrev kMeth (K : KT) : Method := K.2.2.2.2.2.2.2.1
abbrev kC (K : KT) : Code := K.2.2.2.2.2.2.2.2.1
abbrev kQ (K : KT) : State → Prop := K.2.2.2.2.2.2.2.2.2
def WM (Γ : GT) (K : KT) (M : Mem) (L : List (Nat × Value)) (pc : Nat) (st : List Value) : Prop :=
  ∀ (H : Heap) (locs : List Loc) (ls : Array Slot), va_P Γ.2.1 vwCl (mem Γ M) H → va_S (gA Γ) (kS K).heap H locs → lv_has ls (kC K).maxLocals L → W (kP K) Γ.1 (kE K) (kR K) (kS K) (kM K) (kArgs K) (kB K) (kMeth K) (kC K) H locs 0 0 (kQ K) (F0 (kM K) pc ls st)
/-- the links between nest mates -/
def NWF (U : State) : Prop := va_Nw (.methodLinkNest RX1 72 yX4_pull RX4) U ∧ va_Nw (.methodLinkNest RX1 75 yX4_cosine RX4) U ∧ va_Nw (.methodLinkNest RX3 31 yX4_isWithin RX4) U
def cosV (k : Nat) : Int32 := ([10, 7, 0, -7, -10, -7, 0, 7] : List Int32).getD k 0
def COSF (Γ : GT) (U : State) (H : Heap) : Prop := va_Z RX4 "COSINES" "[I" (.ref Γ.2.2.2.2.2) (gA Γ) U H ∧ va_T .int Γ.2.2.2.2.2 8 (fun k => .int (cosV k)) (gA Γ) U H
def HW (Γ : GT) (M : Mem) (U : State) : Prop := GOK Γ ∧ va_P Γ.2.1 vwCl (mem Γ M) U.heap ∧ va_K Γ.2.1 vwCl (tys Γ) U ∧ NWF U ∧ COSF Γ U U.heap
theorem NWF.same {u U : State} (h : u.vm = U.vm) (hn : NWF u) : NWF U := ⟨va_Nw.same rfl h hn.1, va_Nw.same rfl h hn.2.1, va_Nw.same rfl h hn.2.2⟩
theorem NWF.warm {s U : State} (hW : s.WarmedH U.vm) (hn : NWF s) : NWF U := ⟨va_Nw.warmM hW hn.1, va_Nw.warmM hW hn.2.1, va_Nw.warmM hW hn.2.2⟩
theorem HW.blind (Γ : GT) (M : Mem) (a : Array Value) (U : State) (g : JFrame) (mk : MethodId) (h : HW Γ M U) : HW Γ M (U.calling g mk a) :=
  ⟨h.1, h.2.1, va_K.moved (u := U) (U := U.calling g mk a) (Vm.Alike.refl U.vm) h.2.2.1, NWF.same rfl h.2.2.2.1, va_Z.moved (u := U) (U := U.calling g mk a) (Vm.Alike.refl U.vm) h.2.2.2.2.1, va_T.moved (u := U) (U := U.calling g mk a) (Vm.Alike.refl U.vm) h.2.2.2.2.2⟩
def Gd (Γ : GT) (K : KT) (cc : ByteArray) (own : String) (nL d : Nat) : Prop :=
  (kP K).tables.exec = Jvm.exec ∧ (kC K).code = cc ∧ (kC K).maxLocals = nL ∧ (kS K).vm.findClass own = some (kM K).cls ∧ (∀ w ∈ wsL_law, w.before (kArgs K) (kS K) = true) ∧ va_K Γ.2.1 vwCl (tys Γ) (kS K) ∧ GOK Γ ∧ NWF (kS K) ∧ COSF Γ (kS K) (kS K).heap ∧ d ≤ (kR K).frames ∧ 64 * d ≤ (kR K).locals
def QC (Γ : GT) (o : Option Value) (M : Mem) : Array Value → State → Outcome → State → Prop := fun _ st oc t => (oc = .returned o ∧ va_P Γ.2.1 vwCl (mem Γ M) t.heap) ∧ va_F (gA Γ) st t
/-- the end that the walk is to reach: the answer o, the memory M -/
def RK (Γ : GT) (K : KT) (ret : Option FieldType) (o : Option Value) (M : Mem) : Prop := (kMeth K).sig.returnType = ret ∧ (kMeth K).locks = false ∧ kQ K = MQ (kB K) (QC Γ o M) (kArgs K) (kS K) 0 0 (gA Γ)
abbrev rmd (d : Nat) : Room := { frames := d, cells := 0, slots := 0, locals := 64 * d }
/-- a method's contract: from the memory M it returns o, and the memory is M' -/
def Ct (Γ : GT) (y : MethodName) (cc : ByteArray) (nL : Nat) (ret : Option FieldType) (d : Nat) (args : List Value) (M : Mem) (o : Option Value) (M' : Mem) : Prop :=
  Met Γ.1 y (.code y cc nL ret :: wsL_law) (rmd d) (va_Pc args (HW Γ M)) (QC Γ o M') 0 0 (gA Γ)
theorem ct_of {Γ : GT} {y : MethodName} {cc : ByteArray} {nL : Nat} {ret : Option FieldType} {d : Nat} {args : List Value} {M : Mem} {o : Option Value} {M' : Mem} (hy : plainName y.cls = true) (hsz : (lg_sl args).length ≤ nL)
    (body : ∀ K : KT, Gd Γ K cc y.cls nL d → RK Γ K ret o M' → WM Γ K M (lv_args 0 args) 0 []) : Ct Γ y cc nL ret d args M o M' := by
  refine Met.ofW (cc := cc) (maxL := nL) (ret := ret) hy rfl ?_
  intro p e s m a below meth c s₁ B hml hv
  obtain ⟨rfl, hG, hP, hK, hN, hC⟩ := hv
  have hts := atoms_spec (ws := Cond.code y cc nL ret :: wsL_law) B.pre
  have hown : s.vm.findClass y.cls = some m.cls := findClass_of_methodNamed B.named
  have hl := lv_entry args (n := nL) hsz
  rw [lg_entry_eq]
  have h := body (p, e, rmd d, s, m, args.toArray, below, meth, c, MQ below (QC Γ o M') args.toArray s 0 0 (gA Γ)) ⟨B.exec, B.bytes, hml, hown, fun w hw => hts w (List.mem_cons_of_mem _ hw), hK, hG, hN, hC, Nat.le_refl _, Nat.le_refl _⟩ ⟨B.returns, B.notSynchronized, rfl⟩
  exact h s.heap [] _ hP va_S.rf (by rw [hml]; exact hl)
/-! ===== the end of a walk ===== -/
section Rows
variable {Γ : GT} {K : KT} {cc : ByteArray} {own : String} {nL d : Nat} {M : Mem} {L : List (Nat × Value)} {pc : Nat} {st : List Value}
theorem wm_ireturn {v : Int32} (hg : Gd Γ K cc own nL d) (hr : RK Γ K (some .int) (some (.int v)) M) (hd : decode cc pc = .ok (.ireturn, 1)) : WM Γ K M L pc [.int v] := by
  intro H locs ls hP hS hl
  obtain ⟨hx, hb, -⟩ := hg
  obtain ⟨h1, h2, h3⟩ := hr
  rw [h3]
  exact W.iret hx hb h1 (fun t ht hW => ⟨⟨rfl, by rw [ht]; exact hP⟩, hS.F ht⟩) hS.2.2 hd h2
theorem wm_zreturn {v : Int32} (hg : Gd Γ K cc own nL d) (hr : RK Γ K (some .boolean) (some (.int v)) M) (hn : v = 0 ∨ v = 1) (hd : decode cc pc = .ok (.ireturn, 1)) : WM Γ K M L pc [.int v] := by
  intro H locs ls hP hS hl
  obtain ⟨hx, hb, -⟩ := hg
  obtain ⟨h1, h2, h3⟩ := hr
  rw [h3]
  exact W.zret hx hb h1 (by rcases hn with rfl | rfl <;> rfl) (fun t ht hW => ⟨⟨rfl, by rw [ht]; exact hP⟩, hS.F ht⟩) hS.2.2 hd h2
theorem wm_return (hg : Gd Γ K cc own nL d) (hr : RK Γ K none none M) (hd : decode cc pc = .ok (.return_, 1)) : WM Γ K M L pc [] := by
  intro H locs ls hP hS hl
  obtain ⟨hx, hb, -⟩ := hg
  obtain ⟨h1, h2, h3⟩ := hr
  rw [h3]
  exact W.vret hx hb h1 (fun t ht hW => ⟨⟨rfl, by rw [ht]; exact hP⟩, hS.F ht⟩) hS.2.2 hd h2
theorem wm_freturn {v : UInt32} (hg : Gd Γ K cc own nL d) (hr : RK Γ K (some .float) (some (.float v)) M) (hd : decode cc pc = .ok (.freturn, 1)) : WM Γ K M L pc [.float v] := by
  intro H locs ls hP hS hl
  obtain ⟨hx, hb, -⟩ := hg
  obtain ⟨h1, h2, h3⟩ := hr
  rw [h3]
  exact W.fret hx hb h1 (fun t ht hW => ⟨⟨rfl, by rw [ht]; exact hP⟩, hS.F ht⟩) hS.2.2 hd h2
/-- another way to write the same memory -/
theorem wm_mem {M' : Mem} (h : M = M') (kk : WM Γ K M' L pc st) : WM Γ K M L pc st := h ▸ kk
/-- another way to write the same cells -/
theorem wm_cells {M' : Mem} (h : ∀ H, va_P Γ.2.1 vwCl (mem Γ M) H → va_P Γ.2.1 vwCl (mem Γ M') H) (kk : WM Γ K M' L pc st) : WM Γ K M L pc st := fun H locs ls hP hS hl => kk H locs ls (h H hP) hS hl
theorem wm_st {st' : List Value} (h : st = st') (kk : WM Γ K M L pc st') : WM Γ K M L pc st := h ▸ kk
/-- fewer locals, in any order -/
theorem wm_L {L' : List (Nat × Value)} (ks : List Nat) (h : lv_pick L ks = L') (kk : WM Γ K M L' pc st) : WM Γ K M L pc st := fun H locs ls hP hS hl => kk H locs ls hP hS (lv_sub hl ks h)
theorem wm_Leq {L' : List (Nat × Value)} (h : L = L') (kk : WM Γ K M L' pc st) : WM Γ K M L pc st := h ▸ kk
/-! ===== locals ===== -/
def ldL : List (Nat × Value) → Nat → Option Value
  | [], _ => none
  | (j, v) :: l, i => bif Nat.beq j i then some v else ldL l i
theorem ldL_has {i : Nat} {v : Value} : ∀ {L : List (Nat × Value)}, ldL L i = some v → (i, v) ∈ L
  | [], h => by cases h
  | (j, w) :: l, h => by
    unfold ldL at h
    cases hb : Nat.beq j i with
    | true =>
      rw [hb] at h
      have hj : j = i := Nat.eq_of_beq_eq_true hb
      cases h
      rw [hj]
      exact List.mem_cons_self
    | false =>
      rw [hb] at h
      exact List.mem_cons_of_mem _ (ldL_has h)
/-- a value of one slot put at its place, the list in the order of the places -/
def stL : List (Nat × Value) → Nat → Value → List (Nat × Value)
  | [], i, v => [(i, v)]
  | (j, w) :: l, i, v => bif Nat.blt i j then (i, v) :: (j, w) :: l else bif Nat.beq i j then (i, v) :: l else (j, w) :: stL l i v
def cat1 (L : List (Nat × Value)) : Bool := L.all fun q => Nat.beq q.2.category 1
theorem stL_in {i : Nat} {v : Value} : ∀ {L : List (Nat × Value)} (q : Nat × Value), (L.map (·.1)).Pairwise (· < ·) → q ∈ stL L i v → q = (i, v) ∨ (q ∈ L ∧ q.1 ≠ i)
  | [], q, _, h => by
    simp [stL] at h
    exact Or.inl h
  | (j, w) :: l, q, hp, h => by
    have hp1 := (List.pairwise_cons.mp hp)
    unfold stL at h
    cases hb : Nat.blt i j with
    | true =>
      rw [hb] at h
      have hij : i < j := Nat.blt_eq.mp hb
      rcases List.mem_cons.mp h with h | h
      · exact Or.inl h
      · refine Or.inr ⟨h, ?_⟩
        rcases List.mem_cons.mp h with h | h
        · rw [h]; exact Nat.ne_of_gt hij
        · have h9 : j < q.1 := hp1.1 q.1 (List.mem_map.mpr ⟨q, h, rfl⟩)
          omega
    | false =>
      rw [hb] at h
      cases he : Nat.beq i j with
      | true =>
        rw [he] at h
        have hij : i = j := Nat.eq_of_beq_eq_true he
        rcases List.mem_cons.mp h with h | h
        · exact Or.inl h
        · refine Or.inr ⟨List.mem_cons_of_mem _ h, ?_⟩
          have h9 : j < q.1 := hp1.1 q.1 (List.mem_map.mpr ⟨q, h, rfl⟩)
          omega
      | false =>
        rw [he] at h
        have hij : i ≠ j := fun z => by rw [z, Nat.beq_refl] at he; cases he
        rcases List.mem_cons.mp h with h | h
        · refine Or.inr ⟨by rw [h]; exact List.mem_cons_self, by rw [h]; exact Ne.symm hij⟩
        · rcases stL_in q hp1.2 h with h | ⟨h, h2⟩
          · exact Or.inl h
          · exact Or.inr ⟨List.mem_cons_of_mem _ h, h2⟩
/-- the places of a list of locals, in order: decided -/
def ordL : List (Nat × Value) → Bool
  | [] => true
  | (j, _) :: l => (l.all fun q => Nat.blt j q.1) && ordL l
theorem ordL_pw : ∀ {L : List (Nat × Value)}, ordL L = true → (L.map (·.1)).Pairwise (· < ·)
  | [], _ => List.Pairwise.nil
  | (j, w) :: l, h => by
    unfold ordL at h
    rw [Bool.and_eq_true] at h
    refine List.Pairwise.cons (fun a ha => ?_) (ordL_pw h.2)
    obtain ⟨q, hq, rfl⟩ := List.mem_map.mp ha
    exact Nat.blt_eq.mp (List.all_eq_true.mp h.1 q hq)
theorem wm_store {i : Nat} {v : Value} {L' : List (Nat × Value)} {len : Nat} (hg : Gd Γ K cc own nL d) (hL : stL L i v = L') (hc : (cat1 L && ordL L && Nat.blt i nL) = true)
    (hrow : ∀ (H : Heap) (locs : List Loc) (ls : Array Slot) (lv' : List (Nat × Value)), lv_has ls (kC K).maxLocals L → i < (kC K).maxLocals → (i, v) :: L.filter (fun q => !(q.1 == i) && !(q.1 + 1 == i && q.2.category == 2)) = lv' → (∀ ls' : Array Slot, lv_has ls' (kC K).maxLocals lv' → W (kP K) Γ.1 (kE K) (kR K) (kS K) (kM K) (kArgs K) (kB K) (kMeth K) (kC K) H locs 0 0 (kQ K) (F0 (kM K) (pc + len) ls' st)) → W (kP K) Γ.1 (kE K) (kR K) (kS K) (kM K) (kArgs K) (kB K) (kMeth K) (kC K) H locs 0 0 (kQ K) (F0 (kM K) pc ls (v :: st)))
    (kk : WM Γ K M L' (pc + len) st) : WM Γ K M L pc (v :: st) := by
  intro H locs ls hP hS hl
  simp only [Bool.and_eq_true] at hc
  obtain ⟨⟨hc, ho⟩, hn⟩ := hc
  have hn : i < (kC K).maxLocals := by rw [hg.2.2.1]; exact Nat.blt_eq.mp hn
  refine hrow H locs ls _ hl hn rfl (fun ls' hl' => kk H locs ls' hP hS ⟨hl'.1, hl'.2.1, fun q hq => ?_⟩)
  subst hL
  refine hl'.2.2 q ?_
  rcases stL_in q (ordL_pw ho) hq with rfl | ⟨h1, h2⟩
  · exact List.mem_cons_self
  · refine List.mem_cons_of_mem _ (List.mem_filter.mpr ⟨h1, ?_⟩)
    have h3 : q.2.category = 1 := Nat.eq_of_beq_eq_true (List.all_eq_true.mp hc q h1)
    simp [h2, h3]
end Rows
end
section
section Rows
variable {Γ : GT} {K : KT} {cc : ByteArray} {own : String} {nL d : Nat} {M : Mem} {L : List (Nat × Value)} {pc q : Nat} {st : List Value}
theorem wm_iconst {n : Int} (v : Int32) (hg : Gd Γ K cc own nL d) (hd : decode cc pc = .ok (.iconst n, 1)) (hp : pc + 1 = q) (hv : Int32.ofInt n = v) (kk : WM Γ K M L q (.int v :: st)) : WM Γ K M L pc (st) := by
  subst hp
  exact fun H locs ls hP hS hl => lv_iconst hg.1 hg.2.1 hd hv (kk H locs ls hP hS hl)
theorem wm_bipush {n : Int} (v : Int32) (hg : Gd Γ K cc own nL d) (hd : decode cc pc = .ok (.bipush n, 2)) (hp : pc + 2 = q) (hv : (Int8.ofInt n).toInt32 = v) (kk : WM Γ K M L q (.int v :: st)) : WM Γ K M L pc (st) := by
  subst hp
  exact fun H locs ls hP hS hl => lv_bipush hg.1 hg.2.1 hd hv (kk H locs ls hP hS hl)
theorem wm_sipush {n : Int} (v : Int32) (hg : Gd Γ K cc own nL d) (hd : decode cc pc = .ok (.sipush n, 3)) (hp : pc + 3 = q) (hv : (Int16.ofInt n).toInt32 = v) (kk : WM Γ K M L q (.int v :: st)) : WM Γ K M L pc (st) := by
  subst hp
  exact fun H locs ls hP hS hl => lv_sipush hg.1 hg.2.1 hd hv (kk H locs ls hP hS hl)
theorem wm_ldc {ix : Nat} (v : Int32) (hg : Gd Γ K cc own nL d) (hd : decode cc pc = .ok (.ldc ix, 2)) (hp : pc + 2 = q) (hw : Cond.constant own ix v ∈ wsL_law) (kk : WM Γ K M L q (.int v :: st)) : WM Γ K M L pc (st) := by
  subst hp
  exact fun H locs ls hP hS hl => lv_ldc hg.1 hg.2.1 hg.2.2.2.1 (hg.2.2.2.2.1 _ hw) hd (kk H locs ls hP hS hl)
theorem wm_iload_n {k : Fin 4} {i : Nat} {x : Int32} (hg : Gd Γ K cc own nL d) (hd : decode cc pc = .ok (.iload_n k, 1)) (hp : pc + 1 = q) (hi : (k : Nat) = i) (hv : ldL L i = some (.int x)) (kk : WM Γ K M L q (.int x :: st)) : WM Γ K M L pc (st) := by
  subst hp
  exact fun H locs ls hP hS hl => lv_iload_n hg.1 hg.2.1 hd hi (hl.2.2 _ (ldL_has hv)) (kk H locs ls hP hS hl)
theorem wm_iload {i : Nat} {x : Int32} (hg : Gd Γ K cc own nL d) (hd : decode cc pc = .ok (.iload i, 2)) (hp : pc + 2 = q) (hv : ldL L i = some (.int x)) (kk : WM Γ K M L q (.int x :: st)) : WM Γ K M L pc (st) := by
  subst hp
  exact fun H locs ls hP hS hl => lv_iload hg.1 hg.2.1 hd (hl.2.2 _ (ldL_has hv)) (kk H locs ls hP hS hl)
theorem wm_aload_n {k : Fin 4} {i : Nat} {x : Nat} (hg : Gd Γ K cc own nL d) (hd : decode cc pc = .ok (.aload_n k, 1)) (hp : pc + 1 = q) (hi : (k : Nat) = i) (hv : ldL L i = some (.ref x)) (kk : WM Γ K M L q (.ref x :: st)) : WM Γ K M L pc (st) := by
  subst hp
  exact fun H locs ls hP hS hl => lv_aload_n hg.1 hg.2.1 hd hi (hl.2.2 _ (ldL_has hv)) (kk H locs ls hP hS hl)
theorem wm_aload {i : Nat} {x : Nat} (hg : Gd Γ K cc own nL d) (hd : decode cc pc = .ok (.aload i, 2)) (hp : pc + 2 = q) (hv : ldL L i = some (.ref x)) (kk : WM Γ K M L q (.ref x :: st)) : WM Γ K M L pc (st) := by
  subst hp
  exact fun H locs ls hP hS hl => lv_aload hg.1 hg.2.1 hd (hl.2.2 _ (ldL_has hv)) (kk H locs ls hP hS hl)
theorem wm_aload_nN {k : Fin 4} {i : Nat} (hg : Gd Γ K cc own nL d) (hd : decode cc pc = .ok (.aload_n k, 1)) (hp : pc + 1 = q) (hi : (k : Nat) = i) (hv : ldL L i = some .null) (kk : WM Γ K M L q (.null :: st)) : WM Γ K M L pc (st) := by
  subst hp
  exact fun H locs ls hP hS hl => lv_aload_nN hg.1 hg.2.1 hd hi (hl.2.2 _ (ldL_has hv)) (kk H locs ls hP hS hl)
theorem wm_istore_n {k : Fin 4} {i : Nat} {x : Int32} {L' : List (Nat × Value)} (hg : Gd Γ K cc own nL d) (hd : decode cc pc = .ok (.istore_n k, 1)) (hp : pc + 1 = q) (hi : (k : Nat) = i) (hL : stL L i (.int x) = L') (hc : (cat1 L && ordL L && Nat.blt i nL) = true) (kk : WM Γ K M L' q st) : WM Γ K M L pc (.int x :: st) := by
  subst hp
  exact wm_store (len := 1) hg hL hc (fun H locs ls lv' h hn hl k => lv_istore_n hg.1 hg.2.1 hd hi h hn hl k) kk
theorem wm_istore {i : Nat} {x : Int32} {L' : List (Nat × Value)} (hg : Gd Γ K cc own nL d) (hd : decode cc pc = .ok (.istore i, 2)) (hp : pc + 2 = q) (hL : stL L i (.int x) = L') (hc : (cat1 L && ordL L && Nat.blt i nL) = true) (kk : WM Γ K M L' q st) : WM Γ K M L pc (.int x :: st) := by
  subst hp
  exact wm_store (len := 2) hg hL hc (fun H locs ls lv' h hn hl k => lv_istore hg.1 hg.2.1 hd h hn hl k) kk
theorem wm_astore_n {k : Fin 4} {i : Nat} {x : Nat} {L' : List (Nat × Value)} (hg : Gd Γ K cc own nL d) (hd : decode cc pc = .ok (.astore_n k, 1)) (hp : pc + 1 = q) (hi : (k : Nat) = i) (hL : stL L i (.ref x) = L') (hc : (cat1 L && ordL L && Nat.blt i nL) = true) (kk : WM Γ K M L' q st) : WM Γ K M L pc (.ref x :: st) := by
  subst hp
  exact wm_store (len := 1) hg hL hc (fun H locs ls lv' h hn hl k => lv_astore_n hg.1 hg.2.1 hd hi h hn hl k) kk
theorem wm_astore {i : Nat} {x : Nat} {L' : List (Nat × Value)} (hg : Gd Γ K cc own nL d) (hd : decode cc pc = .ok (.astore i, 2)) (hp : pc + 2 = q) (hL : stL L i (.ref x) = L') (hc : (cat1 L && ordL L && Nat.blt i nL) = true) (kk : WM Γ K M L' q st) : WM Γ K M L pc (.ref x :: st) := by
  subst hp
  exact wm_store (len := 2) hg hL hc (fun H locs ls lv' h hn hl k => lv_astore hg.1 hg.2.1 hd h hn hl k) kk
theorem lv_iinc0 {i : Nat} {L L' : List (Nat × Value)} {x v : Int32} {n : Int} (hg : Gd Γ K cc own nL d) (hd : decode cc pc = .ok (.iinc i n, 3)) (hp : pc + 3 = q) (hx : ldL L i = some (.int x)) (hv : x + Int32.ofInt n = v) (hL : stL L i (.int v) = L') (hc : (cat1 L && ordL L && Nat.blt i nL) = true) (kk : WM Γ K M L' q st) : WM Γ K M L pc st := by
  subst hp
  intro H locs ls hP hS hl
  simp only [Bool.and_eq_true] at hc
  obtain ⟨⟨hc, ho⟩, hn⟩ := hc
  have hn : i < (kC K).maxLocals := by rw [hg.2.2.1]; exact Nat.blt_eq.mp hn
  obtain ⟨k, hk⟩ := List.getElem?_of_mem (ldL_has hx)
  refine lv_iinc hg.1 hg.2.1 hd hl hk hv hn rfl (fun ls' hl' => kk H locs ls' hP hS ⟨hl'.1, hl'.2.1, fun q hq => ?_⟩)
  subst hL
  refine hl'.2.2 q ?_
  rcases stL_in q (ordL_pw ho) hq with rfl | ⟨h1, h2⟩
  · exact List.mem_cons_self
  · refine List.mem_cons_of_mem _ (List.mem_filter.mpr ⟨h1, ?_⟩)
    have h3 : q.2.category = 1 := Nat.eq_of_beq_eq_true (List.all_eq_true.mp hc q h1)
    simp [h2, h3]
theorem wm_iinc {i : Nat} {L' : List (Nat × Value)} {x : Int32} {n : Int} (v : Int32) (hg : Gd Γ K cc own nL d) (hd : decode cc pc = .ok (.iinc i n, 3)) (hp : pc + 3 = q) (hx : ldL L i = some (.int x)) (hv : x + Int32.ofInt n = v) (hL : stL L i (.int v) = L') (hc : (cat1 L && ordL L && Nat.blt i nL) = true) (kk : WM Γ K M L' q st) : WM Γ K M L pc st := lv_iinc0 hg hd hp hx hv hL hc kk
theorem wm_iadd {x y : Int32} (hg : Gd Γ K cc own nL d) (hd : decode cc pc = .ok (.iadd, 1)) (hp : pc + 1 = q)  (kk : WM Γ K M L q (.int (x + y) :: st)) : WM Γ K M L pc (.int y :: .int x :: st) := by
  subst hp
  exact fun H locs ls hP hS hl => lv_iadd hg.1 hg.2.1 hd (kk H locs ls hP hS hl)
theorem wm_isub {x y : Int32} (hg : Gd Γ K cc own nL d) (hd : decode cc pc = .ok (.isub, 1)) (hp : pc + 1 = q)  (kk : WM Γ K M L q (.int (x - y) :: st)) : WM Γ K M L pc (.int y :: .int x :: st) := by
  subst hp
  exact fun H locs ls hP hS hl => lv_isub hg.1 hg.2.1 hd (kk H locs ls hP hS hl)
theorem wm_imul {x y : Int32} (hg : Gd Γ K cc own nL d) (hd : decode cc pc = .ok (.imul, 1)) (hp : pc + 1 = q)  (kk : WM Γ K M L q (.int (x * y) :: st)) : WM Γ K M L pc (.int y :: .int x :: st) := by
  subst hp
  exact fun H locs ls hP hS hl => lv_imul hg.1 hg.2.1 hd (kk H locs ls hP hS hl)
theorem wm_iand {x y : Int32} (hg : Gd Γ K cc own nL d) (hd : decode cc pc = .ok (.iand, 1)) (hp : pc + 1 = q)  (kk : WM Γ K M L q (.int (x &&& y) :: st)) : WM Γ K M L pc (.int y :: .int x :: st) := by
  subst hp
  exact fun H locs ls hP hS hl => lv_iand hg.1 hg.2.1 hd (kk H locs ls hP hS hl)
theorem wm_ior {x y : Int32} (hg : Gd Γ K cc own nL d) (hd : decode cc pc = .ok (.ior, 1)) (hp : pc + 1 = q)  (kk : WM Γ K M L q (.int (x ||| y) :: st)) : WM Γ K M L pc (.int y :: .int x :: st) := by
  subst hp
  exact fun H locs ls hP hS hl => lv_ior hg.1 hg.2.1 hd (kk H locs ls hP hS hl)
theorem wm_ishl {x y : Int32} (hg : Gd Γ K cc own nL d) (hd : decode cc pc = .ok (.ishl, 1)) (hp : pc + 1 = q)  (kk : WM Γ K M L q (.int (x <<< (y &&& 31)) :: st)) : WM Γ K M L pc (.int y :: .int x :: st) := by
  subst hp
  exact fun H locs ls hP hS hl => lv_ishl hg.1 hg.2.1 hd (kk H locs ls hP hS hl)
theorem wm_ishr {x y : Int32} (hg : Gd Γ K cc own nL d) (hd : decode cc pc = .ok (.ishr, 1)) (hp : pc + 1 = q)  (kk : WM Γ K M L q (.int (x >>> (y &&& 31)) :: st)) : WM Γ K M L pc (.int y :: .int x :: st) := by
  subst hp
  exact fun H locs ls hP hS hl => lv_ishr hg.1 hg.2.1 hd (kk H locs ls hP hS hl)
theorem wm_idiv {x y : Int32} (hg : Gd Γ K cc own nL d) (hd : decode cc pc = .ok (.idiv, 1)) (hp : pc + 1 = q) (hne : ¬ y = 0) (kk : WM Γ K M L q (.int (x / y) :: st)) : WM Γ K M L pc (.int y :: .int x :: st) := by
  subst hp
  exact fun H locs ls hP hS hl => lv_idiv hg.1 hg.2.1 hd hne (kk H locs ls hP hS hl)
theorem wm_irem {x y : Int32} (hg : Gd Γ K cc own nL d) (hd : decode cc pc = .ok (.irem, 1)) (hp : pc + 1 = q) (hne : ¬ y = 0) (kk : WM Γ K M L q (.int (x - x / y * y) :: st)) : WM Γ K M L pc (.int y :: .int x :: st) := by
  subst hp
  exact fun H locs ls hP hS hl => lv_irem hg.1 hg.2.1 hd hne (kk H locs ls hP hS hl)
theorem wm_ineg {x : Int32} (hg : Gd Γ K cc own nL d) (hd : decode cc pc = .ok (.ineg, 1)) (hp : pc + 1 = q)  (kk : WM Γ K M L q (.int (-x) :: st)) : WM Γ K M L pc (.int x :: st) := by
  subst hp
  exact fun H locs ls hP hS hl => lv_ineg hg.1 hg.2.1 hd (kk H locs ls hP hS hl)
theorem wm_i2f {x : Int32} (hg : Gd Γ K cc own nL d) (hd : decode cc pc = .ok (.i2f, 1)) (hp : pc + 1 = q)  (kk : WM Γ K M L q (.float (FP.i2f x) :: st)) : WM Γ K M L pc (.int x :: st) := by
  subst hp
  exact fun H locs ls hP hS hl => lv_i2f hg.1 hg.2.1 hd (kk H locs ls hP hS hl)
theorem wm_fdiv {x y : UInt32} (hg : Gd Γ K cc own nL d) (hd : decode cc pc = .ok (.fdiv, 1)) (hp : pc + 1 = q) (hn : vf_n32 (FP.fdiv x y)) (kk : WM Γ K M L q (.float (FP.fdiv x y) :: st)) : WM Γ K M L pc (.float y :: .float x :: st) := by
  subst hp
  exact fun H locs ls hP hS hl => lv_fdiv hg.1 hg.2.1 hd hn (kk H locs ls hP hS hl)
theorem wm_dup {va : Value} (hg : Gd Γ K cc own nL d) (hd : decode cc pc = .ok (.dup, 1)) (hp : pc + 1 = q) (hva : va.category = 1) (kk : WM Γ K M L q (va :: va :: st)) : WM Γ K M L pc (va :: st) := by
  subst hp
  exact fun H locs ls hP hS hl => lv_dup hg.1 hg.2.1 hd hva (kk H locs ls hP hS hl)
theorem wm_dup2 {va vb : Value} (hg : Gd Γ K cc own nL d) (hd : decode cc pc = .ok (.dup2, 1)) (hp : pc + 1 = q) (hva : va.category = 1) (hvb : vb.category = 1) (kk : WM Γ K M L q (va :: vb :: va :: vb :: st)) : WM Γ K M L pc (va :: vb :: st) := by
  subst hp
  exact fun H locs ls hP hS hl => lv_dup2_11 hg.1 hg.2.1 hd hva hvb (kk H locs ls hP hS hl)
theorem wm_pop {va : Value} (hg : Gd Γ K cc own nL d) (hd : decode cc pc = .ok (.pop, 1)) (hp : pc + 1 = q) (hva : va.category = 1) (kk : WM Γ K M L q (st)) : WM Γ K M L pc (va :: st) := by
  subst hp
  exact fun H locs ls hP hS hl => lv_pop hg.1 hg.2.1 hd hva (kk H locs ls hP hS hl)
theorem wm_null  (hg : Gd Γ K cc own nL d) (hd : decode cc pc = .ok (.aconst_null, 1)) (hp : pc + 1 = q)  (kk : WM Γ K M L q (.null :: st)) : WM Γ K M L pc (st) := by
  subst hp
  exact fun H locs ls hP hS hl => lv_null hg.1 hg.2.1 hd (kk H locs ls hP hS hl)
theorem wm_goto {off : Int} (hg : Gd Γ K cc own nL d) (hd : decode cc pc = .ok (.goto off, 3)) (hp : (pc : Int) + off = (q : Int)) (kk : WM Γ K M L q st) : WM Γ K M L pc st := fun H locs ls hP hS hl => lv_goto hg.1 hg.2.1 hd hp (kk H locs ls hP hS hl)
theorem wm_if_eq {x : Int32} {off : Int} {q2 : Nat} (hg : Gd Γ K cc own nL d) (hd : decode cc pc = .ok (.ifCond .eq off, 3)) (hp : (pc : Int) + off = (q : Int)) (hp2 : pc + 3 = q2) (kt : x = 0 → WM Γ K M L q st) (kf : ¬ (x = 0) → WM Γ K M L q2 st) : WM Γ K M L pc (.int x :: st) := by
  subst hp2
  exact fun H locs ls hP hS hl => lv_if_eq hg.1 hg.2.1 hd hp (fun h => kt h H locs ls hP hS hl) (fun h => kf h H locs ls hP hS hl)
theorem wm_if_ne {x : Int32} {off : Int} {q2 : Nat} (hg : Gd Γ K cc own nL d) (hd : decode cc pc = .ok (.ifCond .ne off, 3)) (hp : (pc : Int) + off = (q : Int)) (hp2 : pc + 3 = q2) (kt : ¬ x = 0 → WM Γ K M L q st) (kf : x = 0 → WM Γ K M L q2 st) : WM Γ K M L pc (.int x :: st) := by
  subst hp2
  exact fun H locs ls hP hS hl => lv_if_ne hg.1 hg.2.1 hd hp (fun h => kt h H locs ls hP hS hl) (fun h => kf h H locs ls hP hS hl)
theorem wm_if_lt {x : Int32} {off : Int} {q2 : Nat} (hg : Gd Γ K cc own nL d) (hd : decode cc pc = .ok (.ifCond .lt off, 3)) (hp : (pc : Int) + off = (q : Int)) (hp2 : pc + 3 = q2) (kt : x < 0 → WM Γ K M L q st) (kf : ¬ (x < 0) → WM Γ K M L q2 st) : WM Γ K M L pc (.int x :: st) := by
  subst hp2
  exact fun H locs ls hP hS hl => lv_if_lt hg.1 hg.2.1 hd hp (fun h => kt h H locs ls hP hS hl) (fun h => kf h H locs ls hP hS hl)
theorem wm_if_ge {x : Int32} {off : Int} {q2 : Nat} (hg : Gd Γ K cc own nL d) (hd : decode cc pc = .ok (.ifCond .ge off, 3)) (hp : (pc : Int) + off = (q : Int)) (hp2 : pc + 3 = q2) (kt : 0 ≤ x → WM Γ K M L q st) (kf : ¬ (0 ≤ x) → WM Γ K M L q2 st) : WM Γ K M L pc (.int x :: st) := by
  subst hp2
  exact fun H locs ls hP hS hl => lv_if_ge hg.1 hg.2.1 hd hp (fun h => kt h H locs ls hP hS hl) (fun h => kf h H locs ls hP hS hl)
theorem wm_if_gt {x : Int32} {off : Int} {q2 : Nat} (hg : Gd Γ K cc own nL d) (hd : decode cc pc = .ok (.ifCond .gt off, 3)) (hp : (pc : Int) + off = (q : Int)) (hp2 : pc + 3 = q2) (kt : 0 < x → WM Γ K M L q st) (kf : ¬ (0 < x) → WM Γ K M L q2 st) : WM Γ K M L pc (.int x :: st) := by
  subst hp2
  exact fun H locs ls hP hS hl => lv_if_gt hg.1 hg.2.1 hd hp (fun h => kt h H locs ls hP hS hl) (fun h => kf h H locs ls hP hS hl)
theorem wm_if_le {x : Int32} {off : Int} {q2 : Nat} (hg : Gd Γ K cc own nL d) (hd : decode cc pc = .ok (.ifCond .le off, 3)) (hp : (pc : Int) + off = (q : Int)) (hp2 : pc + 3 = q2) (kt : x ≤ 0 → WM Γ K M L q st) (kf : ¬ (x ≤ 0) → WM Γ K M L q2 st) : WM Γ K M L pc (.int x :: st) := by
  subst hp2
  exact fun H locs ls hP hS hl => lv_if_le hg.1 hg.2.1 hd hp (fun h => kt h H locs ls hP hS hl) (fun h => kf h H locs ls hP hS hl)
theorem wm_icmp_eq {x y : Int32} {off : Int} {q2 : Nat} (hg : Gd Γ K cc own nL d) (hd : decode cc pc = .ok (.if_icmp .eq off, 3)) (hp : (pc : Int) + off = (q : Int)) (hp2 : pc + 3 = q2) (kt : x = y → WM Γ K M L q st) (kf : ¬ (x = y) → WM Γ K M L q2 st) : WM Γ K M L pc (.int y :: .int x :: st) := by
  subst hp2
  exact fun H locs ls hP hS hl => lv_icmp_eq hg.1 hg.2.1 hd hp (fun h => kt h H locs ls hP hS hl) (fun h => kf h H locs ls hP hS hl)
theorem wm_icmp_ne {x y : Int32} {off : Int} {q2 : Nat} (hg : Gd Γ K cc own nL d) (hd : decode cc pc = .ok (.if_icmp .ne off, 3)) (hp : (pc : Int) + off = (q : Int)) (hp2 : pc + 3 = q2) (kt : ¬ x = y → WM Γ K M L q st) (kf : x = y → WM Γ K M L q2 st) : WM Γ K M L pc (.int y :: .int x :: st) := by
  subst hp2
  exact fun H locs ls hP hS hl => lv_icmp_ne hg.1 hg.2.1 hd hp (fun h => kt h H locs ls hP hS hl) (fun h => kf h H locs ls hP hS hl)
theorem wm_icmp_lt {x y : Int32} {off : Int} {q2 : Nat} (hg : Gd Γ K cc own nL d) (hd : decode cc pc = .ok (.if_icmp .lt off, 3)) (hp : (pc : Int) + off = (q : Int)) (hp2 : pc + 3 = q2) (kt : x < y → WM Γ K M L q st) (kf : ¬ (x < y) → WM Γ K M L q2 st) : WM Γ K M L pc (.int y :: .int x :: st) := by
  subst hp2
  exact fun H locs ls hP hS hl => lv_icmp_lt hg.1 hg.2.1 hd hp (fun h => kt h H locs ls hP hS hl) (fun h => kf h H locs ls hP hS hl)
theorem wm_icmp_ge {x y : Int32} {off : Int} {q2 : Nat} (hg : Gd Γ K cc own nL d) (hd : decode cc pc = .ok (.if_icmp .ge off, 3)) (hp : (pc : Int) + off = (q : Int)) (hp2 : pc + 3 = q2) (kt : y ≤ x → WM Γ K M L q st) (kf : ¬ (y ≤ x) → WM Γ K M L q2 st) : WM Γ K M L pc (.int y :: .int x :: st) := by
  subst hp2
  exact fun H locs ls hP hS hl => lv_icmp_ge hg.1 hg.2.1 hd hp (fun h => kt h H locs ls hP hS hl) (fun h => kf h H locs ls hP hS hl)
theorem wm_icmp_gt {x y : Int32} {off : Int} {q2 : Nat} (hg : Gd Γ K cc own nL d) (hd : decode cc pc = .ok (.if_icmp .gt off, 3)) (hp : (pc : Int) + off = (q : Int)) (hp2 : pc + 3 = q2) (kt : y < x → WM Γ K M L q st) (kf : ¬ (y < x) → WM Γ K M L q2 st) : WM Γ K M L pc (.int y :: .int x :: st) := by
  subst hp2
  exact fun H locs ls hP hS hl => lv_icmp_gt hg.1 hg.2.1 hd hp (fun h => kt h H locs ls hP hS hl) (fun h => kf h H locs ls hP hS hl)
theorem wm_icmp_le {x y : Int32} {off : Int} {q2 : Nat} (hg : Gd Γ K cc own nL d) (hd : decode cc pc = .ok (.if_icmp .le off, 3)) (hp : (pc : Int) + off = (q : Int)) (hp2 : pc + 3 = q2) (kt : x ≤ y → WM Γ K M L q st) (kf : ¬ (x ≤ y) → WM Γ K M L q2 st) : WM Γ K M L pc (.int y :: .int x :: st) := by
  subst hp2
  exact fun H locs ls hP hS hl => lv_icmp_le hg.1 hg.2.1 hd hp (fun h => kt h H locs ls hP hS hl) (fun h => kf h H locs ls hP hS hl)
theorem wm_ifnull {x : Nat} {off : Int} (hg : Gd Γ K cc own nL d) (hd : decode cc pc = .ok (.ifnull off, 3)) (hp : pc + 3 = q) (kk : WM Γ K M L q st) : WM Γ K M L pc (.ref x :: st) := by
  subst hp
  exact fun H locs ls hP hS hl => lv_ifnull hg.1 hg.2.1 hd (kk H locs ls hP hS hl)
theorem wm_ifnullN {off : Int} (hg : Gd Γ K cc own nL d) (hd : decode cc pc = .ok (.ifnull off, 3)) (hp : (pc : Int) + off = (q : Int)) (kk : WM Γ K M L q st) : WM Γ K M L pc (.null :: st) := fun H locs ls hP hS hl => lv_ifnullN hg.1 hg.2.1 hd hp (kk H locs ls hP hS hl)
theorem wm_tableOut {dflt lo hi : Int} {offs : Array Int} {len : Nat} {x : Int32} (hg : Gd Γ K cc own nL d) (hd : decode cc pc = .ok (.tableswitch dflt lo hi offs, len)) (h : x.toInt < lo ∨ hi < x.toInt) (hp : (pc : Int) + dflt = (q : Int)) (kk : WM Γ K M L q st) : WM Γ K M L pc (.int x :: st) := fun H locs ls hP hS hl => lv_tableOut hg.1 hg.2.1 hd h hp (kk H locs ls hP hS hl)
theorem wm_tableIn {dflt lo hi : Int} {offs : Array Int} {len : Nat} {x : Int32} {off : Int} (hg : Gd Γ K cc own nL d) (hd : decode cc pc = .ok (.tableswitch dflt lo hi offs, len)) (h1 : ¬ x.toInt < lo) (h2 : ¬ hi < x.toInt) (ho : offs[(x.toInt - lo).toNat]? = some off) (hp : (pc : Int) + off = (q : Int)) (kk : WM Γ K M L q st) : WM Γ K M L pc (.int x :: st) := fun H locs ls hP hS hl => lv_tableIn hg.1 hg.2.1 hd h1 h2 ho hp (kk H locs ls hP hS hl)
theorem wm_lookup {dflt : Int} {ps : Array (Int × Int)} {len : Nat} {x : Int32} {off : Int} (hg : Gd Γ K cc own nL d) (hd : decode cc pc = .ok (.lookupswitch dflt ps, len)) (ha : (ps.toList.zip (ps.toList.drop 1)).all (fun (a, next) => a.1 < next.1) = true) (ho : Op.lookupswitch.offset ps.toList dflt x.toInt = off) (hp : (pc : Int) + off = (q : Int)) (kk : WM Γ K M L q st) : WM Γ K M L pc (.int x :: st) := fun H locs ls hP hS hl => lv_lookup hg.1 hg.2.1 hd ha ho hp (kk H locs ls hP hS hl)
/-! ===== fields ===== -/
abbrev TT (ci : Nat) : u_T := match ci with
  | 0 => TX0
  | 1 => TX1
  | 2 => TX2
  | 3 => TX3
  | 4 => TX4
  | _ => TX5
abbrev NN (ci : Nat) : Nat := match ci with
  | 0 => 8
  | 1 => 8
  | 2 => 2
  | 3 => 4
  | 4 => 7
  | _ => 21
abbrev RR (ci : Nat) : String := match ci with
  | 0 => RX0
  | 1 => RX1
  | 2 => RX2
  | 3 => RX3
  | 4 => RX4
  | _ => RX5
theorem inW {ci : Nat} (h : ci < 6) : ∀ w ∈ u_ws (RR ci) (TT ci) (NN ci), w ∈ wsL_law := by
  rcases (show ci = 0 ∨ ci = 1 ∨ ci = 2 ∨ ci = 3 ∨ ci = 4 ∨ ci = 5 by omega) with rfl | rfl | rfl | rfl | rfl | rfl
  · exact inlX0
  · exact inlX1
  · exact inlX2
  · exact inlX3
  · exact inlX4
  · exact inlX5
theorem clW {ci : Nat} (h : ci < 6) : vwCl[ci]? = some (RR ci, TT ci, NN ci) := by
  rcases (show ci = 0 ∨ ci = 1 ∨ ci = 2 ∨ ci = 3 ∨ ci = 4 ∨ ci = 5 by omega) with rfl | rfl | rfl | rfl | rfl | rfl <;> rfl
theorem nmW {ci : Nat} (h : ci < 6) : ∀ a, a < NN ci → ∀ b, b < NN ci → a ≠ b → (TT ci a).2.1 ≠ (TT ci b).2.1 := by
  rcases (show ci = 0 ∨ ci = 1 ∨ ci = 2 ∨ ci = 3 ∨ ci = 4 ∨ ci = 5 by omega) with rfl | rfl | rfl | rfl | rfl | rfl
  · exact nmX0
  · exact nmX1
  · exact nmX2
  · exact nmX3
  · exact nmX4
  · exact nmX5
abbrev tyW (ci : Nat) : Nat → FieldType := match ci with
  | 0 => tyX0
  | 1 => tyX1
  | 2 => tyX2
  | 3 => tyX3
  | 4 => tyX4
  | _ => tyX5
theorem tyW_ok {ci : Nat} (h : ci < 6) : ∀ k, k < NN ci → parseFieldDescriptor (TT ci k).2.2.1 = some (tyW ci k) := by
  rcases (show ci = 0 ∨ ci = 1 ∨ ci = 2 ∨ ci = 3 ∨ ci = 4 ∨ ci = 5 by omega) with rfl | rfl | rfl | rfl | rfl | rfl
  · exact tyX0_ok
  · exact tyX1_ok
  · exact tyX2_ok
  · exact tyX3_ok
  · exact tyX4_ok
  · exact tyX5_ok
/-- the pool's row ix of a class names the field j of the class ci -/
def FL (own : String) (ix ci j : Nat) : Prop := (Cond.fieldLink own ix (TT ci j).1 (TT ci j).2.1 (TT ci j).2.2.1 ∈ wsL_law ∧ ci < 6 ∧ j < NN ci)
theorem wm_get {ci i j ix : Nat} {v : Value} (hg : Gd Γ K cc own nL d) (hd : decode cc pc = .ok (.getfield ix, 3)) (hp : pc + 3 = q) (hf : FL own ix ci j) (hi : i < nO ci) (hv : (flds Γ M ci i)[j]? = some v) (kk : WM Γ K M L q (v :: st)) : WM Γ K M L pc (.ref (ad Γ ci i 0) :: st) := by
  subst hp
  intro H locs ls hP hS hl
  obtain ⟨hw, hc, hj⟩ := hf
  obtain ⟨q0, hq0⟩ := mem_at Γ M (mem_keys (j := 0) hc hi (by decide) rfl)
  exact va_get (D := Γ.2.1) (ci := ci) (v := v) (C := RR ci) (T := TT ci) (N := NN ci) hg.1 hg.2.1 hg.2.2.2.2.1 (inW hc) hg.2.2.2.1 hg.2.2.2.2.2.1 hP q0 hq0 (clW hc) j hj (hg.2.2.2.2.1 _ hw) (fun _ h9 => h9) hv hd (kk H locs ls hP hS hl)
theorem isI_lt {ci j : Nat} (hc : ci < 6) (h : isI ci j = true) : j < NN ci ∧ j < (flds Γ M ci 0).length := by
  unfold isI at h
  split at h
  · have := Nat.blt_eq.mp h
    refine ⟨by show j < 8; omega, by show j < 8; omega⟩
  · simp only [Bool.or_eq_true, Nat.beq_eq] at h
    refine ⟨by show j < 8; omega, by show j < 8; omega⟩
  · simp only [Bool.or_eq_true, Nat.beq_eq] at h
    refine ⟨by show j < 4; omega, by show j < 4; omega⟩
  · simp only [Nat.beq_eq] at h
    refine ⟨by show j < 7; omega, by show j < 7; omega⟩
  · simp only [Bool.or_eq_true, Nat.beq_eq] at h
    refine ⟨by show j < 21; omega, by show j < 21; omega⟩
  · cases h
theorem flds_len (Γ : GT) (M : Mem) (ci i : Nat) : (flds Γ M ci i).length = (flds Γ M ci 0).length := by
  unfold flds
  split <;> rfl
theorem tyW_int {ci j : Nat} (h : isI ci j = true) : tyW ci j = .int ∧ (TT ci j).2.2.2 = false := by
  unfold isI at h
  split at h
  · have hj : j = 0 ∨ j = 1 ∨ j = 2 ∨ j = 3 ∨ j = 4 := by
      have := Nat.blt_eq.mp h
      omega
    rcases hj with rfl | rfl | rfl | rfl | rfl <;> exact ⟨rfl, rfl⟩
  · simp only [Bool.or_eq_true, Nat.beq_eq] at h
    rcases h with (((rfl | rfl) | rfl) | rfl) | rfl <;> exact ⟨rfl, rfl⟩
  · simp only [Bool.or_eq_true, Nat.beq_eq] at h
    rcases h with (rfl | rfl) | rfl <;> exact ⟨rfl, rfl⟩
  · simp only [Nat.beq_eq] at h
    subst h
    exact ⟨rfl, rfl⟩
  · simp only [Bool.or_eq_true, Nat.beq_eq] at h
    rcases h with (((((((((rfl | rfl) | rfl) | rfl) | rfl) | rfl) | rfl) | rfl) | rfl) | rfl) | rfl <;> exact ⟨rfl, rfl⟩
  · cases h
theorem wm_put {ci i j ix : Nat} {v : Int32} (hg : Gd Γ K cc own nL d) (hd : decode cc pc = .ok (.putfield ix, 3)) (hp : pc + 3 = q) (hf : FL own ix ci j) (hi : i < nO ci) (hj : isI ci j = true) (kk : WM Γ K (sI M ci i j v) L q st) : WM Γ K M L pc (.int v :: .ref (ad Γ ci i 0) :: st) := by
  subst hp
  intro H locs ls hP hS hl
  obtain ⟨hw, hc, hjn⟩ := hf
  obtain ⟨q0, hq0⟩ := mem_at Γ M (mem_keys (j := 0) hc hi (by decide) rfl)
  obtain ⟨hty, hfin⟩ := tyW_int hj
  refine va_put (D := Γ.2.1) (ci := ci) (v := .int v) (ty := .int) (C := RR ci) (T := TT ci) (N := NN ci) hg.1 hg.2.1 hg.2.2.2.2.1 (inW hc) (tyW ci) (tyW_ok hc) (nmW hc) hg.2.2.2.1 hg.2.2.2.2.2.1 hP (memD hg.2.2.2.2.2.2.1 M) hS q0 hq0 (clW hc) j hjn (hg.2.2.2.2.1 _ hw) (fun _ h9 => h9) hfin (by rw [tyW_ok hc j hjn, hty]) rfl rfl (by rw [flds_len]; exact (isI_lt hc hj).2) hd (fun H1 locs1 hP1 hD1 hS1 => ?_)
  rw [mem_put hg.2.2.2.2.2.2.1 v hc hi hj hq0] at hP1
  exact kk H1 locs1 ls hP1 hS1 hl
/-! ===== arrays ===== -/
theorem aOk {ci i s : Nat} (hc : ci < 6) (hi : i < nO ci) (hs : s < 18) (h : isA ci s = true) : (ci, i, s + 1) ∈ keys := mem_keys hc hi (by omega) (by show (isA ci s || isR ci s) = true; rw [h]; rfl)
theorem isA_lt {ci s : Nat} (h : isA ci s = true) : ci < 6 ∧ s < 18 := by
  unfold isA at h
  split at h
  · simp only [Bool.or_eq_true, Nat.beq_eq] at h
    omega
  · simp only [Bool.or_eq_true, Nat.beq_eq] at h
    omega
  · simp only [Nat.beq_eq] at h
    omega
  · simp only [Bool.or_eq_true, Nat.beq_eq] at h
    omega
  · cases h
theorem mem_arr (Γ : GT) (M : Mem) {ci i s : Nat} (hi : i < nO ci) (h : isA ci s = true) : ∃ q0 : Nat, (mem Γ M)[q0]? = some (ad Γ ci i (s + 1), .inl (Γ.2.2.1.1, alen ci s, .inl ((M.1 ci i).2 s))) := by
  obtain ⟨q0, hq0⟩ := mem_at Γ M (aOk (isA_lt h).1 hi (isA_lt h).2 h)
  exact ⟨q0, by rw [hq0]; show some (_, acell Γ M ci i s) = _; rw [acell_isA Γ M h]⟩
theorem wm_alen {ci i s : Nat} {v : Int32} (hg : Gd Γ K cc own nL d) (hd : decode cc pc = .ok (.arraylength, 1)) (hp : pc + 1 = q) (hi : i < nO ci) (h : isA ci s = true) (hv : Int32.ofNat (alen ci s) = v) (kk : WM Γ K M L q (.int v :: st)) : WM Γ K M L pc (.ref (ad Γ ci i (s + 1)) :: st) := by
  subst hp
  intro H locs ls hP hS hl
  obtain ⟨q0, hq0⟩ := mem_arr Γ M hi h
  exact va_alen hg.1 hg.2.1 hg.2.2.2.2.2.1 hP q0 0 hq0 (rfl : (tys Γ)[0]? = some (Γ.2.2.1.1, .int)) hv hd (kk H locs ls hP hS hl)
theorem wm_alenR {s : Nat} {v : Int32} (hg : Gd Γ K cc own nL d) (hd : decode cc pc = .ok (.arraylength, 1)) (hp : pc + 1 = q) (h : (s = 1 ∧ v = 8) ∨ (s = 3 ∧ v = 2) ∨ (s = 6 ∧ v = 4)) (kk : WM Γ K M L q (.int v :: st)) : WM Γ K M L pc (.ref (ad Γ 4 0 (s + 1)) :: st) := by
  subst hp
  intro H locs ls hP hS hl
  rcases h with ⟨rfl, rfl⟩ | ⟨rfl, rfl⟩ | ⟨rfl, rfl⟩
  · obtain ⟨q0, hq0⟩ := mem_at Γ M (k := (4, 0, 2)) (mem_keys (by decide) (by decide) (by decide) (by decide))
    exact va_alen hg.1 hg.2.1 hg.2.2.2.2.2.1 hP q0 2 hq0 (rfl : (tys Γ)[2]? = some (Γ.2.2.1.2.2.1, .object RX2)) rfl hd (kk H locs ls hP hS hl)
  · obtain ⟨q0, hq0⟩ := mem_at Γ M (k := (4, 0, 4)) (mem_keys (by decide) (by decide) (by decide) (by decide))
    exact va_alen hg.1 hg.2.1 hg.2.2.2.2.2.1 hP q0 2 hq0 (rfl : (tys Γ)[2]? = some (Γ.2.2.1.2.2.1, .object RX2)) rfl hd (kk H locs ls hP hS hl)
  · obtain ⟨q0, hq0⟩ := mem_at Γ M (k := (4, 0, 7)) (mem_keys (by decide) (by decide) (by decide) (by decide))
    exact va_alen hg.1 hg.2.1 hg.2.2.2.2.2.1 hP q0 3 hq0 (rfl : (tys Γ)[3]? = some (Γ.2.2.1.2.2.2, .object RX1)) rfl hd (kk H locs ls hP hS hl)
theorem wm_iaload {ci i s : Nat} {x : Int32} (t : Nat) (hg : Gd Γ K cc own nL d) (hd : decode cc pc = .ok (.iaload, 1)) (hp : pc + 1 = q) (hi : i < nO ci) (h : isA ci s = true) (hx : x = nI t) (ht : t < alen ci s) (kk : WM Γ K M L q (.int ((M.1 ci i).2 s t) :: st)) : WM Γ K M L pc (.int x :: .ref (ad Γ ci i (s + 1)) :: st) := by
  subst hp
  subst hx
  intro H locs ls hP hS hl
  obtain ⟨q0, hq0⟩ := mem_arr Γ M hi h
  have hb : alen ci s < 2 ^ 31 := by unfold alen; (repeat' split) <;> decide
  refine va_iald hg.1 hg.2.1 hg.2.2.2.2.2.1 hP q0 0 hq0 (rfl : (tys Γ)[0]? = some (Γ.2.2.1.1, .int)) (vp_in_nI ht hb) hd ?_
  rw [nI_clamp (by omega)]
  exact kk H locs ls hP hS hl
theorem wm_iastore {ci i s : Nat} {x v : Int32} (t : Nat) (hg : Gd Γ K cc own nL d) (hd : decode cc pc = .ok (.iastore, 1)) (hp : pc + 1 = q) (hi : i < nO ci) (h : isA ci s = true) (hx : x = nI t) (ht : t < alen ci s) (kk : WM Γ K (sA M ci i s (upd ((M.1 ci i).2 s) t v)) L q st) : WM Γ K M L pc (.int v :: .int x :: .ref (ad Γ ci i (s + 1)) :: st) := by
  subst hp
  subst hx
  intro H locs ls hP hS hl
  obtain ⟨q0, hq0⟩ := mem_arr Γ M hi h
  have hb : alen ci s < 2 ^ 31 := by unfold alen; (repeat' split) <;> decide
  refine va_iast hg.1 hg.2.1 hg.2.2.2.2.2.1 hP (memD hg.2.2.2.2.2.2.1 M) hS q0 0 hq0 (rfl : (tys Γ)[0]? = some (Γ.2.2.1.1, .int)) (vp_in_nI ht hb) hd (fun H1 locs1 hP1 hD1 hS1 => ?_)
  rw [nI_clamp (by omega)] at hP1
  rw [mem_aput hg.2.2.2.2.2.2.1 _ (isA_lt h).1 hi (isA_lt h).2 h hq0] at hP1
  exact kk H1 locs1 ls hP1 hS1 hl
theorem wsNat : Cond.native arraycopyName ∈ wsL_law := by decide +kernel
theorem wsStat : Cond.static arraycopyName ∈ wsL_law := by decide +kernel
theorem wsIni : Cond.initialized "java/lang/System" ∈ wsL_law := by decide +kernel
theorem wm_arraycopy {ci i s ci' i' s' ix : Nat} {xs xd xn : Int32} (sp dp n : Nat) (hg : Gd Γ K cc own nL d) (hd : decode cc pc = .ok (.invokestatic ix, 3)) (hp : pc + 3 = q) (hw : Cond.methodLink own ix arraycopyName ∈ wsL_law) (hdd : 1 ≤ d) (hi : i < nO ci) (h : isA ci s = true) (hi' : i' < nO ci') (h' : isA ci' s' = true) (hs : xs = nI sp) (hdp : xd = nI dp) (hn : xn = nI n) (h4 : sp + n ≤ alen ci s) (h5 : dp + n ≤ alen ci' s') (hst : (st.map fun v => v.category).sum ≤ 8)
    (kk : WM Γ K (sA M ci' i' s' (va_cpy ((M.1 ci i).2 s) ((M.1 ci' i').2 s') sp dp n)) L q st) : WM Γ K M L pc (.int xn :: .int xd :: .ref (ad Γ ci' i' (s' + 1)) :: .int xs :: .ref (ad Γ ci i (s + 1)) :: st) := by
  subst hp
  subst hs
  subst hdp
  subst hn
  intro H locs ls hP hS hl
  obtain ⟨q0, hq0⟩ := mem_arr Γ M hi h
  obtain ⟨q1, hq1⟩ := mem_arr Γ M hi' h'
  have hb : alen ci s < 2 ^ 31 := by unfold alen; (repeat' split) <;> decide
  have hb' : alen ci' s' < 2 ^ 31 := by unfold alen; (repeat' split) <;> decide
  have hfr := hg.2.2.2.2.2.2.2.2.2
  have nn : (nativeFrameWords "java/lang/System" "arraycopy" 5 + 11) ≤ 40 := by decide +kernel
  refine va_copyi hg.1 hg.2.1 (by rw [hl.1]) hg.2.2.2.1 (hg.2.2.2.2.1 _ hw) (hg.2.2.2.2.1 _ wsNat) (hg.2.2.2.2.1 _ wsStat) (hg.2.2.2.2.1 _ wsIni) hg.2.2.2.2.2.1 hP (memD hg.2.2.2.2.2.2.1 M) hS q0 q1 0 0 hq0 hq1 (rfl : (tys Γ)[0]? = some (Γ.2.2.1.1, .int)) (rfl : (tys Γ)[0]? = some (Γ.2.2.1.1, .int)) rfl (nI_pos (by omega)) (nI_pos (by omega)) (nI_pos (by omega)) (by rw [nI_clamp (by omega), nI_clamp (by omega)]; exact h4) (by rw [nI_clamp (by omega), nI_clamp (by omega)]; exact h5) (fun _ _ => rfl) (by omega) (by omega) hd (fun H1 locs1 hP1 hD1 hS1 => ?_)
  rw [nI_clamp (by omega), nI_clamp (by omega), nI_clamp (by omega)] at hP1
  rw [mem_aput hg.2.2.2.2.2.2.1 _ (isA_lt h').1 hi' (isA_lt h').2 h' hq1] at hP1
  exact kk H1 locs1 ls hP1 hS1 hl
theorem wm_zaload {x : Int32} (t : Nat) (hg : Gd Γ K cc own nL d) (hd : decode cc pc = .ok (.baload, 1)) (hp : pc + 1 = q) (hx : x = nI t) (ht : t < 2) (kk : WM Γ K M L q (.int ((M.1 4 0).2 4 t) :: st)) : WM Γ K M L pc (.int x :: .ref (ad Γ 4 0 5) :: st) := by
  subst hp
  subst hx
  intro H locs ls hP hS hl
  obtain ⟨q0, hq0⟩ := mem_at Γ M (k := (4, 0, 5)) (mem_keys (by decide) (by decide) (by decide) (by decide))
  refine va_zald hg.1 hg.2.1 hg.2.2.2.2.2.1 hP q0 1 hq0 (rfl : (tys Γ)[1]? = some (Γ.2.2.1.2.1, .boolean)) (vp_in_nI ht (by decide)) hd ?_
  rw [nI_clamp (by omega)]
  exact kk H locs ls hP hS hl
theorem wm_zastore {x v : Int32} (t : Nat) (hg : Gd Γ K cc own nL d) (hd : decode cc pc = .ok (.bastore, 1)) (hp : pc + 1 = q) (hx : x = nI t) (ht : t < 2) (hv : vp_nar .boolean v = v) (kk : WM Γ K (sA M 4 0 4 (upd ((M.1 4 0).2 4) t v)) L q st) : WM Γ K M L pc (.int v :: .int x :: .ref (ad Γ 4 0 5) :: st) := by
  subst hp
  subst hx
  intro H locs ls hP hS hl
  obtain ⟨q0, hq0⟩ := mem_at Γ M (k := (4, 0, 5)) (mem_keys (by decide) (by decide) (by decide) (by decide))
  refine va_zast hg.1 hg.2.1 hg.2.2.2.2.2.1 hP (memD hg.2.2.2.2.2.2.1 M) hS q0 1 hq0 (rfl : (tys Γ)[1]? = some (Γ.2.2.1.2.1, .boolean)) (vp_in_nI ht (by decide)) hd (fun H1 locs1 hP1 hD1 hS1 => ?_)
  rw [nI_clamp (by omega), hv] at hP1
  rw [mem_kput hg.2.2.2.2.2.2.1 _ hq0] at hP1
  exact kk H1 locs1 ls hP1 hS1 hl
theorem wm_hload {x : Int32} (t : Nat) (hg : Gd Γ K cc own nL d) (hd : decode cc pc = .ok (.aaload, 1)) (hp : pc + 1 = q) (hx : x = nI t) (ht : t < 8) (kk : WM Γ K M L q (.ref (ad Γ 2 (M.2 t) 0) :: st)) : WM Γ K M L pc (.int x :: .ref (ad Γ 4 0 2) :: st) := by
  subst hp
  subst hx
  intro H locs ls hP hS hl
  obtain ⟨q0, hq0⟩ := mem_at Γ M (k := (4, 0, 2)) (mem_keys (by decide) (by decide) (by decide) (by decide))
  refine va_aldq hg.1 hg.2.1 hg.2.2.2.2.2.1 hP q0 2 hq0 (rfl : (tys Γ)[2]? = some (Γ.2.2.1.2.2.1, .object RX2)) (vp_in_nI ht (by decide)) hd ?_
  rw [nI_clamp (by omega)]
  exact kk H locs ls hP hS hl
theorem wm_imload {x : Int32} (t : Nat) (hg : Gd Γ K cc own nL d) (hd : decode cc pc = .ok (.aaload, 1)) (hp : pc + 1 = q) (hx : x = nI t) (ht : t < 2) (kk : WM Γ K M L q (.ref (ad Γ 2 (9 + t) 0) :: st)) : WM Γ K M L pc (.int x :: .ref (ad Γ 4 0 4) :: st) := by
  subst hp
  subst hx
  intro H locs ls hP hS hl
  obtain ⟨q0, hq0⟩ := mem_at Γ M (k := (4, 0, 4)) (mem_keys (by decide) (by decide) (by decide) (by decide))
  refine va_aldq hg.1 hg.2.1 hg.2.2.2.2.2.1 hP q0 2 hq0 (rfl : (tys Γ)[2]? = some (Γ.2.2.1.2.2.1, .object RX2)) (vp_in_nI ht (by decide)) hd ?_
  rw [nI_clamp (by omega)]
  exact kk H locs ls hP hS hl
theorem wm_cload {x : Int32} (t : Nat) (hg : Gd Γ K cc own nL d) (hd : decode cc pc = .ok (.aaload, 1)) (hp : pc + 1 = q) (hx : x = nI t) (ht : t < 4) (kk : WM Γ K M L q (.ref (ad Γ 1 (11 + t) 0) :: st)) : WM Γ K M L pc (.int x :: .ref (ad Γ 4 0 7) :: st) := by
  subst hp
  subst hx
  intro H locs ls hP hS hl
  obtain ⟨q0, hq0⟩ := mem_at Γ M (k := (4, 0, 7)) (mem_keys (by decide) (by decide) (by decide) (by decide))
  refine va_aldq hg.1 hg.2.1 hg.2.2.2.2.2.1 hP q0 3 hq0 (rfl : (tys Γ)[3]? = some (Γ.2.2.1.2.2.2, .object RX1)) (vp_in_nI ht (by decide)) hd ?_
  rw [nI_clamp (by omega)]
  exact kk H locs ls hP hS hl
theorem wm_hstore {x : Int32} {σ : Nat} (t : Nat) (hg : Gd Γ K cc own nL d) (hd : decode cc pc = .ok (.aastore, 1)) (hp : pc + 1 = q) (hx : x = nI t) (ht : t < 8) (hσ : σ < 11) (kk : WM Γ K (sH M (fun k => if k = t then σ else M.2 k)) L q st) : WM Γ K M L pc (.ref (ad Γ 2 σ 0) :: .int x :: .ref (ad Γ 4 0 2) :: st) := by
  subst hp
  subst hx
  intro H locs ls hP hS hl
  obtain ⟨q0, hq0⟩ := mem_at Γ M (k := (4, 0, 2)) (mem_keys (by decide) (by decide) (by decide) (by decide))
  obtain ⟨qk, hqk⟩ := mem_at Γ M (k := (2, σ, 0)) (mem_keys (by decide) hσ (by decide) rfl)
  refine va_astq hg.1 hg.2.1 hg.2.2.2.2.2.1 hP (memD hg.2.2.2.2.2.2.1 M) hS q0 2 qk 2 (r := (RX2, TX2, 2)) hq0 (rfl : (tys Γ)[2]? = some (Γ.2.2.1.2.2.1, .object RX2)) hqk rfl (vp_in_nI ht (by decide)) hd (fun H1 locs1 hP1 hD1 hS1 => ?_)
  rw [nI_clamp (by omega)] at hP1
  have e : va_up (fun k => some (ad Γ 2 (M.2 k) 0)) t (some (ad Γ 2 σ 0)) = (fun k => some (ad Γ 2 ((fun k => if k = t then σ else M.2 k) k) 0)) := by
    funext k
    by_cases hk : k = t <;> simp [va_up, hk]
  rw [e, mem_hput hg.2.2.2.2.2.2.1 _ hq0] at hP1
  exact kk H1 locs1 ls hP1 hS1 hl
/-! ===== the table of cosines ===== -/
theorem wm_cosines {ix : Nat} (hg : Gd Γ K cc own nL d) (hd : decode cc pc = .ok (.getstatic ix, 3)) (hp : pc + 3 = q) (hw : Cond.fieldLink own ix RX4 "COSINES" "[I" ∈ wsL_law) (kk : WM Γ K M L q (.ref Γ.2.2.2.2.2 :: st)) : WM Γ K M L pc st := by
  subst hp
  intro H locs ls hP hS hl
  exact va_gets hg.1 hg.2.1 hg.2.2.2.2.2.2.2.2.1.1 hS hg.2.2.2.1 (hg.2.2.2.2.1 _ hw) (fun _ h9 => h9) hd (kk H locs ls hP hS hl)
theorem wm_cosload {x : Int32} (t : Nat) (hg : Gd Γ K cc own nL d) (hd : decode cc pc = .ok (.iaload, 1)) (hp : pc + 1 = q) (hx : x = nI t) (ht : t < 8) (kk : WM Γ K M L q (.int (cosV t) :: st)) : WM Γ K M L pc (.int x :: .ref Γ.2.2.2.2.2 :: st) := by
  subst hp
  subst hx
  intro H locs ls hP hS hl
  exact va_ti hg.1 hg.2.1 hg.2.2.2.2.2.2.2.2.1.2 hS (vp_in_nI ht (by decide)) (by rw [nI_clamp (by omega)]) hd (kk H locs ls hP hS hl)
end Rows
end
section
/-! ===== calls ===== -/
def LnkV (own : String) (ix : Nat) (y : MethodName) (cc : ByteArray) (nL : Nat) (ret : Option FieldType) (n : Nat) : Prop := GoodIn wsL_law (wsV own ix y.cls y (Cond.code y cc nL ret :: wsL_law)) ∧ (y.cls ≠ "java/lang/invoke/MethodHandle" ∧ y.cls ≠ "java/lang/invoke/VarHandle" ∧ (parseMethodDescriptor y.desc).map (fun d => d.parameters.length) = some n) ∧ nL ≤ 45
def LnkS (own : String) (ix : Nat) (y : MethodName) (cc : ByteArray) (nL : Nat) (ret : Option FieldType) (n : Nat) : Prop := GoodIn wsL_law (va_wsS own ix y (Cond.code y cc nL ret :: wsL_law)) ∧ (y.cls ≠ "java/lang/invoke/MethodHandle" ∧ y.cls ≠ "java/lang/invoke/VarHandle" ∧ (parseMethodDescriptor y.desc).map (fun d => d.parameters.length) = some n) ∧ nL ≤ 45
/-- a static method of a nest mate: the link itself is a fact of the state -/
def LnkN (y : MethodName) (cc : ByteArray) (nL : Nat) (ret : Option FieldType) (n : Nat) : Prop := GoodIn wsL_law (Cond.code y cc nL ret :: wsL_law) ∧ (Cond.initialized y.cls ∈ wsL_law ∧ Cond.static y ∈ wsL_law) ∧ (y.cls ≠ "java/lang/invoke/MethodHandle" ∧ y.cls ≠ "java/lang/invoke/VarHandle" ∧ (parseMethodDescriptor y.desc).map (fun d => d.parameters.length) = some n) ∧ nL ≤ 45
theorem wsAll : GoodIn wsL_law wsL_law := goodIn_sub (fun _ h => h) (by decide +kernel)
theorem lnkV_of {own : String} {ix : Nat} {y : MethodName} {cc : ByteArray} {nL : Nat} {ret : Option FieldType} {n : Nat} (h1 : ([.methodLink own ix y, .instanceMethod y, .selects y.cls y y, .initialized y.cls, .code y cc nL ret] : List Cond).all (fun w => decide (w ∈ wsL_law) && goodWord w) = true) (h2 : (y.cls ≠ "java/lang/invoke/MethodHandle" ∧ y.cls ≠ "java/lang/invoke/VarHandle" ∧ (parseMethodDescriptor y.desc).map (fun d => d.parameters.length) = some n) ∧ nL ≤ 45) : LnkV own ix y cc nL ret n := by
  have h := goodIn_of _ h1
  exact ⟨fun w hw => by
    unfold wsV at hw
    rcases List.mem_append.mp hw with hw | hw
    · exact h w (show w ∈ ([Cond.methodLink own ix y, Cond.instanceMethod y, Cond.selects y.cls y y, Cond.initialized y.cls] : List Cond) ++ [Cond.code y cc nL ret] from List.mem_append_left _ hw)
    · rcases List.mem_cons.mp hw with rfl | hw
      · exact h _ (show _ ∈ ([Cond.methodLink own ix y, Cond.instanceMethod y, Cond.selects y.cls y y, Cond.initialized y.cls] : List Cond) ++ [Cond.code y cc nL ret] from List.mem_append_right _ List.mem_cons_self)
      · exact wsAll w hw, h2⟩
theorem lnkS_of {own : String} {ix : Nat} {y : MethodName} {cc : ByteArray} {nL : Nat} {ret : Option FieldType} {n : Nat} (h1 : ([.methodLink own ix y, .static y, .initialized y.cls, .code y cc nL ret] : List Cond).all (fun w => decide (w ∈ wsL_law) && goodWord w) = true) (h2 : (y.cls ≠ "java/lang/invoke/MethodHandle" ∧ y.cls ≠ "java/lang/invoke/VarHandle" ∧ (parseMethodDescriptor y.desc).map (fun d => d.parameters.length) = some n) ∧ nL ≤ 45) : LnkS own ix y cc nL ret n := by
  have h := goodIn_of _ h1
  exact ⟨fun w hw => by
    unfold va_wsS at hw
    rcases List.mem_append.mp hw with hw | hw
    · exact h w (show w ∈ ([Cond.methodLink own ix y, Cond.static y, Cond.initialized y.cls] : List Cond) ++ [Cond.code y cc nL ret] from List.mem_append_left _ hw)
    · rcases List.mem_cons.mp hw with rfl | hw
      · exact h _ (show _ ∈ ([Cond.methodLink own ix y, Cond.static y, Cond.initialized y.cls] : List Cond) ++ [Cond.code y cc nL ret] from List.mem_append_right _ List.mem_cons_self)
      · exact wsAll w hw, h2⟩
theorem lnkN_of {y : MethodName} {cc : ByteArray} {nL : Nat} {ret : Option FieldType} {n : Nat} (h1 : ([.static y, .initialized y.cls, .code y cc nL ret] : List Cond).all (fun w => decide (w ∈ wsL_law) && goodWord w) = true) (h2 : (y.cls ≠ "java/lang/invoke/MethodHandle" ∧ y.cls ≠ "java/lang/invoke/VarHandle" ∧ (parseMethodDescriptor y.desc).map (fun d => d.parameters.length) = some n) ∧ nL ≤ 45) : LnkN y cc nL ret n := by
  have h := goodIn_of _ h1
  exact ⟨fun w hw => by
    rcases List.mem_cons.mp hw with rfl | hw
    · exact h _ (List.mem_cons_of_mem _ (List.mem_cons_of_mem _ List.mem_cons_self))
    · exact wsAll w hw, ⟨(h _ (List.mem_cons_of_mem _ List.mem_cons_self)).1, (h _ List.mem_cons_self).1⟩, h2⟩
section Calls2
variable {Γ : GT} {K : KT} {cc : ByteArray} {own : String} {nL d : Nat} {M : Mem} {L : List (Nat × Value)} {pc q : Nat} {st : List Value}
theorem wm_fin {H : Heap} {locs : List Loc} {ls : Array Slot} {o : Option Value} {M' : Mem} {rest : List Value} {a : Array Value} (hr : va_Run (kP K) Γ.1 (kE K) (kR K) (kS K) (kM K) (kArgs K) (kB K) (kMeth K) (kC K) H locs 0 0 0 0 (F0 (kM K) pc ls st) rest (QC Γ o M' a) (gA Γ)) (hS : va_S (gA Γ) (kS K).heap H locs) (hl : lv_has ls (kC K).maxLocals L)
    (kk : WM Γ K M' L (pc + 3) (o.toList ++ rest)) : W (kP K) Γ.1 (kE K) (kR K) (kS K) (kM K) (kArgs K) (kB K) (kMeth K) (kC K) H locs 0 0 (kQ K) (F0 (kM K) pc ls st) := by
  intro T hT X
  obtain ⟨v, st₀, t, T', L', h0, X', hL, e1, e2, ⟨⟨hv, hp⟩, hz, hk⟩, hst⟩ := hr T hT X
  cases hv
  rw [h0] at hz hk
  obtain ⟨t2, a1, b1⟩ := kk T'.heap (locs ++ L') ls (by rw [e1]; exact hp) ⟨Nat.le_trans hS.1 (by rw [e1]; exact hz), fun q h1 h2 => by rw [e1, hk q (Nat.lt_of_lt_of_le h1 hS.1) h2]; exact hS.2.1 q h1 h2, fun q hq => by
    rcases List.mem_append.mp hq with h | h
    · exact hS.2.2 q h
    · exact hL q h⟩ hl T' rfl X'
  exact ⟨t2, hst t2 a1, b1⟩
theorem hw_at {H : Heap} {locs : List Loc} (hg : Gd Γ K cc own nL d) (hP : va_P Γ.2.1 vwCl (mem Γ M) H) (hS : va_S (gA Γ) (kS K).heap H locs) {U : State} (hU : U.heap = H) (hW : (kS K).WarmedH U.vm) : HW Γ M U := by
  obtain ⟨-, -, -, -, -, hK, hG, hN, hC, -⟩ := hg
  refine ⟨hG, by rw [hU]; exact hP, va_K.moved hW.alike hK, NWF.warm hW hN, ?_, ?_⟩
  · rw [hU]
    exact va_Z.moved hW.alike (hC.1.kept hS.2.1)
  · rw [hU]
    exact va_T.moved hW.alike (hC.2.kept hS.2.1)
theorem hw_blind (Γ : GT) (M : Mem) (av : List Value) : FrameBlind (va_Pc av (HW Γ M)) := fun a U g mk h => ⟨h.1, HW.blind Γ M a U g mk h.2⟩
theorem roomR {nLy d' : Nat} (hg : Gd Γ K cc own nL d) (hdd : d' < d) (h : nLy ≤ 45) : (rmd d').frames + 1 ≤ (kR K).frames ∧ 8 + (nLy + 11) + (rmd d').locals ≤ (kR K).locals := by
  have h1 := hg.2.2.2.2.2.2.2.2.2
  refine ⟨?_, ?_⟩
  · show d' + 1 ≤ _
    omega
  · show 8 + (nLy + 11) + 64 * d' ≤ _
    omega
theorem wm_callV {ci i ix n nLy d' : Nat} {y : MethodName} {ccy : ByteArray} {ret : Option FieldType} {As rest : List Value} {o : Option Value} {M' : Mem} (hg : Gd Γ K cc own nL d) (hd : decode cc pc = .ok (.invokevirtual ix, 3)) (hp : pc + 3 = q) (hk : LnkV own ix y ccy nLy ret n) (hdd : d' < d) (hC : Ct Γ y ccy nLy ret d' (.ref (ad Γ ci i 0) :: As) M o M') (hi : i < nO ci) (hcl : RR ci = y.cls ∧ ci < 6) (hn : As.length = n) (hst : st = As.reverse ++ .ref (ad Γ ci i 0) :: rest) (hcat : (rest.map fun v => v.category).sum ≤ 8) (kk : WM Γ K M' L q (o.toList ++ rest)) : WM Γ K M L pc st := by
  subst hp
  intro H locs ls hP hS hl
  obtain ⟨q0, hq0⟩ := mem_at Γ M (mem_keys (j := 0) hcl.2 hi (by decide) rfl)
  have hrecv := va_recv hg.2.2.2.2.2.1 hP (clW hcl.2) hq0
  refine wm_fin (va_runV (C := y.cls) (As := As) (rest := rest) ⟨hg.1, hg.2.1, hg.2.2.1, hg.2.2.2.1, hg.2.2.2.2.1⟩ hC (cwV n hg.2.2.2.2.1 hk.1 rfl rfl rfl ⟨rfl, hk.2.1⟩ (roomR hg hdd hk.2.2)) ⟨hw_blind Γ M _, ?_, fun U hU hW => ⟨rfl, hw_at hg hP hS hU hW⟩⟩ rfl hn (by rw [← hg.2.2.1]; exact hl.1) hst (lv_room hcat) hd ⟨Nat.zero_le _, Nat.zero_le _⟩) hS hl kk
  rw [← hcl.1]
  exact hrecv
theorem wm_callS {ix n nLy d' : Nat} {y : MethodName} {ccy : ByteArray} {ret : Option FieldType} {As rest : List Value} {o : Option Value} {M' : Mem} (hg : Gd Γ K cc own nL d) (hd : decode cc pc = .ok (.invokestatic ix, 3)) (hp : pc + 3 = q) (hk : LnkS own ix y ccy nLy ret n) (hdd : d' < d) (hC : Ct Γ y ccy nLy ret d' As M o M') (hn : As.length = n) (hst : st = As.reverse ++ rest) (hcat : (rest.map fun v => v.category).sum ≤ 8) (kk : WM Γ K M' L q (o.toList ++ rest)) : WM Γ K M L pc st := by
  subst hp
  intro H locs ls hP hS hl
  exact wm_fin (va_runS (As := As) (rest := rest) ⟨hg.1, hg.2.1, hg.2.2.1, hg.2.2.2.1, hg.2.2.2.2.1⟩ hC (va_cwS n hg.2.2.2.2.1 hk.1 rfl rfl rfl hk.2.1 (roomR hg hdd hk.2.2)) ⟨hw_blind Γ M _, fun U hU hW => ⟨rfl, hw_at hg hP hS hU hW⟩⟩ rfl hn (by rw [← hg.2.2.1]; exact hl.1) hst (lv_room hcat) hd ⟨Nat.zero_le _, Nat.zero_le _⟩) hS hl kk
theorem wm_callN {ix n nLy d' : Nat} {y : MethodName} {ccy : ByteArray} {ret : Option FieldType} {As rest : List Value} {o : Option Value} {M' : Mem} (hg : Gd Γ K cc own nL d) (hd : decode cc pc = .ok (.invokestatic ix, 3)) (hp : pc + 3 = q) (hk : LnkN y ccy nLy ret n) (hnw : NWF (kS K) → va_Nw (.methodLinkNest own ix y RX4) (kS K)) (hdd : d' < d) (hC : Ct Γ y ccy nLy ret d' As M o M') (hn : As.length = n) (hst : st = As.reverse ++ rest) (hcat : (rest.map fun v => v.category).sum ≤ 8) (kk : WM Γ K M' L q (o.toList ++ rest)) : WM Γ K M L pc st := by
  subst hp
  intro H locs ls hP hS hl
  have ht := hg.2.2.2.2.1
  exact wm_fin (va_runSN (As := As) (rest := rest) ⟨hg.1, hg.2.1, hg.2.2.1, hg.2.2.2.1, hg.2.2.2.2.1⟩ hC ⟨va_cnB n ht hk.1 rfl rfl rfl (hnw hg.2.2.2.2.2.2.2.1) (ht _ hk.2.1.1) hk.2.2.1 (roomR hg hdd hk.2.2.2), ht _ hk.2.1.2, trivial⟩ ⟨hw_blind Γ M _, fun U hU hW => ⟨rfl, hw_at hg hP hS hU hW⟩⟩ rfl hn (by rw [← hg.2.2.1]; exact hl.1) hst (lv_room hcat) hd ⟨Nat.zero_le _, Nat.zero_le _⟩) hS hl kk
/-- the same, by what comes back: a value .. -/
theorem wm_callV1 {ci i ix n nLy d' : Nat} {y : MethodName} {ccy : ByteArray} {ret : Option FieldType} {As rest : List Value} {v : Value} {M' : Mem} (hg : Gd Γ K cc own nL d) (hd : decode cc pc = .ok (.invokevirtual ix, 3)) (hp : pc + 3 = q) (hk : LnkV own ix y ccy nLy ret n) (hdd : d' < d) (hC : Ct Γ y ccy nLy ret d' (.ref (ad Γ ci i 0) :: As) M (some v) M') (hi : i < nO ci) (hcl : RR ci = y.cls ∧ ci < 6) (hn : As.length = n) (hst : st = As.reverse ++ .ref (ad Γ ci i 0) :: rest) (hcat : (rest.map fun v => v.category).sum ≤ 8) (kk : WM Γ K M' L q (v :: rest)) : WM Γ K M L pc st := wm_callV hg hd hp hk hdd hC hi hcl hn hst hcat kk
theorem wm_callS1 {ix n nLy d' : Nat} {y : MethodName} {ccy : ByteArray} {ret : Option FieldType} {As rest : List Value} {v : Value} {M' : Mem} (hg : Gd Γ K cc own nL d) (hd : decode cc pc = .ok (.invokestatic ix, 3)) (hp : pc + 3 = q) (hk : LnkS own ix y ccy nLy ret n) (hdd : d' < d) (hC : Ct Γ y ccy nLy ret d' As M (some v) M') (hn : As.length = n) (hst : st = As.reverse ++ rest) (hcat : (rest.map fun v => v.category).sum ≤ 8) (kk : WM Γ K M' L q (v :: rest)) : WM Γ K M L pc st := wm_callS hg hd hp hk hdd hC hn hst hcat kk
theorem wm_callN1 {ix n nLy d' : Nat} {y : MethodName} {ccy : ByteArray} {ret : Option FieldType} {As rest : List Value} {v : Value} {M' : Mem} (hg : Gd Γ K cc own nL d) (hd : decode cc pc = .ok (.invokestatic ix, 3)) (hp : pc + 3 = q) (hk : LnkN y ccy nLy ret n) (hnw : NWF (kS K) → va_Nw (.methodLinkNest own ix y RX4) (kS K)) (hdd : d' < d) (hC : Ct Γ y ccy nLy ret d' As M (some v) M') (hn : As.length = n) (hst : st = As.reverse ++ rest) (hcat : (rest.map fun v => v.category).sum ≤ 8) (kk : WM Γ K M' L q (v :: rest)) : WM Γ K M L pc st := wm_callN hg hd hp hk hnw hdd hC hn hst hcat kk
/-- .. or none -/
theorem wm_callV0 {ci i ix n nLy d' : Nat} {y : MethodName} {ccy : ByteArray} {ret : Option FieldType} {As rest : List Value} {M' : Mem} (hg : Gd Γ K cc own nL d) (hd : decode cc pc = .ok (.invokevirtual ix, 3)) (hp : pc + 3 = q) (hk : LnkV own ix y ccy nLy ret n) (hdd : d' < d) (hC : Ct Γ y ccy nLy ret d' (.ref (ad Γ ci i 0) :: As) M none M') (hi : i < nO ci) (hcl : RR ci = y.cls ∧ ci < 6) (hn : As.length = n) (hst : st = As.reverse ++ .ref (ad Γ ci i 0) :: rest) (hcat : (rest.map fun v => v.category).sum ≤ 8) (kk : WM Γ K M' L q rest) : WM Γ K M L pc st := wm_callV hg hd hp hk hdd hC hi hcl hn hst hcat kk
theorem wm_callS0 {ix n nLy d' : Nat} {y : MethodName} {ccy : ByteArray} {ret : Option FieldType} {As rest : List Value} {M' : Mem} (hg : Gd Γ K cc own nL d) (hd : decode cc pc = .ok (.invokestatic ix, 3)) (hp : pc + 3 = q) (hk : LnkS own ix y ccy nLy ret n) (hdd : d' < d) (hC : Ct Γ y ccy nLy ret d' As M none M') (hn : As.length = n) (hst : st = As.reverse ++ rest) (hcat : (rest.map fun v => v.category).sum ≤ 8) (kk : WM Γ K M' L q rest) : WM Γ K M L pc st := wm_callS hg hd hp hk hdd hC hn hst hcat kk
theorem wsMxS : Cond.static Lib.Math.max.name ∈ wsL_law := by decide +kernel
theorem wsMxI : Cond.initialized "java/lang/Math" ∈ wsL_law := by decide +kernel
theorem wsMxC : Cond.code Lib.Math.max.name Lib.Math.max.code 2 (some .int) ∈ wsL_law := by decide +kernel
theorem wm_max {x y : Int32} {ix : Nat} (hg : Gd Γ K cc own nL d) (hd : decode cc pc = .ok (.invokestatic ix, 3)) (hp : pc + 3 = q) (hw : Cond.methodLink own ix Lib.Math.max.name ∈ wsL_law) (hdd : 1 ≤ d) (hcat : (st.map fun v => v.category).sum ≤ 8) (kk : WM Γ K M L q (.int (if x < y then y else x) :: st)) : WM Γ K M L pc (.int y :: .int x :: st) := by
  subst hp
  intro H locs ls hP hS hl
  have ht := hg.2.2.2.2.1
  have hr := hg.2.2.2.2.2.2.2.2.2
  exact va_mmax hg.1 hg.2.1 (by rw [hl.1]) hg.2.2.2.1 (ht _ hw) (ht _ wsMxS) (ht _ wsMxI) (ht _ wsMxC) (by omega) (by omega) (Nat.zero_le _) (Nat.zero_le _) hd (kk H locs ls hP hS hl)
end Calls2
end
