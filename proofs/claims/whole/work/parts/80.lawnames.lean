-- ===== PART A: goes FIRST, ahead of the names: the tables' words, and 'selects' of the private methods out of them =====
/-- a private method of a class that the tables say can be made, by its rows of tables_1 -/
def lw_okq (q : MethodName × Nat) : Prop := (q.1.cls ≠ "java/lang/invoke/MethodHandle" ∧ q.1.cls ≠ "java/lang/invoke/VarHandle") ∧ Cond.instantiable q.1.cls q.2 ∈ tables_1 ∧ Cond.privateMethod q.1 ∈ tables_1 ∧ Cond.instanceMethod q.1 ∈ tables_1
theorem lw_p0 : lw_okq (⟨"EvenLoads", "recorded", "(I)I"⟩, 6) := ⟨⟨by decide +kernel, by decide +kernel⟩, List.mem_of_getElem? (i := 11) (by decide +kernel), List.mem_of_getElem? (i := 211) (by decide +kernel), List.mem_of_getElem? (i := 212) (by decide +kernel)⟩
theorem lw_p1 : lw_okq (⟨"EvenLoads$History", "stateAt", "(I)LEvenLoads$Cluster;"⟩, 3) := ⟨⟨by decide +kernel, by decide +kernel⟩, List.mem_of_getElem? (i := 86) (by decide +kernel), List.mem_of_getElem? (i := 219) (by decide +kernel), List.mem_of_getElem? (i := 220) (by decide +kernel)⟩
theorem lw_p2 : lw_okq (⟨"EvenLoads$Step", "chooseMove", "(LEvenLoads$Cluster;I)V"⟩, 5) := ⟨⟨by decide +kernel, by decide +kernel⟩, List.mem_of_getElem? (i := 106) (by decide +kernel), List.mem_of_getElem? (i := 346) (by decide +kernel), List.mem_of_getElem? (i := 347) (by decide +kernel)⟩
theorem lw_p3 : lw_okq (⟨"EvenLoads$Step", "startBelow", "(I)V"⟩, 5) := ⟨⟨by decide +kernel, by decide +kernel⟩, List.mem_of_getElem? (i := 106) (by decide +kernel), List.mem_of_getElem? (i := 350) (by decide +kernel), List.mem_of_getElem? (i := 351) (by decide +kernel)⟩
theorem lw_p4 : lw_okq (⟨"EvenLoads$Step", "offer", "(IIIII)V"⟩, 5) := ⟨⟨by decide +kernel, by decide +kernel⟩, List.mem_of_getElem? (i := 106) (by decide +kernel), List.mem_of_getElem? (i := 355) (by decide +kernel), List.mem_of_getElem? (i := 356) (by decide +kernel)⟩
theorem lw_p5 : lw_okq (⟨"EvenLoads$Step", "isPossible", "(LEvenLoads$Cluster;)Z"⟩, 5) := ⟨⟨by decide +kernel, by decide +kernel⟩, List.mem_of_getElem? (i := 106) (by decide +kernel), List.mem_of_getElem? (i := 359) (by decide +kernel), List.mem_of_getElem? (i := 360) (by decide +kernel)⟩
theorem lw_p6 : lw_okq (⟨"EvenLoads$Step", "chooseExchange", "(LEvenLoads$Cluster;I)V"⟩, 5) := ⟨⟨by decide +kernel, by decide +kernel⟩, List.mem_of_getElem? (i := 106) (by decide +kernel), List.mem_of_getElem? (i := 363) (by decide +kernel), List.mem_of_getElem? (i := 364) (by decide +kernel)⟩
theorem lw_p7 : lw_okq (⟨"EvenLoads", "runOrders", "()I"⟩, 6) := ⟨⟨by decide +kernel, by decide +kernel⟩, List.mem_of_getElem? (i := 11) (by decide +kernel), List.mem_of_getElem? (i := 443) (by decide +kernel), List.mem_of_getElem? (i := 444) (by decide +kernel)⟩
theorem lw_p8 : lw_okq (⟨"EvenLoads$Program", "readLetter", "(II)Z"⟩, 8) := ⟨⟨by decide +kernel, by decide +kernel⟩, List.mem_of_getElem? (i := 132) (by decide +kernel), List.mem_of_getElem? (i := 457) (by decide +kernel), List.mem_of_getElem? (i := 458) (by decide +kernel)⟩
theorem lw_p9 : lw_okq (⟨"EvenLoads$Program", "readDigit", "(I)Z"⟩, 8) := ⟨⟨by decide +kernel, by decide +kernel⟩, List.mem_of_getElem? (i := 132) (by decide +kernel), List.mem_of_getElem? (i := 464) (by decide +kernel), List.mem_of_getElem? (i := 465) (by decide +kernel)⟩
theorem lw_p10 : lw_okq (⟨"EvenLoads$Program", "beginNumber", "(I)Z"⟩, 8) := ⟨⟨by decide +kernel, by decide +kernel⟩, List.mem_of_getElem? (i := 132) (by decide +kernel), List.mem_of_getElem? (i := 468) (by decide +kernel), List.mem_of_getElem? (i := 469) (by decide +kernel)⟩
theorem lw_p11 : lw_okq (⟨"EvenLoads", "callOrder", "()I"⟩, 6) := ⟨⟨by decide +kernel, by decide +kernel⟩, List.mem_of_getElem? (i := 11) (by decide +kernel), List.mem_of_getElem? (i := 472) (by decide +kernel), List.mem_of_getElem? (i := 473) (by decide +kernel)⟩
theorem lw_p12 : lw_okq (⟨"EvenLoadsModel", "aside", "()V"⟩, 15) := ⟨⟨by decide +kernel, by decide +kernel⟩, List.mem_of_getElem? (i := 541) (by decide +kernel), List.mem_of_getElem? (i := 601) (by decide +kernel), List.mem_of_getElem? (i := 602) (by decide +kernel)⟩
theorem lw_p13 : lw_okq (⟨"EvenLoadsModel", "acted", "(I)I"⟩, 15) := ⟨⟨by decide +kernel, by decide +kernel⟩, List.mem_of_getElem? (i := 541) (by decide +kernel), List.mem_of_getElem? (i := 605) (by decide +kernel), List.mem_of_getElem? (i := 606) (by decide +kernel)⟩
theorem lw_p14 : lw_okq (⟨"EvenLoadsModel", "keeps", "()V"⟩, 15) := ⟨⟨by decide +kernel, by decide +kernel⟩, List.mem_of_getElem? (i := 541) (by decide +kernel), List.mem_of_getElem? (i := 609) (by decide +kernel), List.mem_of_getElem? (i := 610) (by decide +kernel)⟩
theorem lw_p15 : lw_okq (⟨"EvenLoadsModel", "adds", "(III)I"⟩, 15) := ⟨⟨by decide +kernel, by decide +kernel⟩, List.mem_of_getElem? (i := 541) (by decide +kernel), List.mem_of_getElem? (i := 617) (by decide +kernel), List.mem_of_getElem? (i := 618) (by decide +kernel)⟩
def lw_privs_1 : List (MethodName × Nat) := [(⟨"EvenLoads", "recorded", "(I)I"⟩, 6), (⟨"EvenLoads$History", "stateAt", "(I)LEvenLoads$Cluster;"⟩, 3), (⟨"EvenLoads$Step", "chooseMove", "(LEvenLoads$Cluster;I)V"⟩, 5), (⟨"EvenLoads$Step", "startBelow", "(I)V"⟩, 5), (⟨"EvenLoads$Step", "offer", "(IIIII)V"⟩, 5), (⟨"EvenLoads$Step", "isPossible", "(LEvenLoads$Cluster;)Z"⟩, 5), (⟨"EvenLoads$Step", "chooseExchange", "(LEvenLoads$Cluster;I)V"⟩, 5), (⟨"EvenLoads", "runOrders", "()I"⟩, 6), (⟨"EvenLoads$Program", "readLetter", "(II)Z"⟩, 8), (⟨"EvenLoads$Program", "readDigit", "(I)Z"⟩, 8), (⟨"EvenLoads$Program", "beginNumber", "(I)Z"⟩, 8), (⟨"EvenLoads", "callOrder", "()I"⟩, 6), (⟨"EvenLoadsModel", "aside", "()V"⟩, 15), (⟨"EvenLoadsModel", "acted", "(I)I"⟩, 15), (⟨"EvenLoadsModel", "keeps", "()V"⟩, 15), (⟨"EvenLoadsModel", "adds", "(III)I"⟩, 15)]
theorem lw_r1 : ∀ q ∈ lw_privs_1, lw_okq q := List.forall_mem_cons.mpr ⟨lw_p0, List.forall_mem_cons.mpr ⟨lw_p1, List.forall_mem_cons.mpr ⟨lw_p2, List.forall_mem_cons.mpr ⟨lw_p3, List.forall_mem_cons.mpr ⟨lw_p4, List.forall_mem_cons.mpr ⟨lw_p5, List.forall_mem_cons.mpr ⟨lw_p6, List.forall_mem_cons.mpr ⟨lw_p7, List.forall_mem_cons.mpr ⟨lw_p8, List.forall_mem_cons.mpr ⟨lw_p9, List.forall_mem_cons.mpr ⟨lw_p10, List.forall_mem_cons.mpr ⟨lw_p11, List.forall_mem_cons.mpr ⟨lw_p12, List.forall_mem_cons.mpr ⟨lw_p13, List.forall_mem_cons.mpr ⟨lw_p14, List.forall_mem_cons.mpr ⟨lw_p15, fun _ h => absurd h List.not_mem_nil⟩⟩⟩⟩⟩⟩⟩⟩⟩⟩⟩⟩⟩⟩⟩⟩
theorem lw_p16 : lw_okq (⟨"EvenLoadsModel", "isServer", "(I)Z"⟩, 15) := ⟨⟨by decide +kernel, by decide +kernel⟩, List.mem_of_getElem? (i := 541) (by decide +kernel), List.mem_of_getElem? (i := 624) (by decide +kernel), List.mem_of_getElem? (i := 625) (by decide +kernel)⟩
theorem lw_p17 : lw_okq (⟨"EvenLoadsModel", "isOpen", "(I)Z"⟩, 15) := ⟨⟨by decide +kernel, by decide +kernel⟩, List.mem_of_getElem? (i := 541) (by decide +kernel), List.mem_of_getElem? (i := 628) (by decide +kernel), List.mem_of_getElem? (i := 629) (by decide +kernel)⟩
theorem lw_p18 : lw_okq (⟨"EvenLoadsModel", "finishes", "(I)I"⟩, 15) := ⟨⟨by decide +kernel, by decide +kernel⟩, List.mem_of_getElem? (i := 541) (by decide +kernel), List.mem_of_getElem? (i := 636) (by decide +kernel), List.mem_of_getElem? (i := 637) (by decide +kernel)⟩
theorem lw_p19 : lw_okq (⟨"EvenLoadsModel", "isJob", "(I)Z"⟩, 15) := ⟨⟨by decide +kernel, by decide +kernel⟩, List.mem_of_getElem? (i := 541) (by decide +kernel), List.mem_of_getElem? (i := 640) (by decide +kernel), List.mem_of_getElem? (i := 641) (by decide +kernel)⟩
theorem lw_p20 : lw_okq (⟨"EvenLoadsModel", "of", "(II)I"⟩, 15) := ⟨⟨by decide +kernel, by decide +kernel⟩, List.mem_of_getElem? (i := 541) (by decide +kernel), List.mem_of_getElem? (i := 644) (by decide +kernel), List.mem_of_getElem? (i := 645) (by decide +kernel)⟩
theorem lw_p21 : lw_okq (⟨"EvenLoadsModel", "load", "(I)I"⟩, 15) := ⟨⟨by decide +kernel, by decide +kernel⟩, List.mem_of_getElem? (i := 541) (by decide +kernel), List.mem_of_getElem? (i := 648) (by decide +kernel), List.mem_of_getElem? (i := 649) (by decide +kernel)⟩
theorem lw_p22 : lw_okq (⟨"EvenLoadsModel", "target", "()I"⟩, 15) := ⟨⟨by decide +kernel, by decide +kernel⟩, List.mem_of_getElem? (i := 541) (by decide +kernel), List.mem_of_getElem? (i := 660) (by decide +kernel), List.mem_of_getElem? (i := 661) (by decide +kernel)⟩
theorem lw_p23 : lw_okq (⟨"EvenLoadsModel", "bound", "()I"⟩, 15) := ⟨⟨by decide +kernel, by decide +kernel⟩, List.mem_of_getElem? (i := 541) (by decide +kernel), List.mem_of_getElem? (i := 664) (by decide +kernel), List.mem_of_getElem? (i := 665) (by decide +kernel)⟩
theorem lw_p24 : lw_okq (⟨"EvenLoadsModel", "isDone", "(I)Z"⟩, 15) := ⟨⟨by decide +kernel, by decide +kernel⟩, List.mem_of_getElem? (i := 541) (by decide +kernel), List.mem_of_getElem? (i := 668) (by decide +kernel), List.mem_of_getElem? (i := 669) (by decide +kernel)⟩
theorem lw_p25 : lw_okq (⟨"EvenLoadsModel", "opens", "()I"⟩, 15) := ⟨⟨by decide +kernel, by decide +kernel⟩, List.mem_of_getElem? (i := 541) (by decide +kernel), List.mem_of_getElem? (i := 675) (by decide +kernel), List.mem_of_getElem? (i := 676) (by decide +kernel)⟩
theorem lw_p26 : lw_okq (⟨"EvenLoadsModel", "allLoads", "()I"⟩, 15) := ⟨⟨by decide +kernel, by decide +kernel⟩, List.mem_of_getElem? (i := 541) (by decide +kernel), List.mem_of_getElem? (i := 679) (by decide +kernel), List.mem_of_getElem? (i := 680) (by decide +kernel)⟩
theorem lw_p27 : lw_okq (⟨"EvenLoadsModel", "moves", "(II)I"⟩, 15) := ⟨⟨by decide +kernel, by decide +kernel⟩, List.mem_of_getElem? (i := 541) (by decide +kernel), List.mem_of_getElem? (i := 687) (by decide +kernel), List.mem_of_getElem? (i := 688) (by decide +kernel)⟩
theorem lw_p28 : lw_okq (⟨"EvenLoadsModel", "goes", "(II)V"⟩, 15) := ⟨⟨by decide +kernel, by decide +kernel⟩, List.mem_of_getElem? (i := 541) (by decide +kernel), List.mem_of_getElem? (i := 691) (by decide +kernel), List.mem_of_getElem? (i := 692) (by decide +kernel)⟩
theorem lw_p29 : lw_okq (⟨"EvenLoadsModel", "greatest", "()I"⟩, 15) := ⟨⟨by decide +kernel, by decide +kernel⟩, List.mem_of_getElem? (i := 541) (by decide +kernel), List.mem_of_getElem? (i := 695) (by decide +kernel), List.mem_of_getElem? (i := 696) (by decide +kernel)⟩
theorem lw_p30 : lw_okq (⟨"EvenLoadsModel", "exchanges", "(II)I"⟩, 15) := ⟨⟨by decide +kernel, by decide +kernel⟩, List.mem_of_getElem? (i := 541) (by decide +kernel), List.mem_of_getElem? (i := 703) (by decide +kernel), List.mem_of_getElem? (i := 704) (by decide +kernel)⟩
theorem lw_p31 : lw_okq (⟨"EvenLoadsModel", "rings", "(III)I"⟩, 15) := ⟨⟨by decide +kernel, by decide +kernel⟩, List.mem_of_getElem? (i := 541) (by decide +kernel), List.mem_of_getElem? (i := 711) (by decide +kernel), List.mem_of_getElem? (i := 712) (by decide +kernel)⟩
def lw_privs_2 : List (MethodName × Nat) := [(⟨"EvenLoadsModel", "isServer", "(I)Z"⟩, 15), (⟨"EvenLoadsModel", "isOpen", "(I)Z"⟩, 15), (⟨"EvenLoadsModel", "finishes", "(I)I"⟩, 15), (⟨"EvenLoadsModel", "isJob", "(I)Z"⟩, 15), (⟨"EvenLoadsModel", "of", "(II)I"⟩, 15), (⟨"EvenLoadsModel", "load", "(I)I"⟩, 15), (⟨"EvenLoadsModel", "target", "()I"⟩, 15), (⟨"EvenLoadsModel", "bound", "()I"⟩, 15), (⟨"EvenLoadsModel", "isDone", "(I)Z"⟩, 15), (⟨"EvenLoadsModel", "opens", "()I"⟩, 15), (⟨"EvenLoadsModel", "allLoads", "()I"⟩, 15), (⟨"EvenLoadsModel", "moves", "(II)I"⟩, 15), (⟨"EvenLoadsModel", "goes", "(II)V"⟩, 15), (⟨"EvenLoadsModel", "greatest", "()I"⟩, 15), (⟨"EvenLoadsModel", "exchanges", "(II)I"⟩, 15), (⟨"EvenLoadsModel", "rings", "(III)I"⟩, 15)]
theorem lw_r2 : ∀ q ∈ lw_privs_2, lw_okq q := List.forall_mem_cons.mpr ⟨lw_p16, List.forall_mem_cons.mpr ⟨lw_p17, List.forall_mem_cons.mpr ⟨lw_p18, List.forall_mem_cons.mpr ⟨lw_p19, List.forall_mem_cons.mpr ⟨lw_p20, List.forall_mem_cons.mpr ⟨lw_p21, List.forall_mem_cons.mpr ⟨lw_p22, List.forall_mem_cons.mpr ⟨lw_p23, List.forall_mem_cons.mpr ⟨lw_p24, List.forall_mem_cons.mpr ⟨lw_p25, List.forall_mem_cons.mpr ⟨lw_p26, List.forall_mem_cons.mpr ⟨lw_p27, List.forall_mem_cons.mpr ⟨lw_p28, List.forall_mem_cons.mpr ⟨lw_p29, List.forall_mem_cons.mpr ⟨lw_p30, List.forall_mem_cons.mpr ⟨lw_p31, fun _ h => absurd h List.not_mem_nil⟩⟩⟩⟩⟩⟩⟩⟩⟩⟩⟩⟩⟩⟩⟩⟩
theorem lw_p32 : lw_okq (⟨"EvenLoadsModel", "evensBy", "(I)I"⟩, 15) := ⟨⟨by decide +kernel, by decide +kernel⟩, List.mem_of_getElem? (i := 541) (by decide +kernel), List.mem_of_getElem? (i := 719) (by decide +kernel), List.mem_of_getElem? (i := 720) (by decide +kernel)⟩
theorem lw_p33 : lw_okq (⟨"EvenLoadsModel", "evens", "(I)I"⟩, 15) := ⟨⟨by decide +kernel, by decide +kernel⟩, List.mem_of_getElem? (i := 541) (by decide +kernel), List.mem_of_getElem? (i := 723) (by decide +kernel), List.mem_of_getElem? (i := 724) (by decide +kernel)⟩
theorem lw_p34 : lw_okq (⟨"EvenLoadsModel", "findsStep", "()Z"⟩, 15) := ⟨⟨by decide +kernel, by decide +kernel⟩, List.mem_of_getElem? (i := 541) (by decide +kernel), List.mem_of_getElem? (i := 727) (by decide +kernel), List.mem_of_getElem? (i := 728) (by decide +kernel)⟩
theorem lw_p35 : lw_okq (⟨"EvenLoadsModel", "areEven", "()Z"⟩, 15) := ⟨⟨by decide +kernel, by decide +kernel⟩, List.mem_of_getElem? (i := 541) (by decide +kernel), List.mem_of_getElem? (i := 731) (by decide +kernel), List.mem_of_getElem? (i := 732) (by decide +kernel)⟩
theorem lw_p36 : lw_okq (⟨"EvenLoadsModel", "full", "()I"⟩, 15) := ⟨⟨by decide +kernel, by decide +kernel⟩, List.mem_of_getElem? (i := 541) (by decide +kernel), List.mem_of_getElem? (i := 735) (by decide +kernel), List.mem_of_getElem? (i := 736) (by decide +kernel)⟩
theorem lw_p37 : lw_okq (⟨"EvenLoadsModel", "findsMove", "(I)Z"⟩, 15) := ⟨⟨by decide +kernel, by decide +kernel⟩, List.mem_of_getElem? (i := 541) (by decide +kernel), List.mem_of_getElem? (i := 739) (by decide +kernel), List.mem_of_getElem? (i := 740) (by decide +kernel)⟩
theorem lw_p38 : lw_okq (⟨"EvenLoadsModel", "findsExchange", "(I)Z"⟩, 15) := ⟨⟨by decide +kernel, by decide +kernel⟩, List.mem_of_getElem? (i := 541) (by decide +kernel), List.mem_of_getElem? (i := 746) (by decide +kernel), List.mem_of_getElem? (i := 747) (by decide +kernel)⟩
theorem lw_p39 : lw_okq (⟨"EvenLoadsModel", "closes", "(I)I"⟩, 15) := ⟨⟨by decide +kernel, by decide +kernel⟩, List.mem_of_getElem? (i := 541) (by decide +kernel), List.mem_of_getElem? (i := 754) (by decide +kernel), List.mem_of_getElem? (i := 755) (by decide +kernel)⟩
theorem lw_p40 : lw_okq (⟨"EvenLoadsModel", "empties", "(I)I"⟩, 15) := ⟨⟨by decide +kernel, by decide +kernel⟩, List.mem_of_getElem? (i := 541) (by decide +kernel), List.mem_of_getElem? (i := 758) (by decide +kernel), List.mem_of_getElem? (i := 759) (by decide +kernel)⟩
theorem lw_p41 : lw_okq (⟨"EvenLoadsModel", "leaver", "(II)I"⟩, 15) := ⟨⟨by decide +kernel, by decide +kernel⟩, List.mem_of_getElem? (i := 541) (by decide +kernel), List.mem_of_getElem? (i := 762) (by decide +kernel), List.mem_of_getElem? (i := 763) (by decide +kernel)⟩
theorem lw_p42 : lw_okq (⟨"EvenLoadsModel", "emptiest", "()I"⟩, 15) := ⟨⟨by decide +kernel, by decide +kernel⟩, List.mem_of_getElem? (i := 541) (by decide +kernel), List.mem_of_getElem? (i := 766) (by decide +kernel), List.mem_of_getElem? (i := 767) (by decide +kernel)⟩
theorem lw_p43 : lw_okq (⟨"EvenLoadsModel", "skips", "()I"⟩, 15) := ⟨⟨by decide +kernel, by decide +kernel⟩, List.mem_of_getElem? (i := 541) (by decide +kernel), List.mem_of_getElem? (i := 786) (by decide +kernel), List.mem_of_getElem? (i := 787) (by decide +kernel)⟩
theorem lw_p44 : lw_okq (⟨"EvenLoadsModel", "look", "()I"⟩, 15) := ⟨⟨by decide +kernel, by decide +kernel⟩, List.mem_of_getElem? (i := 541) (by decide +kernel), List.mem_of_getElem? (i := 790) (by decide +kernel), List.mem_of_getElem? (i := 791) (by decide +kernel)⟩
theorem lw_p45 : lw_okq (⟨"EvenLoadsModel", "order", "()V"⟩, 15) := ⟨⟨by decide +kernel, by decide +kernel⟩, List.mem_of_getElem? (i := 541) (by decide +kernel), List.mem_of_getElem? (i := 794) (by decide +kernel), List.mem_of_getElem? (i := 795) (by decide +kernel)⟩
theorem lw_p46 : lw_okq (⟨"EvenLoadsModel", "reads", "(I)V"⟩, 15) := ⟨⟨by decide +kernel, by decide +kernel⟩, List.mem_of_getElem? (i := 541) (by decide +kernel), List.mem_of_getElem? (i := 801) (by decide +kernel), List.mem_of_getElem? (i := 802) (by decide +kernel)⟩
theorem lw_p47 : lw_okq (⟨"EvenLoadsModel", "does", "(I)I"⟩, 15) := ⟨⟨by decide +kernel, by decide +kernel⟩, List.mem_of_getElem? (i := 541) (by decide +kernel), List.mem_of_getElem? (i := 805) (by decide +kernel), List.mem_of_getElem? (i := 806) (by decide +kernel)⟩
def lw_privs_3 : List (MethodName × Nat) := [(⟨"EvenLoadsModel", "evensBy", "(I)I"⟩, 15), (⟨"EvenLoadsModel", "evens", "(I)I"⟩, 15), (⟨"EvenLoadsModel", "findsStep", "()Z"⟩, 15), (⟨"EvenLoadsModel", "areEven", "()Z"⟩, 15), (⟨"EvenLoadsModel", "full", "()I"⟩, 15), (⟨"EvenLoadsModel", "findsMove", "(I)Z"⟩, 15), (⟨"EvenLoadsModel", "findsExchange", "(I)Z"⟩, 15), (⟨"EvenLoadsModel", "closes", "(I)I"⟩, 15), (⟨"EvenLoadsModel", "empties", "(I)I"⟩, 15), (⟨"EvenLoadsModel", "leaver", "(II)I"⟩, 15), (⟨"EvenLoadsModel", "emptiest", "()I"⟩, 15), (⟨"EvenLoadsModel", "skips", "()I"⟩, 15), (⟨"EvenLoadsModel", "look", "()I"⟩, 15), (⟨"EvenLoadsModel", "order", "()V"⟩, 15), (⟨"EvenLoadsModel", "reads", "(I)V"⟩, 15), (⟨"EvenLoadsModel", "does", "(I)I"⟩, 15)]
theorem lw_r3 : ∀ q ∈ lw_privs_3, lw_okq q := List.forall_mem_cons.mpr ⟨lw_p32, List.forall_mem_cons.mpr ⟨lw_p33, List.forall_mem_cons.mpr ⟨lw_p34, List.forall_mem_cons.mpr ⟨lw_p35, List.forall_mem_cons.mpr ⟨lw_p36, List.forall_mem_cons.mpr ⟨lw_p37, List.forall_mem_cons.mpr ⟨lw_p38, List.forall_mem_cons.mpr ⟨lw_p39, List.forall_mem_cons.mpr ⟨lw_p40, List.forall_mem_cons.mpr ⟨lw_p41, List.forall_mem_cons.mpr ⟨lw_p42, List.forall_mem_cons.mpr ⟨lw_p43, List.forall_mem_cons.mpr ⟨lw_p44, List.forall_mem_cons.mpr ⟨lw_p45, List.forall_mem_cons.mpr ⟨lw_p46, List.forall_mem_cons.mpr ⟨lw_p47, fun _ h => absurd h List.not_mem_nil⟩⟩⟩⟩⟩⟩⟩⟩⟩⟩⟩⟩⟩⟩⟩⟩
theorem lw_p48 : lw_okq (⟨"EvenLoadsModel", "layBack", "()V"⟩, 15) := ⟨⟨by decide +kernel, by decide +kernel⟩, List.mem_of_getElem? (i := 541) (by decide +kernel), List.mem_of_getElem? (i := 809) (by decide +kernel), List.mem_of_getElem? (i := 810) (by decide +kernel)⟩
theorem lw_p49 : lw_okq (⟨"EvenLoadsModel", "manyOn", "(I)I"⟩, 15) := ⟨⟨by decide +kernel, by decide +kernel⟩, List.mem_of_getElem? (i := 541) (by decide +kernel), List.mem_of_getElem? (i := 817) (by decide +kernel), List.mem_of_getElem? (i := 818) (by decide +kernel)⟩
theorem lw_p50 : lw_okq (⟨"EvenLoadsModel", "jobsOn", "(I)I"⟩, 15) := ⟨⟨by decide +kernel, by decide +kernel⟩, List.mem_of_getElem? (i := 541) (by decide +kernel), List.mem_of_getElem? (i := 825) (by decide +kernel), List.mem_of_getElem? (i := 826) (by decide +kernel)⟩
theorem lw_p51 : lw_okq (⟨"EvenLoadsModel", "triesMoves", "(III)V"⟩, 15) := ⟨⟨by decide +kernel, by decide +kernel⟩, List.mem_of_getElem? (i := 541) (by decide +kernel), List.mem_of_getElem? (i := 849) (by decide +kernel), List.mem_of_getElem? (i := 850) (by decide +kernel)⟩
theorem lw_p52 : lw_okq (⟨"EvenLoadsModel", "loadsMove", "(III)V"⟩, 15) := ⟨⟨by decide +kernel, by decide +kernel⟩, List.mem_of_getElem? (i := 541) (by decide +kernel), List.mem_of_getElem? (i := 853) (by decide +kernel), List.mem_of_getElem? (i := 854) (by decide +kernel)⟩
theorem lw_p53 : lw_okq (⟨"EvenLoadsModel", "areBelow", "(I)Z"⟩, 15) := ⟨⟨by decide +kernel, by decide +kernel⟩, List.mem_of_getElem? (i := 541) (by decide +kernel), List.mem_of_getElem? (i := 857) (by decide +kernel), List.mem_of_getElem? (i := 858) (by decide +kernel)⟩
def lw_privs_4 : List (MethodName × Nat) := [(⟨"EvenLoadsModel", "layBack", "()V"⟩, 15), (⟨"EvenLoadsModel", "manyOn", "(I)I"⟩, 15), (⟨"EvenLoadsModel", "jobsOn", "(I)I"⟩, 15), (⟨"EvenLoadsModel", "triesMoves", "(III)V"⟩, 15), (⟨"EvenLoadsModel", "loadsMove", "(III)V"⟩, 15), (⟨"EvenLoadsModel", "areBelow", "(I)Z"⟩, 15)]
theorem lw_r4 : ∀ q ∈ lw_privs_4, lw_okq q := List.forall_mem_cons.mpr ⟨lw_p48, List.forall_mem_cons.mpr ⟨lw_p49, List.forall_mem_cons.mpr ⟨lw_p50, List.forall_mem_cons.mpr ⟨lw_p51, List.forall_mem_cons.mpr ⟨lw_p52, List.forall_mem_cons.mpr ⟨lw_p53, fun _ h => absurd h List.not_mem_nil⟩⟩⟩⟩⟩⟩
def lw_privs : List (MethodName × Nat) := lw_privs_1 ++ (lw_privs_2 ++ (lw_privs_3 ++ (lw_privs_4)))
def lw_tbl : List Cond := k2_sels lw_privs ++ tables_1
theorem lw_privs_ok : ∀ q ∈ lw_privs, lw_okq q := by
  show ∀ q ∈ lw_privs_1 ++ (lw_privs_2 ++ (lw_privs_3 ++ (lw_privs_4))), lw_okq q
  exact List.forall_mem_append.mpr ⟨lw_r1, List.forall_mem_append.mpr ⟨lw_r2, List.forall_mem_append.mpr ⟨lw_r3, lw_r4⟩⟩⟩
-- ===== end of PART A; then your names; then what follows =====
def wsL_law_r1 : List Cond := [Cond.classLink RL 7 RX4, Cond.instantiable RX4 6, Cond.initialized RX4, Cond.classLink RL 10 RX5, Cond.instantiable RX5 15, Cond.initialized RX5, Cond.methodLink RL 9 yX4_init, Cond.instanceMethod yX4_init, Cond.code yX4_init cX4_init 1 none, Cond.methodLink RX4 1 objectInit, Cond.instanceMethod objectInit, Cond.code objectInit ⟨#[0xb1]⟩ 1 none, Cond.classLink RX4 7 RX0, Cond.instantiable RX0 13, Cond.initialized RX0, Cond.fieldLink RX4 10 "EvenLoads" "now" "LEvenLoads$Cluster;", Cond.fieldLink RX4 16 "EvenLoads" "before" "LEvenLoads$Cluster;", Cond.fieldLink RX4 19 "EvenLoads" "trial" "LEvenLoads$Cluster;", Cond.classLink RX4 22 RX1, Cond.instantiable RX1 3, Cond.initialized RX1, Cond.fieldLink RX4 25 "EvenLoads" "history" "LEvenLoads$History;", Cond.classLink RX4 29 RX3, Cond.instantiable RX3 5]
def wsL_law_r2 : List Cond := [Cond.initialized RX3, Cond.fieldLink RX4 32 "EvenLoads" "next" "LEvenLoads$Step;", Cond.classLink RX4 36 RX2, Cond.instantiable RX2 8, Cond.initialized RX2, Cond.fieldLink RX4 39 "EvenLoads" "program" "LEvenLoads$Program;", Cond.instanceMethod yX0_init, Cond.code yX0_init cX0_init 1 none, Cond.methodLink RX0 3 objectInit, Cond.arrayClass .int, Cond.fieldLink RX0 9 "EvenLoads$Cluster" "sizes" "[I", Cond.fieldLink RX0 15 "EvenLoads$Cluster" "prices" "[I", Cond.fieldLink RX0 18 "EvenLoads$Cluster" "places" "[I", Cond.fieldLink RX0 21 "EvenLoads$Cluster" "moved" "[I", Cond.fieldLink RX0 24 "EvenLoads$Cluster" "loads" "[I", Cond.fieldLink RX0 27 "EvenLoads$Cluster" "opened" "[I", Cond.fieldLink RX0 30 "EvenLoads$Cluster" "servers" "I", Cond.fieldLink RX0 34 "EvenLoads$Cluster" "openServers" "I", Cond.fieldLink RX0 37 "EvenLoads$Cluster" "jobs" "I", Cond.fieldLink RX0 40 "EvenLoads$Cluster" "sum" "I", Cond.fieldLink RX0 43 "EvenLoads$Cluster" "budget" "I", Cond.fieldLink RX0 46 "EvenLoads$Cluster" "factor" "I", Cond.fieldLink RX0 49 "EvenLoads$Cluster" "moves" "I", Cond.methodLink RX4 24 yX1_init]
def wsL_law_r3 : List Cond := [Cond.instanceMethod yX1_init, Cond.code yX1_init cX1_init 2 none, Cond.methodLink RX1 3 objectInit, Cond.classLink RX1 9 RX0, Cond.fieldLink RX1 11 "EvenLoads$History" "states" "[LEvenLoads$Cluster;", Cond.fieldLink RX1 17 "EvenLoads$History" "depth" "I", Cond.fieldLink RX1 21 "EvenLoads$History" "free" "I", Cond.instanceMethod yX3_init, Cond.code yX3_init cX3_init 1 none, Cond.methodLink RX3 3 objectInit, Cond.fieldLink RX3 9 "EvenLoads$Step" "job" "I", Cond.fieldLink RX3 15 "EvenLoads$Step" "goal" "I", Cond.fieldLink RX3 18 "EvenLoads$Step" "other" "I", Cond.fieldLink RX3 21 "EvenLoads$Step" "price" "I", Cond.fieldLink RX3 24 "EvenLoads$Step" "greater" "I", Cond.instanceMethod yX2_init, Cond.code yX2_init cX2_init 1 none, Cond.methodLink RX2 3 objectInit, Cond.fieldLink RX2 9 "EvenLoads$Program" "signs" "[I", Cond.fieldLink RX2 15 "EvenLoads$Program" "length" "I", Cond.fieldLink RX2 19 "EvenLoads$Program" "letter" "I", Cond.fieldLink RX2 22 "EvenLoads$Program" "letterPlace" "I", Cond.fieldLink RX2 25 "EvenLoads$Program" "isOrderRead" "Z", Cond.fieldLink RX2 29 "EvenLoads$Program" "numbers" "[I"]
def wsL_law_r4 : List Cond := [Cond.fieldLink RX2 32 "EvenLoads$Program" "begun" "I", Cond.fieldLink RX2 35 "EvenLoads$Program" "digits" "I", Cond.methodLink RL 12 yX5_init, Cond.instanceMethod yX5_init, Cond.code yX5_init cX5_init 1 none, Cond.methodLink RX5 1 objectInit, Cond.fieldLink RX5 7 "EvenLoadsModel" "s" "[I", Cond.fieldLink RX5 13 "EvenLoadsModel" "past" "[I", Cond.fieldLink RX5 16 "EvenLoadsModel" "before" "[I", Cond.fieldLink RX5 19 "EvenLoadsModel" "text" "[I", Cond.fieldLink RX5 22 "EvenLoadsModel" "numbers" "[I", Cond.fieldLink RX5 25 "EvenLoadsModel" "loads" "[I", Cond.methodLink RL 13 yX4_addServer, Cond.instanceMethod yX4_addServer, Cond.selects RX4 yX4_addServer yX4_addServer, Cond.code yX4_addServer cX4_addServer 1 (some .int), Cond.methodLink RX4 43 yX0_copyFrom, Cond.instanceMethod yX0_copyFrom, Cond.selects RX0 yX0_copyFrom yX0_copyFrom, Cond.code yX0_copyFrom cX0_copyFrom 2 none, Cond.static yX4_copyRow, Cond.code yX4_copyRow cX4_copyRow 2 none, Cond.methodLink RX4 244 Lib.Math.min.name, Cond.static Lib.Math.min.name]
def wsL_law_r5 : List Cond := [Cond.initialized "java/lang/Math", Cond.code Lib.Math.min.name Lib.Math.min.code 2 (some .int), Cond.methodLink RX4 249 arraycopyName, Cond.native arraycopyName, Cond.static arraycopyName, Cond.initialized "java/lang/System", Cond.methodLink RX4 47 yX0_newServer, Cond.instanceMethod yX0_newServer, Cond.selects RX0 yX0_newServer yX0_newServer, Cond.code yX0_newServer cX0_newServer 1 (some .int), Cond.static yX4_put, Cond.code yX4_put cX4_put 3 none, Cond.methodLink RX4 51 yX4_recorded, Cond.instanceMethod yX4_recorded, Cond.selects RX4 yX4_recorded yX4_recorded, Cond.code yX4_recorded cX4_recorded 2 (some .int), Cond.methodLink RX4 209 yX1_keep, Cond.instanceMethod yX1_keep, Cond.selects RX1 yX1_keep yX1_keep, Cond.code yX1_keep cX1_keep 3 none, Cond.methodLink RX1 33 Lib.Math.min.name, Cond.methodLink RX1 25 yX1_stateAt, Cond.instanceMethod yX1_stateAt, Cond.selects RX1 yX1_stateAt yX1_stateAt]
def wsL_law_r6 : List Cond := [Cond.code yX1_stateAt cX1_stateAt 2 (some (.object "EvenLoads$Cluster")), Cond.methodLink RX1 29 yX0_copyFrom, Cond.methodLink RL 17 yX5_addServer, Cond.instanceMethod yX5_addServer, Cond.selects RX5 yX5_addServer yX5_addServer, Cond.code yX5_addServer cX5_addServer 1 (some .int), Cond.methodLink RX5 73 yX5_aside, Cond.instanceMethod yX5_aside, Cond.selects RX5 yX5_aside yX5_aside, Cond.code yX5_aside cX5_aside 2 none, Cond.methodLink RX5 76 yX5_acted, Cond.instanceMethod yX5_acted, Cond.selects RX5 yX5_acted yX5_acted, Cond.code yX5_acted cX5_acted 2 (some .int), Cond.methodLink RX5 32 yX5_keeps, Cond.instanceMethod yX5_keeps, Cond.selects RX5 yX5_keeps yX5_keeps, Cond.code yX5_keeps cX5_keeps 2 none, Cond.fieldLink RX5 28 "EvenLoadsModel" "kept" "I", Cond.methodLink RL 18 yX4_add, Cond.instanceMethod yX4_add, Cond.selects RX4 yX4_add yX4_add, Cond.code yX4_add cX4_add 4 (some .int), Cond.methodLink RX4 55 yX0_newJob]
def wsL_law_r7 : List Cond := [Cond.instanceMethod yX0_newJob, Cond.selects RX0 yX0_newJob yX0_newJob, Cond.code yX0_newJob cX0_newJob 6 (some .int), Cond.methodLink RX0 60 yX0_hasServer, Cond.instanceMethod yX0_hasServer, Cond.selects RX0 yX0_hasServer yX0_hasServer, Cond.code yX0_hasServer cX0_hasServer 2 (some .boolean), Cond.methodLink RX0 64 yX0_isOpen, Cond.instanceMethod yX0_isOpen, Cond.selects RX0 yX0_isOpen yX0_isOpen, Cond.code yX0_isOpen cX0_isOpen 2 (some .boolean), Cond.static yX4_at, Cond.code yX4_at cX4_at 2 (some .int), Cond.methodLink RL 22 yX5_add, Cond.instanceMethod yX5_add, Cond.selects RX5 yX5_add yX5_add, Cond.code yX5_add cX5_add 4 (some .int), Cond.methodLink RX5 82 yX5_adds, Cond.instanceMethod yX5_adds, Cond.selects RX5 yX5_adds yX5_adds, Cond.code yX5_adds cX5_adds 5 (some .int), Cond.methodLink RX5 35 yX5_in, Cond.static yX5_in, Cond.code yX5_in cX5_in 3 (some .boolean)]
def wsL_law_r8 : List Cond := [Cond.methodLink RX5 39 yX5_isServer, Cond.instanceMethod yX5_isServer, Cond.selects RX5 yX5_isServer yX5_isServer, Cond.code yX5_isServer cX5_isServer 2 (some .boolean), Cond.methodLink RX5 79 yX5_isOpen, Cond.instanceMethod yX5_isOpen, Cond.selects RX5 yX5_isOpen yX5_isOpen, Cond.code yX5_isOpen cX5_isOpen 2 (some .boolean), Cond.methodLink RL 23 yX4_finish, Cond.instanceMethod yX4_finish, Cond.selects RX4 yX4_finish yX4_finish, Cond.code yX4_finish cX4_finish 2 (some .int), Cond.methodLink RX4 59 yX0_endJob, Cond.instanceMethod yX0_endJob, Cond.selects RX0 yX0_endJob yX0_endJob, Cond.code yX0_endJob cX0_endJob 3 (some .int), Cond.methodLink RX0 71 yX0_hasJob, Cond.instanceMethod yX0_hasJob, Cond.selects RX0 yX0_hasJob yX0_hasJob, Cond.code yX0_hasJob cX0_hasJob 2 (some .boolean), Cond.methodLink RX0 74 yX0_isFinished, Cond.instanceMethod yX0_isFinished, Cond.selects RX0 yX0_isFinished yX0_isFinished, Cond.code yX0_isFinished cX0_isFinished 2 (some .boolean)]
def wsL_law_r9 : List Cond := [Cond.methodLink RL 27 yX5_finish, Cond.instanceMethod yX5_finish, Cond.selects RX5 yX5_finish yX5_finish, Cond.code yX5_finish cX5_finish 2 (some .int), Cond.methodLink RX5 89 yX5_finishes, Cond.instanceMethod yX5_finishes, Cond.selects RX5 yX5_finishes yX5_finishes, Cond.code yX5_finishes cX5_finishes 3 (some .int), Cond.methodLink RX5 86 yX5_isJob, Cond.instanceMethod yX5_isJob, Cond.selects RX5 yX5_isJob yX5_isJob, Cond.code yX5_isJob cX5_isJob 2 (some .boolean), Cond.methodLink RX5 43 yX5_of, Cond.instanceMethod yX5_of, Cond.selects RX5 yX5_of yX5_of, Cond.code yX5_of cX5_of 3 (some .int), Cond.methodLink RX5 50 yX5_load, Cond.instanceMethod yX5_load, Cond.selects RX5 yX5_load yX5_load, Cond.code yX5_load cX5_load 4 (some .int), Cond.methodLink RL 28 yX4_setBudget, Cond.instanceMethod yX4_setBudget, Cond.selects RX4 yX4_setBudget yX4_setBudget, Cond.code yX4_setBudget cX4_setBudget 2 (some .int)]
def wsL_law_r10 : List Cond := [Cond.methodLink RX4 62 yX0_changeBudget, Cond.instanceMethod yX0_changeBudget, Cond.selects RX0 yX0_changeBudget yX0_changeBudget, Cond.code yX0_changeBudget cX0_changeBudget 3 (some .int), Cond.methodLink RL 31 yX5_setBudget, Cond.instanceMethod yX5_setBudget, Cond.selects RX5 yX5_setBudget yX5_setBudget, Cond.code yX5_setBudget cX5_setBudget 3 (some .int), Cond.methodLink RL 32 yX4_setFactor, Cond.instanceMethod yX4_setFactor, Cond.selects RX4 yX4_setFactor yX4_setFactor, Cond.code yX4_setFactor cX4_setFactor 2 (some .int), Cond.methodLink RX4 65 yX0_changeFactor, Cond.instanceMethod yX0_changeFactor, Cond.selects RX0 yX0_changeFactor yX0_changeFactor, Cond.code yX0_changeFactor cX0_changeFactor 2 (some .int), Cond.methodLink RX0 77 yX0_target, Cond.instanceMethod yX0_target, Cond.selects RX0 yX0_target yX0_target, Cond.code yX0_target cX0_target 1 (some .int), Cond.methodLink RX0 132 yX0_bound, Cond.instanceMethod yX0_bound, Cond.selects RX0 yX0_bound yX0_bound, Cond.code yX0_bound cX0_bound 3 (some .int)]
def wsL_law_r11 : List Cond := [Cond.methodLink RX0 127 Lib.Math.max.name, Cond.static Lib.Math.max.name, Cond.code Lib.Math.max.name Lib.Math.max.code 2 (some .int), Cond.methodLink RL 35 yX5_setFactor, Cond.instanceMethod yX5_setFactor, Cond.selects RX5 yX5_setFactor yX5_setFactor, Cond.code yX5_setFactor cX5_setFactor 2 (some .int), Cond.methodLink RX5 70 yX5_target, Cond.instanceMethod yX5_target, Cond.selects RX5 yX5_target yX5_target, Cond.code yX5_target cX5_target 1 (some .int), Cond.methodLink RX5 64 yX5_bound, Cond.instanceMethod yX5_bound, Cond.selects RX5 yX5_bound yX5_bound, Cond.code yX5_bound cX5_bound 3 (some .int), Cond.methodLink RX5 47 yX5_isDone, Cond.instanceMethod yX5_isDone, Cond.selects RX5 yX5_isDone yX5_isDone, Cond.code yX5_isDone cX5_isDone 2 (some .boolean), Cond.methodLink RX5 54 yX5_greater, Cond.static yX5_greater, Cond.code yX5_greater cX5_greater 2 (some .int), Cond.methodLink RX5 57 yX5_opens, Cond.instanceMethod yX5_opens]
def wsL_law_r12 : List Cond := [Cond.selects RX5 yX5_opens yX5_opens, Cond.code yX5_opens cX5_opens 3 (some .int), Cond.methodLink RX5 61 yX5_allLoads, Cond.instanceMethod yX5_allLoads, Cond.selects RX5 yX5_allLoads yX5_allLoads, Cond.code yX5_allLoads cX5_allLoads 3 (some .int), Cond.methodLink RL 36 yX4_move, Cond.instanceMethod yX4_move, Cond.selects RX4 yX4_move yX4_move, Cond.code yX4_move cX4_move 3 (some .int), Cond.methodLink RX4 68 yX0_moveJob, Cond.instanceMethod yX0_moveJob, Cond.selects RX0 yX0_moveJob yX0_moveJob, Cond.code yX0_moveJob cX0_moveJob 3 (some .int), Cond.methodLink RX0 81 yX0_takeTo, Cond.instanceMethod yX0_takeTo, Cond.selects RX0 yX0_takeTo yX0_takeTo, Cond.code yX0_takeTo cX0_takeTo 3 none, Cond.methodLink RX0 114 yX0_shiftLoad, Cond.instanceMethod yX0_shiftLoad, Cond.selects RX0 yX0_shiftLoad yX0_shiftLoad, Cond.code yX0_shiftLoad cX0_shiftLoad 4 none, Cond.methodLink RX0 85 yX0_greatestLoad, Cond.instanceMethod yX0_greatestLoad]
def wsL_law_r13 : List Cond := [Cond.selects RX0 yX0_greatestLoad yX0_greatestLoad, Cond.code yX0_greatestLoad cX0_greatestLoad 1 (some .int), Cond.methodLink RX0 124 yX0_fullestServer, Cond.instanceMethod yX0_fullestServer, Cond.selects RX0 yX0_fullestServer yX0_fullestServer, Cond.code yX0_fullestServer cX0_fullestServer 4 (some .int), Cond.methodLink RL 40 yX5_move, Cond.instanceMethod yX5_move, Cond.selects RX5 yX5_move yX5_move, Cond.code yX5_move cX5_move 3 (some .int), Cond.methodLink RX5 96 yX5_moves, Cond.instanceMethod yX5_moves, Cond.selects RX5 yX5_moves yX5_moves, Cond.code yX5_moves cX5_moves 3 (some .int), Cond.methodLink RX5 92 yX5_goes, Cond.instanceMethod yX5_goes, Cond.selects RX5 yX5_goes yX5_goes, Cond.code yX5_goes cX5_goes 3 none, Cond.methodLink RX5 67 yX5_greatest, Cond.instanceMethod yX5_greatest, Cond.selects RX5 yX5_greatest yX5_greatest, Cond.code yX5_greatest cX5_greatest 3 (some .int), Cond.methodLink RL 41 yX4_exchange, Cond.instanceMethod yX4_exchange]
def wsL_law_r14 : List Cond := [Cond.selects RX4 yX4_exchange yX4_exchange, Cond.code yX4_exchange cX4_exchange 3 (some .int), Cond.methodLink RX4 72 yX0_exchangeJobs, Cond.instanceMethod yX0_exchangeJobs, Cond.selects RX0 yX0_exchangeJobs yX0_exchangeJobs, Cond.code yX0_exchangeJobs cX0_exchangeJobs 4 (some .int), Cond.methodLink RX0 88 yX0_areApart, Cond.instanceMethod yX0_areApart, Cond.selects RX0 yX0_areApart yX0_areApart, Cond.code yX0_areApart cX0_areApart 3 (some .boolean), Cond.methodLink RL 44 yX5_exchange, Cond.instanceMethod yX5_exchange, Cond.selects RX5 yX5_exchange yX5_exchange, Cond.code yX5_exchange cX5_exchange 3 (some .int), Cond.methodLink RX5 99 yX5_exchanges, Cond.instanceMethod yX5_exchanges, Cond.selects RX5 yX5_exchanges yX5_exchanges, Cond.code yX5_exchanges cX5_exchanges 5 (some .int), Cond.methodLink RL 45 yX4_ring, Cond.instanceMethod yX4_ring, Cond.selects RX4 yX4_ring yX4_ring, Cond.code yX4_ring cX4_ring 4 (some .int), Cond.methodLink RX4 75 yX0_moveRing, Cond.instanceMethod yX0_moveRing]
def wsL_law_r15 : List Cond := [Cond.selects RX0 yX0_moveRing yX0_moveRing, Cond.code yX0_moveRing cX0_moveRing 5 (some .int), Cond.methodLink RL 48 yX5_ring, Cond.instanceMethod yX5_ring, Cond.selects RX5 yX5_ring yX5_ring, Cond.code yX5_ring cX5_ring 4 (some .int), Cond.methodLink RX5 102 yX5_rings, Cond.instanceMethod yX5_rings, Cond.selects RX5 yX5_rings yX5_rings, Cond.code yX5_rings cX5_rings 8 (some .int), Cond.methodLink RL 49 yX4_even, Cond.instanceMethod yX4_even, Cond.selects RX4 yX4_even yX4_even, Cond.code yX4_even cX4_even 2 (some .int), Cond.methodLink RX4 78 yX3_walk, Cond.instanceMethod yX3_walk, Cond.selects RX3 yX3_walk yX3_walk, Cond.code yX3_walk cX3_walk 6 (some .int), Cond.methodLink RX3 27 yX0_target, Cond.methodLink RX3 33 yX3_choose, Cond.instanceMethod yX3_choose, Cond.selects RX3 yX3_choose yX3_choose, Cond.code yX3_choose cX3_choose 4 (some .boolean), Cond.methodLink RX3 49 yX0_fullestServer]
def wsL_law_r16 : List Cond := [Cond.methodLink RX3 55 yX3_chooseMove, Cond.instanceMethod yX3_chooseMove, Cond.selects RX3 yX3_chooseMove yX3_chooseMove, Cond.code yX3_chooseMove cX3_chooseMove 8 none, Cond.methodLink RX3 85 Lib.Math.max.name, Cond.methodLink RX3 69 yX3_startBelow, Cond.instanceMethod yX3_startBelow, Cond.selects RX3 yX3_startBelow yX3_startBelow, Cond.code yX3_startBelow cX3_startBelow 2 none, Cond.methodLink RX3 94 yX3_offer, Cond.instanceMethod yX3_offer, Cond.selects RX3 yX3_offer yX3_offer, Cond.code yX3_offer cX3_offer 7 none, Cond.methodLink RX3 59 yX3_isPossible, Cond.instanceMethod yX3_isPossible, Cond.selects RX3 yX3_isPossible yX3_isPossible, Cond.code yX3_isPossible cX3_isPossible 2 (some .boolean), Cond.methodLink RX3 63 yX3_chooseExchange, Cond.instanceMethod yX3_chooseExchange, Cond.selects RX3 yX3_chooseExchange yX3_chooseExchange, Cond.code yX3_chooseExchange cX3_chooseExchange 10 none, Cond.methodLink RX3 45 yX0_takeTo, Cond.methodLink RL 52 yX5_even, Cond.instanceMethod yX5_even]
def wsL_law_r17 : List Cond := [Cond.selects RX5 yX5_even yX5_even, Cond.code yX5_even cX5_even 2 (some .int), Cond.methodLink RX5 142 yX5_evensBy, Cond.instanceMethod yX5_evensBy, Cond.selects RX5 yX5_evensBy yX5_evensBy, Cond.code yX5_evensBy cX5_evensBy 2 (some .int), Cond.methodLink RX5 139 yX5_evens, Cond.instanceMethod yX5_evens, Cond.selects RX5 yX5_evens yX5_evens, Cond.code yX5_evens cX5_evens 4 (some .int), Cond.fieldLink RX5 117 "EvenLoadsModel" "stepOther" "I", Cond.fieldLink RX5 107 "EvenLoadsModel" "stepJob" "I", Cond.fieldLink RX5 114 "EvenLoadsModel" "stepServer" "I", Cond.methodLink RX5 136 yX5_findsStep, Cond.instanceMethod yX5_findsStep, Cond.selects RX5 yX5_findsStep yX5_findsStep, Cond.code yX5_findsStep cX5_findsStep 2 (some .boolean), Cond.methodLink RX5 123 yX5_areEven, Cond.instanceMethod yX5_areEven, Cond.selects RX5 yX5_areEven yX5_areEven, Cond.code yX5_areEven cX5_areEven 1 (some .boolean), Cond.methodLink RX5 127 yX5_full, Cond.instanceMethod yX5_full, Cond.selects RX5 yX5_full yX5_full]
def wsL_law_r18 : List Cond := [Cond.code yX5_full cX5_full 3 (some .int), Cond.methodLink RX5 130 yX5_findsMove, Cond.instanceMethod yX5_findsMove, Cond.selects RX5 yX5_findsMove yX5_findsMove, Cond.code yX5_findsMove cX5_findsMove 9 (some .boolean), Cond.constantLong RX5 105 (100000000), Cond.constantLong RX5 110 (10000), Cond.constantLong RX5 112 (100), Cond.fieldLink RX5 120 "EvenLoadsModel" "stepPrice" "I", Cond.methodLink RX5 133 yX5_findsExchange, Cond.instanceMethod yX5_findsExchange, Cond.selects RX5 yX5_findsExchange yX5_findsExchange, Cond.code yX5_findsExchange cX5_findsExchange 12 (some .boolean), Cond.methodLink RL 53 yX4_close, Cond.instanceMethod yX4_close, Cond.selects RX4 yX4_close yX4_close, Cond.code yX4_close cX4_close 2 (some .int), Cond.methodLink RX4 82 yX0_closeServer, Cond.instanceMethod yX0_closeServer, Cond.selects RX0 yX0_closeServer yX0_closeServer, Cond.code yX0_closeServer cX0_closeServer 2 (some .int), Cond.methodLink RX0 92 yX0_priceOfAll, Cond.instanceMethod yX0_priceOfAll, Cond.selects RX0 yX0_priceOfAll yX0_priceOfAll]
def wsL_law_r19 : List Cond := [Cond.code yX0_priceOfAll cX0_priceOfAll 4 (some .int), Cond.methodLink RX0 96 yX0_closeAndEmpty, Cond.instanceMethod yX0_closeAndEmpty, Cond.selects RX0 yX0_closeAndEmpty yX0_closeAndEmpty, Cond.code yX0_closeAndEmpty cX0_closeAndEmpty 4 (some .int), Cond.methodLink RX0 99 yX0_jobsOn, Cond.instanceMethod yX0_jobsOn, Cond.selects RX0 yX0_jobsOn yX0_jobsOn, Cond.code yX0_jobsOn cX0_jobsOn 4 (some .int), Cond.methodLink RX0 102 yJ6_bitCount_0f7a4, Cond.static yJ6_bitCount_0f7a4, Cond.initialized RJ6, Cond.code yJ6_bitCount_0f7a4 cJ6_bitCount_0f7a4 1 (some .int), Cond.constant RJ6 265 (1431655765), Cond.constant RJ6 266 (858993459), Cond.constant RJ6 267 (252645135), Cond.methodLink RX0 107 yX0_leavingJob, Cond.instanceMethod yX0_leavingJob, Cond.selects RX0 yX0_leavingJob yX0_leavingJob, Cond.code yX0_leavingJob cX0_leavingJob 4 (some .int), Cond.methodLink RX0 118 yX0_jobsLeavingBefore, Cond.instanceMethod yX0_jobsLeavingBefore, Cond.selects RX0 yX0_jobsLeavingBefore yX0_jobsLeavingBefore, Cond.code yX0_jobsLeavingBefore cX0_jobsLeavingBefore 4 (some .int)]
def wsL_law_r20 : List Cond := [Cond.methodLink RX0 121 yX0_leavesBefore, Cond.instanceMethod yX0_leavesBefore, Cond.selects RX0 yX0_leavesBefore yX0_leavesBefore, Cond.code yX0_leavesBefore cX0_leavesBefore 3 (some .boolean), Cond.methodLink RX0 111 yX0_emptiestServer, Cond.instanceMethod yX0_emptiestServer, Cond.selects RX0 yX0_emptiestServer yX0_emptiestServer, Cond.code yX0_emptiestServer cX0_emptiestServer 4 (some .int), Cond.methodLink RL 56 yX5_close, Cond.instanceMethod yX5_close, Cond.selects RX5 yX5_close yX5_close, Cond.code yX5_close cX5_close 2 (some .int), Cond.methodLink RX5 154 yX5_closes, Cond.instanceMethod yX5_closes, Cond.selects RX5 yX5_closes yX5_closes, Cond.code yX5_closes cX5_closes 4 (some .int), Cond.methodLink RX5 151 yX5_empties, Cond.instanceMethod yX5_empties, Cond.selects RX5 yX5_empties yX5_empties, Cond.code yX5_empties cX5_empties 4 (some .int), Cond.methodLink RX5 145 yX5_leaver, Cond.instanceMethod yX5_leaver, Cond.selects RX5 yX5_leaver yX5_leaver, Cond.code yX5_leaver cX5_leaver 6 (some .int)]
def wsL_law_r21 : List Cond := [Cond.methodLink RX5 148 yX5_emptiest, Cond.instanceMethod yX5_emptiest, Cond.selects RX5 yX5_emptiest yX5_emptiest, Cond.code yX5_emptiest cX5_emptiest 3 (some .int), Cond.methodLink RL 57 yX4_open, Cond.instanceMethod yX4_open, Cond.selects RX4 yX4_open yX4_open, Cond.code yX4_open cX4_open 2 (some .int), Cond.methodLink RX4 85 yX0_openServer, Cond.instanceMethod yX0_openServer, Cond.selects RX0 yX0_openServer yX0_openServer, Cond.code yX0_openServer cX0_openServer 2 (some .int), Cond.methodLink RL 60 yX5_open, Cond.instanceMethod yX5_open, Cond.selects RX5 yX5_open yX5_open, Cond.code yX5_open cX5_open 2 (some .int), Cond.methodLink RL 61 yX4_undo, Cond.instanceMethod yX4_undo, Cond.selects RX4 yX4_undo yX4_undo, Cond.code yX4_undo cX4_undo 1 (some .int), Cond.methodLink RX4 88 yX1_takeLatest, Cond.instanceMethod yX1_takeLatest, Cond.selects RX1 yX1_takeLatest yX1_takeLatest, Cond.code yX1_takeLatest cX1_takeLatest 4 (some .boolean)]
def wsL_law_r22 : List Cond := [Cond.methodLink RL 64 yX5_undo, Cond.instanceMethod yX5_undo, Cond.selects RX5 yX5_undo yX5_undo, Cond.code yX5_undo cX5_undo 2 (some .int), Cond.methodLink RL 65 yX4_append, Cond.instanceMethod yX4_append, Cond.selects RX4 yX4_append yX4_append, Cond.code yX4_append cX4_append 2 (some .int), Cond.methodLink RX4 96 yX2_addSign, Cond.instanceMethod yX2_addSign, Cond.selects RX2 yX2_addSign yX2_addSign, Cond.code yX2_addSign cX2_addSign 2 (some .int), Cond.methodLink RL 68 yX5_append, Cond.instanceMethod yX5_append, Cond.selects RX5 yX5_append yX5_append, Cond.code yX5_append cX5_append 2 (some .int), Cond.fieldLink RX5 157 "EvenLoadsModel" "typed" "I", Cond.methodLink RL 69 yX4_clearText, Cond.instanceMethod yX4_clearText, Cond.selects RX4 yX4_clearText yX4_clearText, Cond.code yX4_clearText cX4_clearText 2 (some .int), Cond.methodLink RL 72 yX5_clearText, Cond.instanceMethod yX5_clearText, Cond.selects RX5 yX5_clearText yX5_clearText]
def wsL_law_r23 : List Cond := [Cond.code yX5_clearText cX5_clearText 2 (some .int), Cond.methodLink RL 73 yX4_run, Cond.instanceMethod yX4_run, Cond.selects RX4 yX4_run yX4_run, Cond.code yX4_run cX4_run 2 (some .int), Cond.methodLink RX4 102 yX4_runOrders, Cond.instanceMethod yX4_runOrders, Cond.selects RX4 yX4_runOrders yX4_runOrders, Cond.code yX4_runOrders cX4_runOrders 4 (some .int), Cond.methodLink RX4 212 yX2_startReading, Cond.instanceMethod yX2_startReading, Cond.selects RX2 yX2_startReading yX2_startReading, Cond.code yX2_startReading cX2_startReading 1 none, Cond.methodLink RX4 215 yX2_read, Cond.instanceMethod yX2_read, Cond.selects RX2 yX2_read yX2_read, Cond.code yX2_read cX2_read 3 (some .boolean), Cond.methodLink RX2 46 yX2_startReading, Cond.methodLink RX2 49 yX2_readLetter, Cond.instanceMethod yX2_readLetter, Cond.selects RX2 yX2_readLetter yX2_readLetter, Cond.code yX2_readLetter cX2_readLetter 3 (some .boolean), Cond.methodLink RX2 53 yX2_numbersOf, Cond.static yX2_numbersOf]
def wsL_law_r24 : List Cond := [Cond.code yX2_numbersOf cX2_numbersOf 1 (some .int), Cond.methodLink RX2 57 yX2_readDigit, Cond.instanceMethod yX2_readDigit, Cond.selects RX2 yX2_readDigit yX2_readDigit, Cond.code yX2_readDigit cX2_readDigit 3 (some .boolean), Cond.methodLink RX2 61 yX2_beginNumber, Cond.instanceMethod yX2_beginNumber, Cond.selects RX2 yX2_beginNumber yX2_beginNumber, Cond.code yX2_beginNumber cX2_beginNumber 2 (some .boolean), Cond.methodLink RX4 222 yX4_callOrder, Cond.instanceMethod yX4_callOrder, Cond.selects RX4 yX4_callOrder yX4_callOrder, Cond.code yX4_callOrder cX4_callOrder 4 (some .int), Cond.methodLink RX4 130 yX4_at, Cond.methodLink RX4 228 yX2_isInOrder, Cond.instanceMethod yX2_isInOrder, Cond.selects RX2 yX2_isInOrder yX2_isInOrder, Cond.code yX2_isInOrder cX2_isInOrder 1 (some .boolean), Cond.methodLink RL 76 yX5_run, Cond.instanceMethod yX5_run, Cond.selects RX5 yX5_run yX5_run, Cond.code yX5_run cX5_run 2 (some .int), Cond.fieldLink RX5 160 "EvenLoadsModel" "at" "I", Cond.fieldLink RX5 166 "EvenLoadsModel" "failing" "I"]
def wsL_law_r25 : List Cond := [Cond.methodLink RX5 172 yX5_skips, Cond.instanceMethod yX5_skips, Cond.selects RX5 yX5_skips yX5_skips, Cond.code yX5_skips cX5_skips 2 (some .int), Cond.methodLink RX5 163 yX5_look, Cond.instanceMethod yX5_look, Cond.selects RX5 yX5_look yX5_look, Cond.code yX5_look cX5_look 1 (some .int), Cond.methodLink RX5 182 yX5_order, Cond.instanceMethod yX5_order, Cond.selects RX5 yX5_order yX5_order, Cond.code yX5_order cX5_order 6 none, Cond.methodLink RX5 169 yX5_manyOf, Cond.static yX5_manyOf, Cond.code yX5_manyOf cX5_manyOf 1 (some .int), Cond.methodLink RX5 175 yX5_reads, Cond.instanceMethod yX5_reads, Cond.selects RX5 yX5_reads yX5_reads, Cond.code yX5_reads cX5_reads 4 none, Cond.methodLink RX5 179 yX5_does, Cond.instanceMethod yX5_does, Cond.selects RX5 yX5_does yX5_does, Cond.code yX5_does cX5_does 5 (some .int), Cond.methodLink RX5 185 yX5_layBack]
def wsL_law_r26 : List Cond := [Cond.instanceMethod yX5_layBack, Cond.selects RX5 yX5_layBack yX5_layBack, Cond.code yX5_layBack cX5_layBack 2 none, Cond.methodLink RL 77 yX4_count, Cond.instanceMethod yX4_count, Cond.selects RX4 yX4_count yX4_count, Cond.code yX4_count cX4_count 2 (some .int), Cond.methodLink RX4 114 yX0_finishedJobs, Cond.instanceMethod yX0_finishedJobs, Cond.selects RX0 yX0_finishedJobs yX0_finishedJobs, Cond.code yX0_finishedJobs cX0_finishedJobs 3 (some .int), Cond.methodLink RX4 120 yX0_greatestLoad, Cond.methodLink RX4 127 yX0_emptiestServer, Cond.methodLink RX4 134 yX0_bound, Cond.methodLink RX4 137 yX0_target, Cond.methodLink RX4 140 yX0_isEven, Cond.instanceMethod yX0_isEven, Cond.selects RX0 yX0_isEven yX0_isEven, Cond.code yX0_isEven cX0_isEven 1 (some .boolean), Cond.methodLink RL 80 yX5_count, Cond.instanceMethod yX5_count, Cond.selects RX5 yX5_count yX5_count, Cond.code yX5_count cX5_count 2 (some .int), Cond.methodLink RX5 188 yX5_manyOn]
def wsL_law_r27 : List Cond := [Cond.instanceMethod yX5_manyOn, Cond.selects RX5 yX5_manyOn yX5_manyOn, Cond.code yX5_manyOn cX5_manyOn 4 (some .int), Cond.methodLink RL 81 yX4_server, Cond.instanceMethod yX4_server, Cond.selects RX4 yX4_server yX4_server, Cond.code yX4_server cX4_server 3 (some .int), Cond.methodLink RX4 153 yX0_hasServer, Cond.methodLink RX4 157 yX0_isOpen, Cond.methodLink RX4 160 yX0_jobsOn, Cond.methodLink RX4 163 yJ6_bitCount_0f7a4, Cond.methodLink RL 84 yX5_server, Cond.instanceMethod yX5_server, Cond.selects RX5 yX5_server yX5_server, Cond.code yX5_server cX5_server 3 (some .int), Cond.methodLink RX5 191 yX5_jobsOn, Cond.instanceMethod yX5_jobsOn, Cond.selects RX5 yX5_jobsOn yX5_jobsOn, Cond.code yX5_jobsOn cX5_jobsOn 4 (some .int), Cond.methodLink RL 85 yX4_job, Cond.instanceMethod yX4_job, Cond.selects RX4 yX4_job yX4_job, Cond.code yX4_job cX4_job 3 (some .int), Cond.methodLink RX4 168 yX0_hasJob]
def wsL_law_r28 : List Cond := [Cond.methodLink RL 88 yX5_job, Cond.instanceMethod yX5_job, Cond.selects RX5 yX5_job yX5_job, Cond.code yX5_job cX5_job 3 (some .int), Cond.methodLink RL 89 yX4_leaving, Cond.instanceMethod yX4_leaving, Cond.selects RX4 yX4_leaving yX4_leaving, Cond.code yX4_leaving cX4_leaving 3 (some .int), Cond.methodLink RX4 183 yX0_leavingJob, Cond.methodLink RL 92 yX5_leaving, Cond.instanceMethod yX5_leaving, Cond.selects RX5 yX5_leaving yX5_leaving, Cond.code yX5_leaving cX5_leaving 6 (some .int), Cond.methodLink RL 93 yX4_step, Cond.instanceMethod yX4_step, Cond.selects RX4 yX4_step yX4_step, Cond.code yX4_step cX4_step 2 (some .int), Cond.methodLink RX4 186 yX3_choose, Cond.methodLink RL 96 yX5_step, Cond.instanceMethod yX5_step, Cond.selects RX5 yX5_step yX5_step, Cond.code yX5_step cX5_step 2 (some .int), Cond.methodLink RL 97 yX4_plan, Cond.instanceMethod yX4_plan]
def wsL_law_r29 : List Cond := [Cond.selects RX4 yX4_plan yX4_plan, Cond.code yX4_plan cX4_plan 3 (some .int), Cond.methodLink RL 100 yX5_plan, Cond.instanceMethod yX5_plan, Cond.selects RX5 yX5_plan yX5_plan, Cond.code yX5_plan cX5_plan 4 (some .int), Cond.methodLink RL 101 yX4_fewest, Cond.instanceMethod yX4_fewest, Cond.selects RX4 yX4_fewest yX4_fewest, Cond.code yX4_fewest cX4_fewest 5 (some .int), Cond.methodLink RX4 202 yX4_cheapest, Cond.static yX4_cheapest, Cond.code yX4_cheapest cX4_cheapest 11 (some .int), Cond.methodLink RX4 237 yX0_serversAbove, Cond.instanceMethod yX0_serversAbove, Cond.selects RX0 yX0_serversAbove yX0_serversAbove, Cond.code yX0_serversAbove cX0_serversAbove 4 (some .int), Cond.methodLink RX4 240 yX0_shiftLoad, Cond.methodLink RL 104 yX5_fewest, Cond.instanceMethod yX5_fewest, Cond.selects RX5 yX5_fewest yX5_fewest, Cond.code yX5_fewest cX5_fewest 7 (some .int), Cond.fieldLink RX5 201 "EvenLoadsModel" "cheapest" "I", Cond.methodLink RX5 204 yX5_triesMoves]
def wsL_law_r30 : List Cond := [Cond.instanceMethod yX5_triesMoves, Cond.selects RX5 yX5_triesMoves yX5_triesMoves, Cond.code yX5_triesMoves cX5_triesMoves 8 none, Cond.methodLink RX5 194 yX5_loadsMove, Cond.instanceMethod yX5_loadsMove, Cond.selects RX5 yX5_loadsMove yX5_loadsMove, Cond.code yX5_loadsMove cX5_loadsMove 4 none, Cond.methodLink RX5 198 yX5_areBelow, Cond.instanceMethod yX5_areBelow, Cond.selects RX5 yX5_areBelow yX5_areBelow, Cond.code yX5_areBelow cX5_areBelow 4 (some .boolean), Cond.methodLink RL 105 yX4_without, Cond.instanceMethod yX4_without, Cond.selects RX4 yX4_without yX4_without, Cond.code yX4_without cX4_without 2 (some .int), Cond.methodLink RX4 206 yX0_closeAndEmpty, Cond.methodLink RL 108 yX5_without, Cond.instanceMethod yX5_without, Cond.selects RX5 yX5_without yX5_without, Cond.code yX5_without cX5_without 4 (some .int)]
def wsL_law : List Cond := (wsL_law_r1 ++ (wsL_law_r2 ++ (wsL_law_r3 ++ (wsL_law_r4 ++ (wsL_law_r5 ++ (wsL_law_r6 ++ (wsL_law_r7 ++ (wsL_law_r8 ++ (wsL_law_r9 ++ (wsL_law_r10 ++ (wsL_law_r11 ++ (wsL_law_r12 ++ (wsL_law_r13 ++ (wsL_law_r14 ++ (wsL_law_r15 ++ (wsL_law_r16 ++ (wsL_law_r17 ++ (wsL_law_r18 ++ (wsL_law_r19 ++ (wsL_law_r20 ++ (wsL_law_r21 ++ (wsL_law_r22 ++ (wsL_law_r23 ++ (wsL_law_r24 ++ (wsL_law_r25 ++ (wsL_law_r26 ++ (wsL_law_r27 ++ (wsL_law_r28 ++ (wsL_law_r29 ++ wsL_law_r30))))))))))))))))))))))))))))) ++ wsX40 ++ wsX50 ++ wsX00 ++ wsX10 ++ wsX30 ++ wsX20 ++ ([] : List Cond)
set_option maxRecDepth 20000 in
theorem wsL_law_r1_in : GoodIn lw_tbl wsL_law_r1 := goodIn_r _ [64, 65, 55, 594, 595, 60, 66, 67, 68, 69, 70, 71, 72, 73, 56, 221, 222, 223, 139, 140, 57, 224, 159, 160] (by decide +kernel) (by decide +kernel)
set_option maxRecDepth 20000 in
theorem wsL_law_r2_in : GoodIn lw_tbl wsL_law_r2 := goodIn_r _ [58, 225, 185, 186, 59, 226, 75, 76, 77, 138, 78, 81, 84, 87, 89, 92, 94, 97, 99, 102, 104, 107, 109, 141] (by decide +kernel) (by decide +kernel)
set_option maxRecDepth 20000 in
theorem wsL_law_r3_in : GoodIn lw_tbl wsL_law_r3 := goodIn_r _ [142, 143, 144, 145, 148, 149, 151, 162, 163, 164, 165, 167, 169, 171, 173, 188, 189, 190, 191, 192, 194, 196, 198, 200] (by decide +kernel) (by decide +kernel)
set_option maxRecDepth 20000 in
theorem wsL_law_r4_in : GoodIn lw_tbl wsL_law_r4 := goodIn_r _ [202, 203, 596, 597, 598, 599, 600, 601, 602, 608, 612, 613, 240, 241, 242, 243, 244, 245, 246, 247, 249, 250, 251, 252] (by decide +kernel) (by decide +kernel)
set_option maxRecDepth 20000 in
theorem wsL_law_r5_in : GoodIn lw_tbl wsL_law_r5 := goodIn_r _ [61, 253, 254, 256, 255, 62, 257, 258, 259, 260, 262, 263, 264, 266, 0, 267, 268, 269, 270, 271, 277, 272, 274, 1] (by decide +kernel) (by decide +kernel)
set_option maxRecDepth 20000 in
theorem wsL_law_r6_in : GoodIn lw_tbl wsL_law_r6 := goodIn_r _ [275, 276, 650, 651, 652, 653, 654, 656, 12, 657, 658, 660, 13, 661, 662, 664, 14, 665, 603, 278, 279, 280, 281, 282] (by decide +kernel) (by decide +kernel)
set_option maxRecDepth 20000 in
theorem wsL_law_r7_in : GoodIn lw_tbl wsL_law_r7 := goodIn_r _ [283, 284, 285, 286, 287, 288, 289, 290, 291, 292, 293, 295, 296, 666, 667, 668, 669, 670, 672, 15, 673, 674, 675, 676] (by decide +kernel) (by decide +kernel)
set_option maxRecDepth 20000 in
theorem wsL_law_r8_in : GoodIn lw_tbl wsL_law_r8 := goodIn_r _ [677, 679, 16, 680, 681, 683, 17, 684, 297, 298, 299, 300, 301, 302, 303, 304, 305, 306, 307, 308, 309, 310, 311, 312] (by decide +kernel) (by decide +kernel)
set_option maxRecDepth 20000 in
theorem wsL_law_r9_in : GoodIn lw_tbl wsL_law_r9 := goodIn_r _ [685, 686, 687, 688, 689, 691, 18, 692, 693, 695, 19, 696, 697, 699, 20, 700, 701, 703, 21, 704, 313, 314, 315, 316] (by decide +kernel) (by decide +kernel)
set_option maxRecDepth 20000 in
theorem wsL_law_r10_in : GoodIn lw_tbl wsL_law_r10 := goodIn_r _ [317, 318, 319, 320, 705, 706, 707, 708, 321, 322, 323, 324, 325, 326, 327, 328, 329, 330, 331, 332, 333, 334, 335, 336] (by decide +kernel) (by decide +kernel)
set_option maxRecDepth 20000 in
theorem wsL_law_r11_in : GoodIn lw_tbl wsL_law_r11 := goodIn_r _ [337, 338, 339, 709, 710, 711, 712, 713, 715, 22, 716, 717, 719, 23, 720, 721, 723, 24, 724, 725, 726, 727, 728, 730] (by decide +kernel) (by decide +kernel)
set_option maxRecDepth 20000 in
theorem wsL_law_r12_in : GoodIn lw_tbl wsL_law_r12 := goodIn_r _ [25, 731, 732, 734, 26, 735, 340, 341, 342, 343, 344, 345, 346, 347, 348, 349, 350, 351, 352, 353, 354, 355, 356, 357] (by decide +kernel) (by decide +kernel)
set_option maxRecDepth 20000 in
theorem wsL_law_r13_in : GoodIn lw_tbl wsL_law_r13 := goodIn_r _ [358, 359, 360, 361, 362, 363, 736, 737, 738, 739, 740, 742, 27, 743, 744, 746, 28, 747, 748, 750, 29, 751, 364, 365] (by decide +kernel) (by decide +kernel)
set_option maxRecDepth 20000 in
theorem wsL_law_r14_in : GoodIn lw_tbl wsL_law_r14 := goodIn_r _ [366, 367, 368, 369, 370, 371, 372, 373, 374, 375, 752, 753, 754, 755, 756, 758, 30, 759, 376, 377, 378, 379, 380, 381] (by decide +kernel) (by decide +kernel)
set_option maxRecDepth 20000 in
theorem wsL_law_r15_in : GoodIn lw_tbl wsL_law_r15 := goodIn_r _ [382, 383, 760, 761, 762, 763, 764, 766, 31, 767, 384, 385, 386, 387, 388, 389, 390, 391, 392, 393, 394, 395, 396, 397] (by decide +kernel) (by decide +kernel)
set_option maxRecDepth 20000 in
theorem wsL_law_r16_in : GoodIn lw_tbl wsL_law_r16 := goodIn_r _ [399, 401, 2, 402, 407, 403, 405, 3, 406, 408, 410, 4, 411, 412, 414, 5, 415, 416, 418, 6, 419, 420, 768, 769] (by decide +kernel) (by decide +kernel)
set_option maxRecDepth 20000 in
theorem wsL_law_r17_in : GoodIn lw_tbl wsL_law_r17 := goodIn_r _ [770, 771, 772, 774, 32, 775, 776, 778, 33, 779, 606, 604, 605, 780, 782, 34, 783, 784, 786, 35, 787, 788, 790, 36] (by decide +kernel) (by decide +kernel)
set_option maxRecDepth 20000 in
theorem wsL_law_r18_in : GoodIn lw_tbl wsL_law_r18 := goodIn_r _ [791, 792, 794, 37, 795, 796, 797, 798, 607, 799, 801, 38, 802, 421, 422, 423, 424, 425, 426, 427, 428, 429, 430, 431] (by decide +kernel) (by decide +kernel)
set_option maxRecDepth 20000 in
theorem wsL_law_r19_in : GoodIn lw_tbl wsL_law_r19 := goodIn_r _ [432, 433, 434, 435, 436, 437, 438, 439, 440, 441, 442, 63, 443, 444, 445, 446, 447, 448, 449, 450, 451, 452, 453, 454] (by decide +kernel) (by decide +kernel)
set_option maxRecDepth 20000 in
theorem wsL_law_r20_in : GoodIn lw_tbl wsL_law_r20 := goodIn_r _ [455, 456, 457, 458, 459, 460, 461, 462, 803, 804, 805, 806, 807, 809, 39, 810, 811, 813, 40, 814, 815, 817, 41, 818] (by decide +kernel) (by decide +kernel)
set_option maxRecDepth 20000 in
theorem wsL_law_r21_in : GoodIn lw_tbl wsL_law_r21 := goodIn_r _ [819, 821, 42, 822, 463, 464, 465, 466, 467, 468, 469, 470, 823, 824, 825, 826, 471, 472, 473, 474, 475, 476, 477, 478] (by decide +kernel) (by decide +kernel)
set_option maxRecDepth 20000 in
theorem wsL_law_r22_in : GoodIn lw_tbl wsL_law_r22 := goodIn_r _ [646, 647, 648, 649, 479, 480, 481, 482, 483, 484, 485, 486, 827, 828, 829, 830, 609, 488, 489, 490, 491, 831, 832, 833] (by decide +kernel) (by decide +kernel)
set_option maxRecDepth 20000 in
theorem wsL_law_r23_in : GoodIn lw_tbl wsL_law_r23 := goodIn_r _ [834, 492, 493, 494, 495, 496, 498, 7, 499, 500, 501, 502, 503, 504, 505, 506, 507, 509, 510, 512, 8, 513, 514, 515] (by decide +kernel) (by decide +kernel)
set_option maxRecDepth 20000 in
theorem wsL_law_r24_in : GoodIn lw_tbl wsL_law_r24 := goodIn_r _ [516, 517, 519, 9, 520, 521, 523, 10, 524, 525, 527, 11, 528, 529, 530, 531, 532, 533, 835, 836, 837, 838, 610, 611] (by decide +kernel) (by decide +kernel)
set_option maxRecDepth 20000 in
theorem wsL_law_r25_in : GoodIn lw_tbl wsL_law_r25 := goodIn_r _ [839, 841, 43, 842, 843, 845, 44, 846, 847, 849, 45, 850, 851, 852, 853, 854, 856, 46, 857, 858, 860, 47, 861, 862] (by decide +kernel) (by decide +kernel)
set_option maxRecDepth 20000 in
theorem wsL_law_r26_in : GoodIn lw_tbl wsL_law_r26 := goodIn_r _ [864, 48, 865, 534, 535, 536, 537, 538, 539, 540, 541, 542, 543, 544, 545, 546, 547, 548, 549, 866, 867, 868, 869, 870] (by decide +kernel) (by decide +kernel)
set_option maxRecDepth 20000 in
theorem wsL_law_r27_in : GoodIn lw_tbl wsL_law_r27 := goodIn_r _ [872, 49, 873, 550, 551, 552, 553, 554, 555, 556, 557, 874, 875, 876, 877, 878, 880, 50, 881, 558, 559, 560, 561, 562] (by decide +kernel) (by decide +kernel)
set_option maxRecDepth 20000 in
theorem wsL_law_r28_in : GoodIn lw_tbl wsL_law_r28 := goodIn_r _ [882, 883, 884, 885, 563, 564, 565, 566, 567, 886, 887, 888, 889, 568, 569, 570, 571, 572, 890, 891, 892, 893, 573, 574] (by decide +kernel) (by decide +kernel)
set_option maxRecDepth 20000 in
theorem wsL_law_r29_in : GoodIn lw_tbl wsL_law_r29 := goodIn_r _ [575, 576, 894, 895, 896, 897, 577, 578, 579, 580, 581, 582, 583, 584, 585, 586, 587, 588, 898, 899, 900, 901, 614, 902] (by decide +kernel) (by decide +kernel)
set_option maxRecDepth 20000 in
theorem wsL_law_r30_in : GoodIn lw_tbl wsL_law_r30 := goodIn_r _ [904, 51, 905, 906, 908, 52, 909, 910, 912, 53, 913, 589, 590, 591, 592, 593, 914, 915, 916, 917] (by decide +kernel) (by decide +kernel)
set_option maxRecDepth 20000 in
theorem tX4_in : ∀ w ∈ wsX40, w ∈ lw_tbl := by decide +kernel
set_option maxRecDepth 20000 in
theorem tX5_in : ∀ w ∈ wsX50, w ∈ lw_tbl := by decide +kernel
set_option maxRecDepth 20000 in
theorem tX0_in : ∀ w ∈ wsX00, w ∈ lw_tbl := by decide +kernel
set_option maxRecDepth 20000 in
theorem tX1_in : ∀ w ∈ wsX10, w ∈ lw_tbl := by decide +kernel
set_option maxRecDepth 20000 in
theorem tX3_in : ∀ w ∈ wsX30, w ∈ lw_tbl := by decide +kernel
set_option maxRecDepth 20000 in
theorem tX2_in : ∀ w ∈ wsX20, w ∈ lw_tbl := by decide +kernel
theorem wsL_law_in : ∀ w ∈ wsL_law, w ∈ lw_tbl := (List.forall_mem_append.mpr ⟨(List.forall_mem_append.mpr ⟨(List.forall_mem_append.mpr ⟨(List.forall_mem_append.mpr ⟨(List.forall_mem_append.mpr ⟨(List.forall_mem_append.mpr ⟨(List.forall_mem_append.mpr ⟨(List.forall_mem_append.mpr ⟨fun w h => (wsL_law_r1_in w h).1, (List.forall_mem_append.mpr ⟨fun w h => (wsL_law_r2_in w h).1, (List.forall_mem_append.mpr ⟨fun w h => (wsL_law_r3_in w h).1, (List.forall_mem_append.mpr ⟨fun w h => (wsL_law_r4_in w h).1, (List.forall_mem_append.mpr ⟨fun w h => (wsL_law_r5_in w h).1, (List.forall_mem_append.mpr ⟨fun w h => (wsL_law_r6_in w h).1, (List.forall_mem_append.mpr ⟨fun w h => (wsL_law_r7_in w h).1, (List.forall_mem_append.mpr ⟨fun w h => (wsL_law_r8_in w h).1, (List.forall_mem_append.mpr ⟨fun w h => (wsL_law_r9_in w h).1, (List.forall_mem_append.mpr ⟨fun w h => (wsL_law_r10_in w h).1, (List.forall_mem_append.mpr ⟨fun w h => (wsL_law_r11_in w h).1, (List.forall_mem_append.mpr ⟨fun w h => (wsL_law_r12_in w h).1, (List.forall_mem_append.mpr ⟨fun w h => (wsL_law_r13_in w h).1, (List.forall_mem_append.mpr ⟨fun w h => (wsL_law_r14_in w h).1, (List.forall_mem_append.mpr ⟨fun w h => (wsL_law_r15_in w h).1, (List.forall_mem_append.mpr ⟨fun w h => (wsL_law_r16_in w h).1, (List.forall_mem_append.mpr ⟨fun w h => (wsL_law_r17_in w h).1, (List.forall_mem_append.mpr ⟨fun w h => (wsL_law_r18_in w h).1, (List.forall_mem_append.mpr ⟨fun w h => (wsL_law_r19_in w h).1, (List.forall_mem_append.mpr ⟨fun w h => (wsL_law_r20_in w h).1, (List.forall_mem_append.mpr ⟨fun w h => (wsL_law_r21_in w h).1, (List.forall_mem_append.mpr ⟨fun w h => (wsL_law_r22_in w h).1, (List.forall_mem_append.mpr ⟨fun w h => (wsL_law_r23_in w h).1, (List.forall_mem_append.mpr ⟨fun w h => (wsL_law_r24_in w h).1, (List.forall_mem_append.mpr ⟨fun w h => (wsL_law_r25_in w h).1, (List.forall_mem_append.mpr ⟨fun w h => (wsL_law_r26_in w h).1, (List.forall_mem_append.mpr ⟨fun w h => (wsL_law_r27_in w h).1, (List.forall_mem_append.mpr ⟨fun w h => (wsL_law_r28_in w h).1, (List.forall_mem_append.mpr ⟨fun w h => (wsL_law_r29_in w h).1, (fun w h => (wsL_law_r30_in w h).1)⟩)⟩)⟩)⟩)⟩)⟩)⟩)⟩)⟩)⟩)⟩)⟩)⟩)⟩)⟩)⟩)⟩)⟩)⟩)⟩)⟩)⟩)⟩)⟩)⟩)⟩)⟩)⟩)⟩), tX4_in⟩), tX5_in⟩), tX0_in⟩), tX1_in⟩), tX3_in⟩), tX2_in⟩), fun _ h => absurd h List.not_mem_nil⟩)
theorem inlX0 : ∀ w ∈ wsX00, w ∈ wsL_law := fun _ h => List.mem_append_left _ (List.mem_append_left _ (List.mem_append_left _ (List.mem_append_left _ (List.mem_append_right _ h))))
theorem inX0 : ∀ w ∈ wsX00, w ∈ lw_tbl := fun w h => wsL_law_in w (inlX0 w h)
theorem inlX1 : ∀ w ∈ wsX10, w ∈ wsL_law := fun _ h => List.mem_append_left _ (List.mem_append_left _ (List.mem_append_left _ (List.mem_append_right _ h)))
theorem inX1 : ∀ w ∈ wsX10, w ∈ lw_tbl := fun w h => wsL_law_in w (inlX1 w h)
theorem inlX2 : ∀ w ∈ wsX20, w ∈ wsL_law := fun _ h => List.mem_append_left _ (List.mem_append_right _ h)
theorem inX2 : ∀ w ∈ wsX20, w ∈ lw_tbl := fun w h => wsL_law_in w (inlX2 w h)
theorem inlX3 : ∀ w ∈ wsX30, w ∈ wsL_law := fun _ h => List.mem_append_left _ (List.mem_append_left _ (List.mem_append_right _ h))
theorem inX3 : ∀ w ∈ wsX30, w ∈ lw_tbl := fun w h => wsL_law_in w (inlX3 w h)
theorem inlX4 : ∀ w ∈ wsX40, w ∈ wsL_law := fun _ h => List.mem_append_left _ (List.mem_append_left _ (List.mem_append_left _ (List.mem_append_left _ (List.mem_append_left _ (List.mem_append_left _ (List.mem_append_right _ h))))))
theorem inX4 : ∀ w ∈ wsX40, w ∈ lw_tbl := fun w h => wsL_law_in w (inlX4 w h)
theorem inlX5 : ∀ w ∈ wsX50, w ∈ wsL_law := fun _ h => List.mem_append_left _ (List.mem_append_left _ (List.mem_append_left _ (List.mem_append_left _ (List.mem_append_left _ (List.mem_append_right _ h)))))
theorem inX5 : ∀ w ∈ wsX50, w ∈ lw_tbl := fun w h => wsL_law_in w (inlX5 w h)
theorem inJ6 : ∀ w ∈ wsJ60, w ∈ lw_tbl := by decide +kernel
theorem inJ9 : ∀ w ∈ wsJ90, w ∈ lw_tbl := by decide +kernel
theorem inJ10 : ∀ w ∈ wsJ100, w ∈ lw_tbl := by decide +kernel
set_option maxRecDepth 20000 in
theorem ggL_law_X4_init : GoodIn wsL_law wsX4_init := goodIn_r _ [8, 9, 10, 11, 12, 13, 14, 15, 16, 17, 18, 19, 20, 21, 22, 23, 24, 25, 26, 27, 28, 29, 30, 31, 32, 33, 34, 35, 36, 37, 38, 39, 40, 41, 42, 43, 44, 45, 46, 47, 48, 49, 50, 51, 52, 53, 54, 55, 56, 57, 58, 59, 60, 61, 62, 63, 64, 65, 66, 67, 68, 69, 70, 71, 72, 73, 737, 738, 739, 740, 741, 742, 743, 744, 745, 746, 747, 748, 749, 716, 717, 718, 719, 720, 721, 750, 751, 752, 753, 754, 755, 756, 757, 758, 759, 760, 761, 762, 763, 764, 765] (by decide +kernel) (by decide +kernel)
set_option maxRecDepth 20000 in
theorem gL_law_X4_init : GoodIn wsL_law (wsX4_init) := ggL_law_X4_init
set_option maxRecDepth 20000 in
theorem ggL_law_X5_init : GoodIn wsL_law wsX5_init := goodIn_r _ [76, 77, 10, 11, 33, 78, 79, 80, 81, 82, 83, 722, 723, 724, 725, 726, 727, 728, 729, 730, 731, 732, 733, 734, 735, 736] (by decide +kernel) (by decide +kernel)
set_option maxRecDepth 20000 in
theorem gL_law_X5_init : GoodIn wsL_law (wsX5_init) := ggL_law_X5_init
set_option maxRecDepth 20000 in
theorem ggL_law_X4_addServer : GoodIn wsL_law wsX4_addServer := goodIn_r _ [87, 16, 15, 88, 89, 90, 14, 91, 34, 35, 36, 37, 38, 39, 40, 41, 42, 43, 44, 45, 46, 92, 2, 93, 94, 95, 96, 97, 98, 99, 100, 101, 102, 103, 104, 105, 106, 107, 108, 109, 110, 111, 21, 112, 113, 114, 20, 115, 54, 53, 116, 117, 118, 119, 120, 52, 121, 716, 717, 718, 719, 720, 721, 737, 738, 739, 740, 741, 742, 743, 744, 745, 746, 747, 748, 749, 750, 751, 752] (by decide +kernel) (by decide +kernel)
set_option maxRecDepth 20000 in
theorem gL_law_X4_addServer : GoodIn wsL_law (wsV RL 13 RX4 yX4_addServer wsX4_addServer) := goodIn_app (goodIn_of _ (by decide +kernel)) ggL_law_X4_addServer
set_option maxRecDepth 20000 in
theorem ggL_law_X5_addServer : GoodIn wsL_law wsX5_addServer := goodIn_r _ [125, 78, 126, 127, 128, 5, 129, 80, 130, 131, 132, 133, 134, 135, 136, 137, 138, 79, 722, 723, 724, 725, 726, 727, 728, 729, 730, 731, 732, 733, 734, 735, 736] (by decide +kernel) (by decide +kernel)
set_option maxRecDepth 20000 in
theorem gL_law_X5_addServer : GoodIn wsL_law (wsV RL 17 RX5 yX5_addServer wsX5_addServer) := goodIn_app (goodIn_of _ (by decide +kernel)) ggL_law_X5_addServer
set_option maxRecDepth 20000 in
theorem ggL_law_X4_add : GoodIn wsL_law wsX4_add := goodIn_r _ [142, 16, 15, 88, 89, 90, 14, 91, 34, 35, 36, 37, 38, 39, 40, 41, 42, 43, 44, 45, 46, 92, 2, 93, 94, 95, 96, 97, 98, 99, 100, 101, 143, 144, 145, 146, 147, 148, 149, 150, 151, 152, 153, 154, 155, 156, 106, 107, 108, 109, 110, 111, 21, 112, 113, 114, 20, 115, 54, 53, 116, 117, 118, 119, 120, 52, 121, 716, 717, 718, 719, 720, 721, 737, 738, 739, 740, 741, 742, 743, 744, 745, 746, 747, 748, 749, 750, 751, 752] (by decide +kernel) (by decide +kernel)
set_option maxRecDepth 20000 in
theorem gL_law_X4_add : GoodIn wsL_law (wsV RL 18 RX4 yX4_add wsX4_add) := goodIn_app (goodIn_of _ (by decide +kernel)) ggL_law_X4_add
set_option maxRecDepth 20000 in
theorem ggL_law_X5_add : GoodIn wsL_law wsX5_add := goodIn_r _ [160, 126, 127, 128, 5, 129, 80, 78, 161, 162, 163, 164, 165, 166, 167, 168, 169, 170, 171, 172, 173, 174, 175, 130, 131, 132, 133, 134, 135, 136, 137, 138, 79, 722, 723, 724, 725, 726, 727, 728, 729, 730, 731, 732, 733, 734, 735, 736] (by decide +kernel) (by decide +kernel)
set_option maxRecDepth 20000 in
theorem gL_law_X5_add : GoodIn wsL_law (wsV RL 22 RX5 yX5_add wsX5_add) := goodIn_app (goodIn_of _ (by decide +kernel)) ggL_law_X5_add
set_option maxRecDepth 20000 in
theorem ggL_law_X4_finish : GoodIn wsL_law wsX4_finish := goodIn_r _ [179, 16, 15, 88, 89, 90, 14, 91, 34, 35, 36, 37, 38, 39, 40, 41, 42, 43, 44, 45, 46, 92, 2, 93, 94, 95, 96, 97, 98, 99, 100, 101, 180, 181, 182, 183, 184, 185, 186, 187, 188, 189, 190, 191, 155, 156, 106, 107, 108, 109, 110, 111, 21, 112, 113, 114, 20, 115, 54, 53, 116, 117, 118, 119, 120, 52, 121, 716, 717, 718, 719, 720, 721, 737, 738, 739, 740, 741, 742, 743, 744, 745, 746, 747, 748, 749, 750, 751, 752] (by decide +kernel) (by decide +kernel)
set_option maxRecDepth 20000 in
theorem gL_law_X4_finish : GoodIn wsL_law (wsV RL 23 RX4 yX4_finish wsX4_finish) := goodIn_app (goodIn_of _ (by decide +kernel)) ggL_law_X4_finish
set_option maxRecDepth 20000 in
theorem ggL_law_X5_finish : GoodIn wsL_law wsX5_finish := goodIn_r _ [195, 126, 127, 128, 5, 129, 80, 78, 196, 197, 198, 199, 200, 201, 202, 203, 165, 166, 167, 204, 205, 206, 207, 208, 209, 210, 211, 130, 131, 132, 133, 134, 135, 136, 137, 138, 79, 722, 723, 724, 725, 726, 727, 728, 729, 730, 731, 732, 733, 734, 735, 736] (by decide +kernel) (by decide +kernel)
set_option maxRecDepth 20000 in
theorem gL_law_X5_finish : GoodIn wsL_law (wsV RL 27 RX5 yX5_finish wsX5_finish) := goodIn_app (goodIn_of _ (by decide +kernel)) ggL_law_X5_finish
set_option maxRecDepth 20000 in
theorem ggL_law_X4_setBudget : GoodIn wsL_law wsX4_setBudget := goodIn_r _ [215, 16, 15, 88, 89, 90, 14, 91, 34, 35, 36, 37, 38, 39, 40, 41, 42, 43, 44, 45, 46, 92, 2, 93, 94, 95, 96, 97, 98, 99, 100, 101, 216, 217, 218, 219, 108, 109, 110, 111, 21, 112, 113, 114, 20, 115, 54, 53, 116, 117, 118, 119, 120, 52, 121, 716, 717, 718, 719, 720, 721, 737, 738, 739, 740, 741, 742, 743, 744, 745, 746, 747, 748, 749, 750, 751, 752] (by decide +kernel) (by decide +kernel)
set_option maxRecDepth 20000 in
theorem gL_law_X4_setBudget : GoodIn wsL_law (wsV RL 28 RX4 yX4_setBudget wsX4_setBudget) := goodIn_app (goodIn_of _ (by decide +kernel)) ggL_law_X4_setBudget
set_option maxRecDepth 20000 in
theorem ggL_law_X5_setBudget : GoodIn wsL_law wsX5_setBudget := goodIn_r _ [223, 78, 165, 166, 5, 167, 126, 127, 128, 129, 80, 130, 131, 132, 133, 134, 135, 136, 137, 138, 79, 722, 723, 724, 725, 726, 727, 728, 729, 730, 731, 732, 733, 734, 735, 736] (by decide +kernel) (by decide +kernel)
set_option maxRecDepth 20000 in
theorem gL_law_X5_setBudget : GoodIn wsL_law (wsV RL 31 RX5 yX5_setBudget wsX5_setBudget) := goodIn_app (goodIn_of _ (by decide +kernel)) ggL_law_X5_setBudget
set_option maxRecDepth 20000 in
theorem ggL_law_X4_setFactor : GoodIn wsL_law wsX4_setFactor := goodIn_r _ [227, 16, 15, 88, 89, 90, 14, 91, 34, 35, 36, 37, 38, 39, 40, 41, 42, 43, 44, 45, 46, 92, 2, 93, 94, 95, 96, 97, 98, 99, 100, 101, 228, 229, 230, 231, 232, 233, 234, 235, 236, 237, 238, 239, 240, 241, 242, 155, 156, 108, 109, 110, 111, 21, 112, 113, 114, 20, 115, 54, 53, 116, 117, 118, 119, 120, 52, 121, 716, 717, 718, 719, 720, 721, 737, 738, 739, 740, 741, 742, 743, 744, 745, 746, 747, 748, 749, 750, 751, 752] (by decide +kernel) (by decide +kernel)
set_option maxRecDepth 20000 in
theorem gL_law_X4_setFactor : GoodIn wsL_law (wsV RL 32 RX4 yX4_setFactor wsX4_setFactor) := goodIn_app (goodIn_of _ (by decide +kernel)) ggL_law_X4_setFactor
set_option maxRecDepth 20000 in
theorem ggL_law_X5_setFactor : GoodIn wsL_law wsX5_setFactor := goodIn_r _ [246, 78, 165, 166, 5, 167, 126, 127, 128, 129, 80, 247, 248, 249, 250, 251, 252, 253, 254, 255, 256, 257, 258, 204, 205, 206, 207, 259, 260, 261, 262, 263, 264, 265, 266, 267, 268, 269, 130, 131, 132, 133, 134, 135, 136, 137, 138, 79, 722, 723, 724, 725, 726, 727, 728, 729, 730, 731, 732, 733, 734, 735, 736] (by decide +kernel) (by decide +kernel)
set_option maxRecDepth 20000 in
theorem gL_law_X5_setFactor : GoodIn wsL_law (wsV RL 35 RX5 yX5_setFactor wsX5_setFactor) := goodIn_app (goodIn_of _ (by decide +kernel)) ggL_law_X5_setFactor
set_option maxRecDepth 20000 in
theorem ggL_law_X4_move : GoodIn wsL_law wsX4_move := goodIn_r _ [273, 16, 15, 88, 89, 90, 14, 91, 34, 35, 36, 37, 38, 39, 40, 41, 42, 43, 44, 45, 46, 92, 2, 93, 94, 95, 96, 97, 98, 99, 100, 101, 274, 275, 276, 277, 184, 185, 186, 187, 147, 148, 149, 150, 188, 189, 190, 191, 155, 156, 151, 152, 153, 154, 278, 279, 280, 281, 282, 283, 284, 285, 106, 107, 286, 287, 288, 289, 290, 291, 292, 293, 108, 109, 110, 111, 21, 112, 113, 114, 20, 115, 54, 53, 116, 117, 118, 119, 120, 52, 121, 716, 717, 718, 719, 720, 721, 737, 738, 739, 740, 741, 742, 743, 744, 745, 746, 747, 748, 749, 750, 751, 752] (by decide +kernel) (by decide +kernel)
set_option maxRecDepth 20000 in
theorem gL_law_X4_move : GoodIn wsL_law (wsV RL 36 RX4 yX4_move wsX4_move) := goodIn_app (goodIn_of _ (by decide +kernel)) ggL_law_X4_move
set_option maxRecDepth 20000 in
theorem ggL_law_X5_move : GoodIn wsL_law wsX5_move := goodIn_r _ [297, 126, 127, 128, 5, 129, 80, 78, 298, 299, 300, 301, 200, 201, 202, 203, 165, 166, 167, 168, 169, 170, 171, 255, 256, 257, 258, 204, 205, 206, 207, 172, 173, 174, 175, 302, 303, 304, 305, 306, 307, 308, 309, 208, 209, 210, 211, 259, 260, 261, 130, 131, 132, 133, 134, 135, 136, 137, 138, 79, 722, 723, 724, 725, 726, 727, 728, 729, 730, 731, 732, 733, 734, 735, 736] (by decide +kernel) (by decide +kernel)
set_option maxRecDepth 20000 in
theorem gL_law_X5_move : GoodIn wsL_law (wsV RL 40 RX5 yX5_move wsX5_move) := goodIn_app (goodIn_of _ (by decide +kernel)) ggL_law_X5_move
set_option maxRecDepth 20000 in
theorem ggL_law_X4_exchange : GoodIn wsL_law wsX4_exchange := goodIn_r _ [313, 16, 15, 88, 89, 90, 14, 91, 34, 35, 36, 37, 38, 39, 40, 41, 42, 43, 44, 45, 46, 92, 2, 93, 94, 95, 96, 97, 98, 99, 100, 101, 314, 315, 316, 317, 184, 185, 186, 187, 318, 319, 320, 321, 188, 189, 190, 191, 155, 156, 278, 279, 280, 281, 282, 283, 284, 285, 106, 107, 286, 287, 288, 289, 290, 291, 292, 293, 108, 109, 110, 111, 21, 112, 113, 114, 20, 115, 54, 53, 116, 117, 118, 119, 120, 52, 121, 716, 717, 718, 719, 720, 721, 737, 738, 739, 740, 741, 742, 743, 744, 745, 746, 747, 748, 749, 750, 751, 752] (by decide +kernel) (by decide +kernel)
set_option maxRecDepth 20000 in
theorem gL_law_X4_exchange : GoodIn wsL_law (wsV RL 41 RX4 yX4_exchange wsX4_exchange) := goodIn_app (goodIn_of _ (by decide +kernel)) ggL_law_X4_exchange
set_option maxRecDepth 20000 in
theorem ggL_law_X5_exchange : GoodIn wsL_law wsX5_exchange := goodIn_r _ [325, 126, 127, 128, 5, 129, 80, 78, 326, 327, 328, 329, 200, 201, 202, 203, 165, 166, 167, 204, 205, 206, 207, 255, 256, 257, 258, 302, 303, 304, 305, 306, 307, 308, 309, 208, 209, 210, 211, 259, 260, 261, 130, 131, 132, 133, 134, 135, 136, 137, 138, 79, 722, 723, 724, 725, 726, 727, 728, 729, 730, 731, 732, 733, 734, 735, 736] (by decide +kernel) (by decide +kernel)
set_option maxRecDepth 20000 in
theorem gL_law_X5_exchange : GoodIn wsL_law (wsV RL 44 RX5 yX5_exchange wsX5_exchange) := goodIn_app (goodIn_of _ (by decide +kernel)) ggL_law_X5_exchange
set_option maxRecDepth 20000 in
theorem ggL_law_X4_ring : GoodIn wsL_law wsX4_ring := goodIn_r _ [333, 16, 15, 88, 89, 90, 14, 91, 34, 35, 36, 37, 38, 39, 40, 41, 42, 43, 44, 45, 46, 92, 2, 93, 94, 95, 96, 97, 98, 99, 100, 101, 334, 335, 336, 337, 184, 185, 186, 187, 318, 319, 320, 321, 188, 189, 190, 191, 155, 156, 278, 279, 280, 281, 282, 283, 284, 285, 106, 107, 286, 287, 288, 289, 290, 291, 292, 293, 108, 109, 110, 111, 21, 112, 113, 114, 20, 115, 54, 53, 116, 117, 118, 119, 120, 52, 121, 716, 717, 718, 719, 720, 721, 737, 738, 739, 740, 741, 742, 743, 744, 745, 746, 747, 748, 749, 750, 751, 752] (by decide +kernel) (by decide +kernel)
set_option maxRecDepth 20000 in
theorem gL_law_X4_ring : GoodIn wsL_law (wsV RL 45 RX4 yX4_ring wsX4_ring) := goodIn_app (goodIn_of _ (by decide +kernel)) ggL_law_X4_ring
set_option maxRecDepth 20000 in
theorem ggL_law_X5_ring : GoodIn wsL_law wsX5_ring := goodIn_r _ [341, 126, 127, 128, 5, 129, 80, 78, 342, 343, 344, 345, 200, 201, 202, 203, 165, 166, 167, 204, 205, 206, 207, 255, 256, 257, 258, 302, 303, 304, 305, 306, 307, 308, 309, 208, 209, 210, 211, 259, 260, 261, 130, 131, 132, 133, 134, 135, 136, 137, 138, 79, 722, 723, 724, 725, 726, 727, 728, 729, 730, 731, 732, 733, 734, 735, 736] (by decide +kernel) (by decide +kernel)
set_option maxRecDepth 20000 in
theorem gL_law_X5_ring : GoodIn wsL_law (wsV RL 48 RX5 yX5_ring wsX5_ring) := goodIn_app (goodIn_of _ (by decide +kernel)) ggL_law_X5_ring
set_option maxRecDepth 20000 in
theorem ggL_law_X4_even : GoodIn wsL_law wsX4_even := goodIn_r _ [349, 16, 15, 25, 88, 89, 90, 14, 91, 34, 35, 36, 37, 38, 39, 40, 41, 42, 43, 44, 45, 46, 92, 2, 93, 94, 95, 96, 97, 98, 99, 100, 101, 350, 351, 352, 24, 353, 58, 59, 60, 354, 233, 234, 235, 236, 237, 238, 239, 240, 241, 242, 155, 156, 355, 356, 357, 358, 359, 291, 292, 293, 360, 361, 362, 363, 364, 365, 366, 367, 368, 62, 369, 370, 371, 372, 61, 373, 374, 375, 376, 377, 378, 379, 380, 381, 279, 280, 281, 282, 283, 284, 285, 106, 107, 108, 109, 110, 111, 21, 112, 113, 114, 20, 115, 54, 53, 116, 117, 118, 119, 120, 52, 121, 716, 717, 718, 719, 720, 721, 737, 738, 739, 740, 741, 742, 743, 744, 745, 746, 747, 748, 749, 753, 754, 755, 756, 757, 750, 751, 752] (by decide +kernel) (by decide +kernel)
set_option maxRecDepth 20000 in
theorem gL_law_X4_even : GoodIn wsL_law (wsV RL 49 RX4 yX4_even wsX4_even) := goodIn_app (goodIn_of _ (by decide +kernel)) ggL_law_X4_even
set_option maxRecDepth 20000 in
theorem ggL_law_X5_even : GoodIn wsL_law wsX5_even := goodIn_r _ [385, 126, 127, 128, 5, 129, 80, 78, 386, 387, 388, 389, 165, 166, 167, 390, 391, 392, 393, 394, 395, 396, 397, 398, 399, 400, 401, 402, 403, 404, 306, 307, 308, 309, 208, 209, 210, 211, 204, 205, 206, 207, 259, 260, 261, 247, 248, 249, 250, 251, 252, 253, 254, 255, 256, 257, 258, 262, 263, 264, 265, 266, 267, 268, 269, 405, 406, 407, 408, 172, 173, 174, 175, 168, 169, 170, 171, 409, 410, 411, 412, 413, 414, 415, 416, 417, 418, 419, 420, 298, 299, 300, 301, 200, 201, 202, 203, 302, 303, 304, 305, 326, 327, 328, 329, 130, 131, 132, 133, 134, 135, 136, 137, 138, 79, 722, 723, 724, 725, 726, 727, 728, 729, 730, 731, 732, 733, 734, 735, 736] (by decide +kernel) (by decide +kernel)
set_option maxRecDepth 20000 in
theorem gL_law_X5_even : GoodIn wsL_law (wsV RL 52 RX5 yX5_even wsX5_even) := goodIn_app (goodIn_of _ (by decide +kernel)) ggL_law_X5_even
set_option maxRecDepth 20000 in
theorem ggL_law_X4_close : GoodIn wsL_law wsX4_close := goodIn_r _ [424, 16, 15, 88, 89, 90, 14, 91, 34, 35, 36, 37, 38, 39, 40, 41, 42, 43, 44, 45, 46, 92, 2, 93, 94, 95, 96, 97, 98, 99, 100, 101, 425, 426, 427, 428, 147, 148, 149, 150, 151, 152, 153, 154, 155, 156, 429, 430, 431, 432, 433, 434, 435, 436, 106, 107, 437, 438, 439, 440, 441, 442, 443, 444, 445, 446, 447, 448, 449, 450, 451, 452, 453, 454, 455, 456, 457, 458, 459, 460, 461, 462, 463, 278, 279, 280, 281, 282, 283, 284, 285, 108, 109, 110, 111, 21, 112, 113, 114, 20, 115, 54, 53, 116, 117, 118, 119, 120, 52, 121, 716, 717, 718, 719, 720, 721, 737, 738, 739, 740, 741, 742, 743, 744, 745, 746, 747, 748, 749, 750, 751, 752] (by decide +kernel) (by decide +kernel)
set_option maxRecDepth 20000 in
theorem gL_law_X4_close : GoodIn wsL_law (wsV RL 53 RX4 yX4_close wsX4_close) := goodIn_app (goodIn_of _ (by decide +kernel)) ggL_law_X4_close
set_option maxRecDepth 20000 in
theorem ggL_law_X5_close : GoodIn wsL_law wsX5_close := goodIn_r _ [467, 126, 127, 128, 5, 129, 80, 78, 468, 469, 470, 471, 168, 169, 170, 171, 165, 166, 167, 204, 205, 206, 207, 172, 173, 174, 175, 262, 263, 264, 265, 472, 473, 474, 475, 476, 477, 478, 479, 480, 481, 482, 483, 208, 209, 210, 211, 302, 303, 304, 305, 130, 131, 132, 133, 134, 135, 136, 137, 138, 79, 722, 723, 724, 725, 726, 727, 728, 729, 730, 731, 732, 733, 734, 735, 736] (by decide +kernel) (by decide +kernel)
set_option maxRecDepth 20000 in
theorem gL_law_X5_close : GoodIn wsL_law (wsV RL 56 RX5 yX5_close wsX5_close) := goodIn_app (goodIn_of _ (by decide +kernel)) ggL_law_X5_close
set_option maxRecDepth 20000 in
theorem ggL_law_X4_open : GoodIn wsL_law wsX4_open := goodIn_r _ [487, 16, 15, 88, 89, 90, 14, 91, 34, 35, 36, 37, 38, 39, 40, 41, 42, 43, 44, 45, 46, 92, 2, 93, 94, 95, 96, 97, 98, 99, 100, 101, 488, 489, 490, 491, 147, 148, 149, 150, 151, 152, 153, 154, 155, 156, 106, 107, 108, 109, 110, 111, 21, 112, 113, 114, 20, 115, 54, 53, 116, 117, 118, 119, 120, 52, 121, 716, 717, 718, 719, 720, 721, 737, 738, 739, 740, 741, 742, 743, 744, 745, 746, 747, 748, 749, 750, 751, 752] (by decide +kernel) (by decide +kernel)
set_option maxRecDepth 20000 in
theorem gL_law_X4_open : GoodIn wsL_law (wsV RL 57 RX4 yX4_open wsX4_open) := goodIn_app (goodIn_of _ (by decide +kernel)) ggL_law_X4_open
set_option maxRecDepth 20000 in
theorem ggL_law_X5_open : GoodIn wsL_law wsX5_open := goodIn_r _ [495, 78, 168, 169, 170, 5, 171, 165, 166, 167, 172, 173, 174, 175, 126, 127, 128, 129, 80, 262, 263, 264, 265, 130, 131, 132, 133, 134, 135, 136, 137, 138, 79, 722, 723, 724, 725, 726, 727, 728, 729, 730, 731, 732, 733, 734, 735, 736] (by decide +kernel) (by decide +kernel)
set_option maxRecDepth 20000 in
theorem gL_law_X5_open : GoodIn wsL_law (wsV RL 60 RX5 yX5_open wsX5_open) := goodIn_app (goodIn_of _ (by decide +kernel)) ggL_law_X5_open
set_option maxRecDepth 20000 in
theorem ggL_law_X4_undo : GoodIn wsL_law wsX4_undo := goodIn_r _ [499, 21, 15, 500, 501, 502, 20, 503, 54, 53, 117, 118, 119, 120, 52, 121, 89, 90, 14, 91, 34, 35, 36, 37, 38, 39, 40, 41, 42, 43, 44, 45, 46, 92, 2, 93, 94, 95, 96, 97, 98, 99, 100, 101, 716, 717, 718, 719, 720, 721, 750, 751, 752, 737, 738, 739, 740, 741, 742, 743, 744, 745, 746, 747, 748, 749] (by decide +kernel) (by decide +kernel)
set_option maxRecDepth 20000 in
theorem gL_law_X4_undo : GoodIn wsL_law (wsV RL 61 RX4 yX4_undo wsX4_undo) := goodIn_app (goodIn_of _ (by decide +kernel)) ggL_law_X4_undo
set_option maxRecDepth 20000 in
theorem ggL_law_X5_undo : GoodIn wsL_law wsX5_undo := goodIn_r _ [507, 138, 78, 79, 722, 723, 724, 725, 726, 727, 728, 729, 730, 731, 732, 733, 734, 735, 736] (by decide +kernel) (by decide +kernel)
set_option maxRecDepth 20000 in
theorem gL_law_X5_undo : GoodIn wsL_law (wsV RL 64 RX5 yX5_undo wsX5_undo) := goodIn_app (goodIn_of _ (by decide +kernel)) ggL_law_X5_undo
set_option maxRecDepth 20000 in
theorem ggL_law_X4_append : GoodIn wsL_law wsX4_append := goodIn_r _ [511, 29, 512, 513, 514, 28, 515, 67, 66, 106, 2, 107, 716, 717, 718, 719, 720, 721, 758, 759, 760, 761, 762, 763, 764, 765] (by decide +kernel) (by decide +kernel)
set_option maxRecDepth 20000 in
theorem gL_law_X4_append : GoodIn wsL_law (wsV RL 65 RX4 yX4_append wsX4_append) := goodIn_app (goodIn_of _ (by decide +kernel)) ggL_law_X4_append
set_option maxRecDepth 20000 in
theorem ggL_law_X5_append : GoodIn wsL_law wsX5_append := goodIn_r _ [519, 520, 81, 165, 166, 5, 167, 722, 723, 724, 725, 726, 727, 728, 729, 730, 731, 732, 733, 734, 735, 736] (by decide +kernel) (by decide +kernel)
set_option maxRecDepth 20000 in
theorem gL_law_X5_append : GoodIn wsL_law (wsV RL 68 RX5 yX5_append wsX5_append) := goodIn_app (goodIn_of _ (by decide +kernel)) ggL_law_X5_append
set_option maxRecDepth 20000 in
theorem ggL_law_X4_clearText : GoodIn wsL_law wsX4_clearText := goodIn_r _ [524, 29, 716, 717, 718, 719, 720, 721, 758, 759, 760, 761, 762, 763, 764, 765] (by decide +kernel) (by decide +kernel)
set_option maxRecDepth 20000 in
theorem gL_law_X4_clearText : GoodIn wsL_law (wsV RL 69 RX4 yX4_clearText wsX4_clearText) := goodIn_app (goodIn_of _ (by decide +kernel)) ggL_law_X4_clearText
set_option maxRecDepth 20000 in
theorem ggL_law_X5_clearText : GoodIn wsL_law wsX5_clearText := goodIn_r _ [528, 520, 722, 723, 724, 725, 726, 727, 728, 729, 730, 731, 732, 733, 734, 735, 736] (by decide +kernel) (by decide +kernel)
set_option maxRecDepth 20000 in
theorem gL_law_X5_clearText : GoodIn wsL_law (wsV RL 72 RX5 yX5_clearText wsX5_clearText) := goodIn_app (goodIn_of _ (by decide +kernel)) ggL_law_X5_clearText
set_option maxRecDepth 20000 in
theorem ggL_law_X4_run : GoodIn wsL_law wsX4_run := goodIn_r _ [532, 16, 15, 29, 88, 89, 90, 14, 91, 34, 35, 36, 37, 38, 39, 40, 41, 42, 43, 44, 45, 46, 92, 2, 93, 94, 95, 96, 97, 98, 99, 100, 101, 533, 534, 535, 536, 537, 538, 539, 28, 540, 68, 70, 541, 542, 543, 544, 66, 73, 72, 155, 156, 545, 546, 547, 548, 549, 69, 550, 551, 552, 553, 554, 555, 556, 71, 557, 558, 559, 560, 106, 107, 561, 562, 563, 564, 25, 565, 143, 144, 145, 146, 147, 148, 149, 150, 151, 152, 153, 154, 180, 181, 182, 183, 184, 185, 186, 187, 188, 189, 190, 191, 274, 275, 276, 277, 278, 279, 280, 281, 282, 283, 284, 285, 286, 287, 288, 289, 290, 291, 292, 293, 314, 315, 316, 317, 318, 319, 320, 321, 334, 335, 336, 337, 350, 351, 352, 24, 353, 58, 59, 60, 354, 233, 234, 235, 236, 237, 238, 239, 240, 241, 242, 355, 356, 357, 358, 359, 360, 361, 362, 363, 364, 365, 366, 367, 368, 62, 369, 370, 371, 372, 61, 373, 374, 375, 376, 377, 378, 379, 380, 381, 566, 567, 568, 569, 108, 109, 110, 111, 21, 112, 113, 114, 20, 115, 54, 53, 116, 117, 118, 119, 120, 52, 121, 716, 717, 718, 719, 720, 721, 758, 759, 760, 761, 762, 763, 764, 765, 737, 738, 739, 740, 741, 742, 743, 744, 745, 746, 747, 748, 749, 753, 754, 755, 756, 757, 750, 751, 752] (by decide +kernel) (by decide +kernel)
set_option maxRecDepth 20000 in
theorem gL_law_X4_run : GoodIn wsL_law (wsV RL 73 RX4 yX4_run wsX4_run) := goodIn_app (goodIn_of _ (by decide +kernel)) ggL_law_X4_run
set_option maxRecDepth 20000 in
theorem ggL_law_X5_run : GoodIn wsL_law wsX5_run := goodIn_r _ [573, 574, 575, 520, 126, 127, 128, 5, 129, 80, 78, 576, 577, 578, 579, 580, 581, 582, 583, 81, 584, 585, 586, 587, 588, 589, 590, 591, 592, 593, 594, 82, 165, 166, 167, 595, 596, 597, 598, 161, 162, 163, 164, 168, 169, 170, 171, 172, 173, 174, 175, 196, 197, 198, 199, 200, 201, 202, 203, 204, 205, 206, 207, 208, 209, 210, 211, 298, 299, 300, 301, 255, 256, 257, 258, 302, 303, 304, 305, 306, 307, 308, 309, 259, 260, 261, 326, 327, 328, 329, 342, 343, 344, 345, 386, 387, 388, 389, 390, 391, 392, 393, 394, 395, 396, 397, 398, 399, 400, 401, 402, 403, 404, 247, 248, 249, 250, 251, 252, 253, 254, 262, 263, 264, 265, 266, 267, 268, 269, 405, 406, 407, 408, 409, 410, 411, 412, 413, 414, 415, 416, 417, 418, 419, 420, 599, 600, 601, 602, 130, 131, 132, 133, 134, 135, 136, 137, 138, 79, 722, 723, 724, 725, 726, 727, 728, 729, 730, 731, 732, 733, 734, 735, 736] (by decide +kernel) (by decide +kernel)
set_option maxRecDepth 20000 in
theorem gL_law_X5_run : GoodIn wsL_law (wsV RL 76 RX5 yX5_run wsX5_run) := goodIn_app (goodIn_of _ (by decide +kernel)) ggL_law_X5_run
set_option maxRecDepth 20000 in
theorem ggL_law_X4_count : GoodIn wsL_law wsX4_count := goodIn_r _ [606, 15, 21, 29, 607, 608, 609, 14, 610, 42, 188, 189, 190, 191, 36, 155, 2, 156, 611, 287, 288, 289, 38, 290, 291, 292, 293, 40, 39, 612, 461, 462, 463, 565, 613, 237, 238, 239, 34, 240, 241, 96, 242, 41, 43, 614, 233, 234, 235, 45, 236, 615, 616, 617, 618, 286, 232, 716, 717, 718, 719, 720, 721, 737, 738, 739, 740, 741, 742, 743, 744, 745, 746, 747, 748, 749, 750, 751, 752, 758, 759, 760, 761, 762, 763, 764, 765] (by decide +kernel) (by decide +kernel)
set_option maxRecDepth 20000 in
theorem gL_law_X4_count : GoodIn wsL_law (wsV RL 77 RX4 yX4_count wsX4_count) := goodIn_app (goodIn_of _ (by decide +kernel)) ggL_law_X4_count
set_option maxRecDepth 20000 in
theorem ggL_law_X5_count : GoodIn wsL_law wsX5_count := goodIn_r _ [622, 78, 138, 520, 262, 263, 264, 5, 265, 623, 624, 625, 626, 204, 205, 206, 207, 266, 267, 268, 269, 255, 256, 257, 258, 306, 307, 308, 309, 208, 209, 210, 211, 259, 260, 261, 480, 481, 482, 483, 172, 173, 174, 175, 168, 169, 170, 171, 165, 166, 167, 251, 252, 253, 254, 247, 248, 249, 250, 401, 402, 403, 404, 722, 723, 724, 725, 726, 727, 728, 729, 730, 731, 732, 733, 734, 735, 736] (by decide +kernel) (by decide +kernel)
set_option maxRecDepth 20000 in
theorem gL_law_X5_count : GoodIn wsL_law (wsV RL 80 RX5 yX5_count wsX5_count) := goodIn_app (goodIn_of _ (by decide +kernel)) ggL_law_X5_count
set_option maxRecDepth 20000 in
theorem ggL_law_X4_server : GoodIn wsL_law wsX4_server := goodIn_r _ [630, 15, 631, 148, 149, 14, 150, 40, 632, 152, 153, 154, 39, 155, 2, 156, 565, 633, 438, 439, 440, 42, 36, 634, 442, 443, 444, 445, 446, 447, 716, 717, 718, 719, 720, 721, 737, 738, 739, 740, 741, 742, 743, 744, 745, 746, 747, 748, 749] (by decide +kernel) (by decide +kernel)
set_option maxRecDepth 20000 in
theorem gL_law_X4_server : GoodIn wsL_law (wsV RL 81 RX4 yX4_server wsX4_server) := goodIn_app (goodIn_of _ (by decide +kernel)) ggL_law_X4_server
set_option maxRecDepth 20000 in
theorem ggL_law_X5_server : GoodIn wsL_law wsX5_server := goodIn_r _ [638, 168, 169, 170, 5, 171, 78, 165, 166, 167, 172, 173, 174, 175, 208, 209, 210, 211, 204, 205, 206, 207, 623, 624, 625, 626, 266, 267, 268, 269, 255, 256, 257, 258, 639, 640, 641, 642, 722, 723, 724, 725, 726, 727, 728, 729, 730, 731, 732, 733, 734, 735, 736] (by decide +kernel) (by decide +kernel)
set_option maxRecDepth 20000 in
theorem gL_law_X5_server : GoodIn wsL_law (wsV RL 84 RX5 yX5_server wsX5_server) := goodIn_app (goodIn_of _ (by decide +kernel)) ggL_law_X5_server
set_option maxRecDepth 20000 in
theorem ggL_law_X4_job : GoodIn wsL_law wsX4_job := goodIn_r _ [646, 15, 647, 185, 186, 14, 187, 42, 565, 155, 2, 156, 716, 717, 718, 719, 720, 721, 737, 738, 739, 740, 741, 742, 743, 744, 745, 746, 747, 748, 749] (by decide +kernel) (by decide +kernel)
set_option maxRecDepth 20000 in
theorem gL_law_X4_job : GoodIn wsL_law (wsV RL 85 RX4 yX4_job wsX4_job) := goodIn_app (goodIn_of _ (by decide +kernel)) ggL_law_X4_job
set_option maxRecDepth 20000 in
theorem ggL_law_X5_job : GoodIn wsL_law wsX5_job := goodIn_r _ [651, 200, 201, 202, 5, 203, 78, 165, 166, 167, 204, 205, 206, 207, 722, 723, 724, 725, 726, 727, 728, 729, 730, 731, 732, 733, 734, 735, 736] (by decide +kernel) (by decide +kernel)
set_option maxRecDepth 20000 in
theorem gL_law_X5_job : GoodIn wsL_law (wsV RL 88 RX5 yX5_job wsX5_job) := goodIn_app (goodIn_of _ (by decide +kernel)) ggL_law_X5_job
set_option maxRecDepth 20000 in
theorem ggL_law_X4_leaving : GoodIn wsL_law wsX4_leaving := goodIn_r _ [655, 15, 631, 148, 149, 14, 150, 40, 656, 449, 450, 451, 42, 36, 155, 2, 156, 452, 453, 454, 455, 456, 457, 458, 459, 34, 35, 716, 717, 718, 719, 720, 721, 737, 738, 739, 740, 741, 742, 743, 744, 745, 746, 747, 748, 749] (by decide +kernel) (by decide +kernel)
set_option maxRecDepth 20000 in
theorem gL_law_X4_leaving : GoodIn wsL_law (wsV RL 89 RX4 yX4_leaving wsX4_leaving) := goodIn_app (goodIn_of _ (by decide +kernel)) ggL_law_X4_leaving
set_option maxRecDepth 20000 in
theorem ggL_law_X5_leaving : GoodIn wsL_law wsX5_leaving := goodIn_r _ [660, 168, 169, 170, 5, 171, 78, 165, 166, 167, 476, 477, 478, 479, 204, 205, 206, 207, 722, 723, 724, 725, 726, 727, 728, 729, 730, 731, 732, 733, 734, 735, 736] (by decide +kernel) (by decide +kernel)
set_option maxRecDepth 20000 in
theorem gL_law_X5_leaving : GoodIn wsL_law (wsV RL 92 RX5 yX5_leaving wsX5_leaving) := goodIn_app (goodIn_of _ (by decide +kernel)) ggL_law_X5_leaving
set_option maxRecDepth 20000 in
theorem ggL_law_X4_step : GoodIn wsL_law wsX4_step := goodIn_r _ [664, 25, 15, 614, 233, 234, 14, 235, 45, 236, 237, 238, 239, 42, 36, 34, 240, 241, 96, 242, 41, 43, 155, 2, 156, 665, 356, 357, 24, 358, 359, 291, 292, 293, 40, 38, 39, 360, 361, 362, 363, 364, 365, 366, 367, 368, 58, 62, 369, 370, 371, 372, 61, 59, 60, 373, 374, 375, 376, 377, 378, 379, 380, 716, 717, 718, 719, 720, 721, 753, 754, 755, 756, 757, 737, 738, 739, 740, 741, 742, 743, 744, 745, 746, 747, 748, 749] (by decide +kernel) (by decide +kernel)
set_option maxRecDepth 20000 in
theorem gL_law_X4_step : GoodIn wsL_law (wsV RL 93 RX4 yX4_step wsX4_step) := goodIn_app (goodIn_of _ (by decide +kernel)) ggL_law_X4_step
set_option maxRecDepth 20000 in
theorem ggL_law_X5_step : GoodIn wsL_law wsX5_step := goodIn_r _ [669, 395, 396, 394, 416, 165, 166, 5, 167, 397, 398, 399, 400, 401, 402, 403, 404, 306, 307, 308, 309, 78, 208, 209, 210, 211, 204, 205, 206, 207, 259, 260, 261, 247, 248, 249, 250, 251, 252, 253, 254, 255, 256, 257, 258, 262, 263, 264, 265, 266, 267, 268, 269, 405, 406, 407, 408, 172, 173, 174, 175, 168, 169, 170, 171, 409, 410, 411, 412, 413, 414, 415, 417, 418, 419, 420, 722, 723, 724, 725, 726, 727, 728, 729, 730, 731, 732, 733, 734, 735, 736] (by decide +kernel) (by decide +kernel)
set_option maxRecDepth 20000 in
theorem gL_law_X5_step : GoodIn wsL_law (wsV RL 96 RX5 yX5_step wsX5_step) := goodIn_app (goodIn_of _ (by decide +kernel)) ggL_law_X5_step
set_option maxRecDepth 20000 in
theorem ggL_law_X4_plan : GoodIn wsL_law wsX4_plan := goodIn_r _ [673, 17, 15, 25, 88, 89, 90, 14, 91, 34, 35, 36, 37, 38, 39, 40, 41, 42, 43, 44, 45, 46, 92, 2, 93, 94, 95, 96, 97, 98, 99, 100, 101, 350, 351, 352, 24, 353, 58, 59, 60, 354, 233, 234, 235, 236, 237, 238, 239, 240, 241, 242, 155, 156, 355, 356, 357, 358, 359, 291, 292, 293, 360, 361, 362, 363, 364, 365, 366, 367, 368, 62, 369, 370, 371, 372, 61, 373, 374, 375, 376, 377, 378, 379, 380, 381, 279, 280, 281, 282, 283, 284, 285, 106, 107, 611, 287, 288, 289, 290, 615, 616, 617, 618, 286, 232, 716, 717, 718, 719, 720, 721, 737, 738, 739, 740, 741, 742, 743, 744, 745, 746, 747, 748, 749, 753, 754, 755, 756, 757] (by decide +kernel) (by decide +kernel)
set_option maxRecDepth 20000 in
theorem gL_law_X4_plan : GoodIn wsL_law (wsV RL 97 RX4 yX4_plan wsX4_plan) := goodIn_app (goodIn_of _ (by decide +kernel)) ggL_law_X4_plan
set_option maxRecDepth 20000 in
theorem ggL_law_X5_plan : GoodIn wsL_law wsX5_plan := goodIn_r _ [677, 78, 80, 165, 166, 5, 167, 126, 127, 128, 129, 390, 391, 392, 393, 394, 395, 396, 397, 398, 399, 400, 401, 402, 403, 404, 306, 307, 308, 309, 208, 209, 210, 211, 204, 205, 206, 207, 259, 260, 261, 247, 248, 249, 250, 251, 252, 253, 254, 255, 256, 257, 258, 262, 263, 264, 265, 266, 267, 268, 269, 405, 406, 407, 408, 172, 173, 174, 175, 168, 169, 170, 171, 409, 410, 411, 412, 413, 414, 415, 416, 417, 418, 419, 420, 298, 299, 300, 301, 200, 201, 202, 203, 302, 303, 304, 305, 326, 327, 328, 329, 599, 600, 601, 602, 722, 723, 724, 725, 726, 727, 728, 729, 730, 731, 732, 733, 734, 735, 736] (by decide +kernel) (by decide +kernel)
set_option maxRecDepth 20000 in
theorem gL_law_X5_plan : GoodIn wsL_law (wsV RL 100 RX5 yX5_plan wsX5_plan) := goodIn_app (goodIn_of _ (by decide +kernel)) ggL_law_X5_plan
set_option maxRecDepth 20000 in
theorem ggL_law_X4_fewest : GoodIn wsL_law wsX4_fewest := goodIn_r _ [681, 17, 15, 88, 89, 90, 14, 91, 34, 35, 36, 37, 38, 39, 40, 41, 42, 43, 44, 45, 46, 92, 2, 93, 94, 95, 96, 97, 98, 99, 100, 101, 614, 233, 234, 235, 236, 237, 238, 239, 240, 241, 242, 155, 156, 682, 683, 684, 685, 686, 687, 688, 565, 632, 152, 153, 154, 689, 283, 284, 285, 106, 107, 716, 717, 718, 719, 720, 721, 737, 738, 739, 740, 741, 742, 743, 744, 745, 746, 747, 748, 749] (by decide +kernel) (by decide +kernel)
set_option maxRecDepth 20000 in
theorem gL_law_X4_fewest : GoodIn wsL_law (wsV RL 101 RX4 yX4_fewest wsX4_fewest) := goodIn_app (goodIn_of _ (by decide +kernel)) ggL_law_X4_fewest
set_option maxRecDepth 20000 in
theorem ggL_law_X5_fewest : GoodIn wsL_law wsX5_fewest := goodIn_r _ [693, 83, 78, 694, 165, 166, 5, 167, 401, 402, 403, 404, 306, 307, 308, 309, 208, 209, 210, 211, 204, 205, 206, 207, 259, 260, 261, 247, 248, 249, 250, 251, 252, 253, 254, 255, 256, 257, 258, 262, 263, 264, 265, 266, 267, 268, 269, 695, 696, 697, 698, 172, 173, 174, 175, 168, 169, 170, 171, 699, 700, 701, 702, 703, 704, 705, 706, 722, 723, 724, 725, 726, 727, 728, 729, 730, 731, 732, 733, 734, 735, 736] (by decide +kernel) (by decide +kernel)
set_option maxRecDepth 20000 in
theorem gL_law_X5_fewest : GoodIn wsL_law (wsV RL 104 RX5 yX5_fewest wsX5_fewest) := goodIn_app (goodIn_of _ (by decide +kernel)) ggL_law_X5_fewest
set_option maxRecDepth 20000 in
theorem ggL_law_X4_without : GoodIn wsL_law wsX4_without := goodIn_r _ [710, 15, 17, 631, 148, 149, 14, 150, 40, 632, 152, 153, 154, 39, 155, 2, 156, 88, 89, 90, 91, 34, 35, 36, 37, 38, 41, 42, 43, 44, 45, 46, 92, 93, 94, 95, 96, 97, 98, 99, 100, 101, 711, 434, 435, 436, 106, 107, 437, 438, 439, 440, 441, 442, 443, 444, 445, 446, 447, 448, 449, 450, 451, 452, 453, 454, 455, 456, 457, 458, 459, 460, 461, 462, 463, 278, 279, 280, 281, 282, 283, 284, 285, 611, 287, 288, 289, 290, 291, 292, 293, 716, 717, 718, 719, 720, 721, 737, 738, 739, 740, 741, 742, 743, 744, 745, 746, 747, 748, 749] (by decide +kernel) (by decide +kernel)
set_option maxRecDepth 20000 in
theorem gL_law_X4_without : GoodIn wsL_law (wsV RL 105 RX4 yX4_without wsX4_without) := goodIn_app (goodIn_of _ (by decide +kernel)) ggL_law_X4_without
set_option maxRecDepth 20000 in
theorem ggL_law_X5_without : GoodIn wsL_law wsX5_without := goodIn_r _ [715, 168, 169, 170, 5, 171, 78, 165, 166, 167, 172, 173, 174, 175, 262, 263, 264, 265, 126, 127, 128, 129, 80, 472, 473, 474, 475, 476, 477, 478, 479, 204, 205, 206, 207, 480, 481, 482, 483, 208, 209, 210, 211, 302, 303, 304, 305, 306, 307, 308, 309, 259, 260, 261, 599, 600, 601, 602, 722, 723, 724, 725, 726, 727, 728, 729, 730, 731, 732, 733, 734, 735, 736] (by decide +kernel) (by decide +kernel)
set_option maxRecDepth 20000 in
theorem gL_law_X5_without : GoodIn wsL_law (wsV RL 108 RX5 yX5_without wsX5_without) := goodIn_app (goodIn_of _ (by decide +kernel)) ggL_law_X5_without
theorem dL_law_0 : decode cL_law 0 = .ok (.new 7, 3) := by decide +kernel
theorem dL_law_3 : decode cL_law 3 = .ok (.dup, 1) := by decide +kernel
theorem dL_law_4 : decode cL_law 4 = .ok (.invokespecial 9, 3) := by decide +kernel
theorem dL_law_7 : decode cL_law 7 = .ok (.astore_n 1, 1) := by decide +kernel
theorem dL_law_8 : decode cL_law 8 = .ok (.new 10, 3) := by decide +kernel
theorem dL_law_11 : decode cL_law 11 = .ok (.dup, 1) := by decide +kernel
theorem dL_law_12 : decode cL_law 12 = .ok (.invokespecial 12, 3) := by decide +kernel
theorem dL_law_15 : decode cL_law 15 = .ok (.astore_n 2, 1) := by decide +kernel
theorem dL_law_16 : decode cL_law 16 = .ok (.iconst 0, 1) := by decide +kernel
theorem dL_law_17 : decode cL_law 17 = .ok (.istore_n 3, 1) := by decide +kernel
theorem dL_law_18 : decode cL_law 18 = .ok (.iload_n 3, 1) := by decide +kernel
theorem dL_law_19 : decode cL_law 19 = .ok (.aload_n 0, 1) := by decide +kernel
theorem dL_law_20 : decode cL_law 20 = .ok (.arraylength, 1) := by decide +kernel
theorem dL_law_21 : decode cL_law 21 = .ok (.iconst 4, 1) := by decide +kernel
theorem dL_law_22 : decode cL_law 22 = .ok (.isub, 1) := by decide +kernel
theorem dL_law_23 : decode cL_law 23 = .ok (.if_icmp .gt 702, 3) := by decide +kernel
theorem dL_law_26 : decode cL_law 26 = .ok (.aload_n 0, 1) := by decide +kernel
theorem dL_law_27 : decode cL_law 27 = .ok (.iload_n 3, 1) := by decide +kernel
theorem dL_law_28 : decode cL_law 28 = .ok (.iaload, 1) := by decide +kernel
theorem dL_law_29 : decode cL_law 29 = .ok (.bipush 31, 2) := by decide +kernel
theorem dL_law_31 : decode cL_law 31 = .ok (.iand, 1) := by decide +kernel
theorem dL_law_32 : decode cL_law 32 = .ok (.tableswitch 687 0 22 #[108, 121, 164, 187, 210, 233, 266, 299, 342, 365, 388, 411, 424, 447, 460, 473, 496, 529, 562, 595, 618, 641, 664], 108) := by decide +kernel
theorem dL_law_140 : decode cL_law 140 = .ok (.aload_n 1, 1) := by decide +kernel
theorem dL_law_141 : decode cL_law 141 = .ok (.invokevirtual 13, 3) := by decide +kernel
theorem dL_law_144 : decode cL_law 144 = .ok (.aload_n 2, 1) := by decide +kernel
theorem dL_law_145 : decode cL_law 145 = .ok (.invokevirtual 17, 3) := by decide +kernel
theorem dL_law_148 : decode cL_law 148 = .ok (.if_icmp .eq 571, 3) := by decide +kernel
theorem dL_law_151 : decode cL_law 151 = .ok (.iconst 0, 1) := by decide +kernel
theorem dL_law_152 : decode cL_law 152 = .ok (.ireturn, 1) := by decide +kernel
theorem dL_law_153 : decode cL_law 153 = .ok (.aload_n 1, 1) := by decide +kernel
theorem dL_law_154 : decode cL_law 154 = .ok (.aload_n 0, 1) := by decide +kernel
theorem dL_law_155 : decode cL_law 155 = .ok (.iload_n 3, 1) := by decide +kernel
theorem dL_law_156 : decode cL_law 156 = .ok (.iconst 1, 1) := by decide +kernel
theorem dL_law_157 : decode cL_law 157 = .ok (.iadd, 1) := by decide +kernel
theorem dL_law_158 : decode cL_law 158 = .ok (.iaload, 1) := by decide +kernel
theorem dL_law_159 : decode cL_law 159 = .ok (.aload_n 0, 1) := by decide +kernel
theorem dL_law_160 : decode cL_law 160 = .ok (.iload_n 3, 1) := by decide +kernel
theorem dL_law_161 : decode cL_law 161 = .ok (.iconst 2, 1) := by decide +kernel
theorem dL_law_162 : decode cL_law 162 = .ok (.iadd, 1) := by decide +kernel
theorem dL_law_163 : decode cL_law 163 = .ok (.iaload, 1) := by decide +kernel
theorem dL_law_164 : decode cL_law 164 = .ok (.aload_n 0, 1) := by decide +kernel
theorem dL_law_165 : decode cL_law 165 = .ok (.iload_n 3, 1) := by decide +kernel
theorem dL_law_166 : decode cL_law 166 = .ok (.iconst 3, 1) := by decide +kernel
theorem dL_law_167 : decode cL_law 167 = .ok (.iadd, 1) := by decide +kernel
theorem dL_law_168 : decode cL_law 168 = .ok (.iaload, 1) := by decide +kernel
theorem dL_law_169 : decode cL_law 169 = .ok (.invokevirtual 18, 3) := by decide +kernel
theorem dL_law_172 : decode cL_law 172 = .ok (.aload_n 2, 1) := by decide +kernel
theorem dL_law_173 : decode cL_law 173 = .ok (.aload_n 0, 1) := by decide +kernel
theorem dL_law_174 : decode cL_law 174 = .ok (.iload_n 3, 1) := by decide +kernel
theorem dL_law_175 : decode cL_law 175 = .ok (.iconst 1, 1) := by decide +kernel
theorem dL_law_176 : decode cL_law 176 = .ok (.iadd, 1) := by decide +kernel
theorem dL_law_177 : decode cL_law 177 = .ok (.iaload, 1) := by decide +kernel
theorem dL_law_178 : decode cL_law 178 = .ok (.aload_n 0, 1) := by decide +kernel
theorem dL_law_179 : decode cL_law 179 = .ok (.iload_n 3, 1) := by decide +kernel
theorem dL_law_180 : decode cL_law 180 = .ok (.iconst 2, 1) := by decide +kernel
theorem dL_law_181 : decode cL_law 181 = .ok (.iadd, 1) := by decide +kernel
theorem dL_law_182 : decode cL_law 182 = .ok (.iaload, 1) := by decide +kernel
theorem dL_law_183 : decode cL_law 183 = .ok (.aload_n 0, 1) := by decide +kernel
theorem dL_law_184 : decode cL_law 184 = .ok (.iload_n 3, 1) := by decide +kernel
theorem dL_law_185 : decode cL_law 185 = .ok (.iconst 3, 1) := by decide +kernel
theorem dL_law_186 : decode cL_law 186 = .ok (.iadd, 1) := by decide +kernel
theorem dL_law_187 : decode cL_law 187 = .ok (.iaload, 1) := by decide +kernel
theorem dL_law_188 : decode cL_law 188 = .ok (.invokevirtual 22, 3) := by decide +kernel
theorem dL_law_191 : decode cL_law 191 = .ok (.if_icmp .eq 528, 3) := by decide +kernel
theorem dL_law_194 : decode cL_law 194 = .ok (.iconst 0, 1) := by decide +kernel
theorem dL_law_195 : decode cL_law 195 = .ok (.ireturn, 1) := by decide +kernel
theorem dL_law_196 : decode cL_law 196 = .ok (.aload_n 1, 1) := by decide +kernel
theorem dL_law_197 : decode cL_law 197 = .ok (.aload_n 0, 1) := by decide +kernel
theorem dL_law_198 : decode cL_law 198 = .ok (.iload_n 3, 1) := by decide +kernel
theorem dL_law_199 : decode cL_law 199 = .ok (.iconst 1, 1) := by decide +kernel
theorem dL_law_200 : decode cL_law 200 = .ok (.iadd, 1) := by decide +kernel
theorem dL_law_201 : decode cL_law 201 = .ok (.iaload, 1) := by decide +kernel
theorem dL_law_202 : decode cL_law 202 = .ok (.invokevirtual 23, 3) := by decide +kernel
theorem dL_law_205 : decode cL_law 205 = .ok (.aload_n 2, 1) := by decide +kernel
theorem dL_law_206 : decode cL_law 206 = .ok (.aload_n 0, 1) := by decide +kernel
theorem dL_law_207 : decode cL_law 207 = .ok (.iload_n 3, 1) := by decide +kernel
theorem dL_law_208 : decode cL_law 208 = .ok (.iconst 1, 1) := by decide +kernel
theorem dL_law_209 : decode cL_law 209 = .ok (.iadd, 1) := by decide +kernel
theorem dL_law_210 : decode cL_law 210 = .ok (.iaload, 1) := by decide +kernel
theorem dL_law_211 : decode cL_law 211 = .ok (.invokevirtual 27, 3) := by decide +kernel
theorem dL_law_214 : decode cL_law 214 = .ok (.if_icmp .eq 505, 3) := by decide +kernel
theorem dL_law_217 : decode cL_law 217 = .ok (.iconst 0, 1) := by decide +kernel
theorem dL_law_218 : decode cL_law 218 = .ok (.ireturn, 1) := by decide +kernel
theorem dL_law_219 : decode cL_law 219 = .ok (.aload_n 1, 1) := by decide +kernel
theorem dL_law_220 : decode cL_law 220 = .ok (.aload_n 0, 1) := by decide +kernel
theorem dL_law_221 : decode cL_law 221 = .ok (.iload_n 3, 1) := by decide +kernel
theorem dL_law_222 : decode cL_law 222 = .ok (.iconst 1, 1) := by decide +kernel
theorem dL_law_223 : decode cL_law 223 = .ok (.iadd, 1) := by decide +kernel
theorem dL_law_224 : decode cL_law 224 = .ok (.iaload, 1) := by decide +kernel
theorem dL_law_225 : decode cL_law 225 = .ok (.invokevirtual 28, 3) := by decide +kernel
theorem dL_law_228 : decode cL_law 228 = .ok (.aload_n 2, 1) := by decide +kernel
theorem dL_law_229 : decode cL_law 229 = .ok (.aload_n 0, 1) := by decide +kernel
theorem dL_law_230 : decode cL_law 230 = .ok (.iload_n 3, 1) := by decide +kernel
theorem dL_law_231 : decode cL_law 231 = .ok (.iconst 1, 1) := by decide +kernel
theorem dL_law_232 : decode cL_law 232 = .ok (.iadd, 1) := by decide +kernel
theorem dL_law_233 : decode cL_law 233 = .ok (.iaload, 1) := by decide +kernel
theorem dL_law_234 : decode cL_law 234 = .ok (.invokevirtual 31, 3) := by decide +kernel
theorem dL_law_237 : decode cL_law 237 = .ok (.if_icmp .eq 482, 3) := by decide +kernel
theorem dL_law_240 : decode cL_law 240 = .ok (.iconst 0, 1) := by decide +kernel
theorem dL_law_241 : decode cL_law 241 = .ok (.ireturn, 1) := by decide +kernel
theorem dL_law_242 : decode cL_law 242 = .ok (.aload_n 1, 1) := by decide +kernel
theorem dL_law_243 : decode cL_law 243 = .ok (.aload_n 0, 1) := by decide +kernel
theorem dL_law_244 : decode cL_law 244 = .ok (.iload_n 3, 1) := by decide +kernel
theorem dL_law_245 : decode cL_law 245 = .ok (.iconst 1, 1) := by decide +kernel
theorem dL_law_246 : decode cL_law 246 = .ok (.iadd, 1) := by decide +kernel
theorem dL_law_247 : decode cL_law 247 = .ok (.iaload, 1) := by decide +kernel
theorem dL_law_248 : decode cL_law 248 = .ok (.invokevirtual 32, 3) := by decide +kernel
theorem dL_law_251 : decode cL_law 251 = .ok (.aload_n 2, 1) := by decide +kernel
theorem dL_law_252 : decode cL_law 252 = .ok (.aload_n 0, 1) := by decide +kernel
theorem dL_law_253 : decode cL_law 253 = .ok (.iload_n 3, 1) := by decide +kernel
theorem dL_law_254 : decode cL_law 254 = .ok (.iconst 1, 1) := by decide +kernel
theorem dL_law_255 : decode cL_law 255 = .ok (.iadd, 1) := by decide +kernel
theorem dL_law_256 : decode cL_law 256 = .ok (.iaload, 1) := by decide +kernel
theorem dL_law_257 : decode cL_law 257 = .ok (.invokevirtual 35, 3) := by decide +kernel
theorem dL_law_260 : decode cL_law 260 = .ok (.if_icmp .eq 459, 3) := by decide +kernel
theorem dL_law_263 : decode cL_law 263 = .ok (.iconst 0, 1) := by decide +kernel
theorem dL_law_264 : decode cL_law 264 = .ok (.ireturn, 1) := by decide +kernel
theorem dL_law_265 : decode cL_law 265 = .ok (.aload_n 1, 1) := by decide +kernel
theorem dL_law_266 : decode cL_law 266 = .ok (.aload_n 0, 1) := by decide +kernel
theorem dL_law_267 : decode cL_law 267 = .ok (.iload_n 3, 1) := by decide +kernel
theorem dL_law_268 : decode cL_law 268 = .ok (.iconst 1, 1) := by decide +kernel
theorem dL_law_269 : decode cL_law 269 = .ok (.iadd, 1) := by decide +kernel
theorem dL_law_270 : decode cL_law 270 = .ok (.iaload, 1) := by decide +kernel
theorem dL_law_271 : decode cL_law 271 = .ok (.aload_n 0, 1) := by decide +kernel
theorem dL_law_272 : decode cL_law 272 = .ok (.iload_n 3, 1) := by decide +kernel
theorem dL_law_273 : decode cL_law 273 = .ok (.iconst 2, 1) := by decide +kernel
theorem dL_law_274 : decode cL_law 274 = .ok (.iadd, 1) := by decide +kernel
theorem dL_law_275 : decode cL_law 275 = .ok (.iaload, 1) := by decide +kernel
theorem dL_law_276 : decode cL_law 276 = .ok (.invokevirtual 36, 3) := by decide +kernel
theorem dL_law_279 : decode cL_law 279 = .ok (.aload_n 2, 1) := by decide +kernel
theorem dL_law_280 : decode cL_law 280 = .ok (.aload_n 0, 1) := by decide +kernel
theorem dL_law_281 : decode cL_law 281 = .ok (.iload_n 3, 1) := by decide +kernel
theorem dL_law_282 : decode cL_law 282 = .ok (.iconst 1, 1) := by decide +kernel
theorem dL_law_283 : decode cL_law 283 = .ok (.iadd, 1) := by decide +kernel
theorem dL_law_284 : decode cL_law 284 = .ok (.iaload, 1) := by decide +kernel
theorem dL_law_285 : decode cL_law 285 = .ok (.aload_n 0, 1) := by decide +kernel
theorem dL_law_286 : decode cL_law 286 = .ok (.iload_n 3, 1) := by decide +kernel
theorem dL_law_287 : decode cL_law 287 = .ok (.iconst 2, 1) := by decide +kernel
theorem dL_law_288 : decode cL_law 288 = .ok (.iadd, 1) := by decide +kernel
theorem dL_law_289 : decode cL_law 289 = .ok (.iaload, 1) := by decide +kernel
theorem dL_law_290 : decode cL_law 290 = .ok (.invokevirtual 40, 3) := by decide +kernel
theorem dL_law_293 : decode cL_law 293 = .ok (.if_icmp .eq 426, 3) := by decide +kernel
theorem dL_law_296 : decode cL_law 296 = .ok (.iconst 0, 1) := by decide +kernel
theorem dL_law_297 : decode cL_law 297 = .ok (.ireturn, 1) := by decide +kernel
theorem dL_law_298 : decode cL_law 298 = .ok (.aload_n 1, 1) := by decide +kernel
theorem dL_law_299 : decode cL_law 299 = .ok (.aload_n 0, 1) := by decide +kernel
theorem dL_law_300 : decode cL_law 300 = .ok (.iload_n 3, 1) := by decide +kernel
theorem dL_law_301 : decode cL_law 301 = .ok (.iconst 1, 1) := by decide +kernel
theorem dL_law_302 : decode cL_law 302 = .ok (.iadd, 1) := by decide +kernel
theorem dL_law_303 : decode cL_law 303 = .ok (.iaload, 1) := by decide +kernel
theorem dL_law_304 : decode cL_law 304 = .ok (.aload_n 0, 1) := by decide +kernel
theorem dL_law_305 : decode cL_law 305 = .ok (.iload_n 3, 1) := by decide +kernel
theorem dL_law_306 : decode cL_law 306 = .ok (.iconst 2, 1) := by decide +kernel
theorem dL_law_307 : decode cL_law 307 = .ok (.iadd, 1) := by decide +kernel
theorem dL_law_308 : decode cL_law 308 = .ok (.iaload, 1) := by decide +kernel
theorem dL_law_309 : decode cL_law 309 = .ok (.invokevirtual 41, 3) := by decide +kernel
theorem dL_law_312 : decode cL_law 312 = .ok (.aload_n 2, 1) := by decide +kernel
theorem dL_law_313 : decode cL_law 313 = .ok (.aload_n 0, 1) := by decide +kernel
theorem dL_law_314 : decode cL_law 314 = .ok (.iload_n 3, 1) := by decide +kernel
theorem dL_law_315 : decode cL_law 315 = .ok (.iconst 1, 1) := by decide +kernel
theorem dL_law_316 : decode cL_law 316 = .ok (.iadd, 1) := by decide +kernel
theorem dL_law_317 : decode cL_law 317 = .ok (.iaload, 1) := by decide +kernel
theorem dL_law_318 : decode cL_law 318 = .ok (.aload_n 0, 1) := by decide +kernel
theorem dL_law_319 : decode cL_law 319 = .ok (.iload_n 3, 1) := by decide +kernel
theorem dL_law_320 : decode cL_law 320 = .ok (.iconst 2, 1) := by decide +kernel
theorem dL_law_321 : decode cL_law 321 = .ok (.iadd, 1) := by decide +kernel
theorem dL_law_322 : decode cL_law 322 = .ok (.iaload, 1) := by decide +kernel
theorem dL_law_323 : decode cL_law 323 = .ok (.invokevirtual 44, 3) := by decide +kernel
theorem dL_law_326 : decode cL_law 326 = .ok (.if_icmp .eq 393, 3) := by decide +kernel
theorem dL_law_329 : decode cL_law 329 = .ok (.iconst 0, 1) := by decide +kernel
theorem dL_law_330 : decode cL_law 330 = .ok (.ireturn, 1) := by decide +kernel
theorem dL_law_331 : decode cL_law 331 = .ok (.aload_n 1, 1) := by decide +kernel
theorem dL_law_332 : decode cL_law 332 = .ok (.aload_n 0, 1) := by decide +kernel
theorem dL_law_333 : decode cL_law 333 = .ok (.iload_n 3, 1) := by decide +kernel
theorem dL_law_334 : decode cL_law 334 = .ok (.iconst 1, 1) := by decide +kernel
theorem dL_law_335 : decode cL_law 335 = .ok (.iadd, 1) := by decide +kernel
theorem dL_law_336 : decode cL_law 336 = .ok (.iaload, 1) := by decide +kernel
theorem dL_law_337 : decode cL_law 337 = .ok (.aload_n 0, 1) := by decide +kernel
theorem dL_law_338 : decode cL_law 338 = .ok (.iload_n 3, 1) := by decide +kernel
theorem dL_law_339 : decode cL_law 339 = .ok (.iconst 2, 1) := by decide +kernel
theorem dL_law_340 : decode cL_law 340 = .ok (.iadd, 1) := by decide +kernel
theorem dL_law_341 : decode cL_law 341 = .ok (.iaload, 1) := by decide +kernel
theorem dL_law_342 : decode cL_law 342 = .ok (.aload_n 0, 1) := by decide +kernel
theorem dL_law_343 : decode cL_law 343 = .ok (.iload_n 3, 1) := by decide +kernel
theorem dL_law_344 : decode cL_law 344 = .ok (.iconst 3, 1) := by decide +kernel
theorem dL_law_345 : decode cL_law 345 = .ok (.iadd, 1) := by decide +kernel
theorem dL_law_346 : decode cL_law 346 = .ok (.iaload, 1) := by decide +kernel
theorem dL_law_347 : decode cL_law 347 = .ok (.invokevirtual 45, 3) := by decide +kernel
theorem dL_law_350 : decode cL_law 350 = .ok (.aload_n 2, 1) := by decide +kernel
theorem dL_law_351 : decode cL_law 351 = .ok (.aload_n 0, 1) := by decide +kernel
theorem dL_law_352 : decode cL_law 352 = .ok (.iload_n 3, 1) := by decide +kernel
theorem dL_law_353 : decode cL_law 353 = .ok (.iconst 1, 1) := by decide +kernel
theorem dL_law_354 : decode cL_law 354 = .ok (.iadd, 1) := by decide +kernel
theorem dL_law_355 : decode cL_law 355 = .ok (.iaload, 1) := by decide +kernel
theorem dL_law_356 : decode cL_law 356 = .ok (.aload_n 0, 1) := by decide +kernel
theorem dL_law_357 : decode cL_law 357 = .ok (.iload_n 3, 1) := by decide +kernel
theorem dL_law_358 : decode cL_law 358 = .ok (.iconst 2, 1) := by decide +kernel
theorem dL_law_359 : decode cL_law 359 = .ok (.iadd, 1) := by decide +kernel
theorem dL_law_360 : decode cL_law 360 = .ok (.iaload, 1) := by decide +kernel
theorem dL_law_361 : decode cL_law 361 = .ok (.aload_n 0, 1) := by decide +kernel
theorem dL_law_362 : decode cL_law 362 = .ok (.iload_n 3, 1) := by decide +kernel
theorem dL_law_363 : decode cL_law 363 = .ok (.iconst 3, 1) := by decide +kernel
theorem dL_law_364 : decode cL_law 364 = .ok (.iadd, 1) := by decide +kernel
theorem dL_law_365 : decode cL_law 365 = .ok (.iaload, 1) := by decide +kernel
theorem dL_law_366 : decode cL_law 366 = .ok (.invokevirtual 48, 3) := by decide +kernel
theorem dL_law_369 : decode cL_law 369 = .ok (.if_icmp .eq 350, 3) := by decide +kernel
theorem dL_law_372 : decode cL_law 372 = .ok (.iconst 0, 1) := by decide +kernel
theorem dL_law_373 : decode cL_law 373 = .ok (.ireturn, 1) := by decide +kernel
theorem dL_law_374 : decode cL_law 374 = .ok (.aload_n 1, 1) := by decide +kernel
theorem dL_law_375 : decode cL_law 375 = .ok (.aload_n 0, 1) := by decide +kernel
theorem dL_law_376 : decode cL_law 376 = .ok (.iload_n 3, 1) := by decide +kernel
theorem dL_law_377 : decode cL_law 377 = .ok (.iconst 1, 1) := by decide +kernel
theorem dL_law_378 : decode cL_law 378 = .ok (.iadd, 1) := by decide +kernel
theorem dL_law_379 : decode cL_law 379 = .ok (.iaload, 1) := by decide +kernel
theorem dL_law_380 : decode cL_law 380 = .ok (.invokevirtual 49, 3) := by decide +kernel
theorem dL_law_383 : decode cL_law 383 = .ok (.aload_n 2, 1) := by decide +kernel
theorem dL_law_384 : decode cL_law 384 = .ok (.aload_n 0, 1) := by decide +kernel
theorem dL_law_385 : decode cL_law 385 = .ok (.iload_n 3, 1) := by decide +kernel
theorem dL_law_386 : decode cL_law 386 = .ok (.iconst 1, 1) := by decide +kernel
theorem dL_law_387 : decode cL_law 387 = .ok (.iadd, 1) := by decide +kernel
theorem dL_law_388 : decode cL_law 388 = .ok (.iaload, 1) := by decide +kernel
theorem dL_law_389 : decode cL_law 389 = .ok (.invokevirtual 52, 3) := by decide +kernel
theorem dL_law_392 : decode cL_law 392 = .ok (.if_icmp .eq 327, 3) := by decide +kernel
theorem dL_law_395 : decode cL_law 395 = .ok (.iconst 0, 1) := by decide +kernel
theorem dL_law_396 : decode cL_law 396 = .ok (.ireturn, 1) := by decide +kernel
theorem dL_law_397 : decode cL_law 397 = .ok (.aload_n 1, 1) := by decide +kernel
theorem dL_law_398 : decode cL_law 398 = .ok (.aload_n 0, 1) := by decide +kernel
theorem dL_law_399 : decode cL_law 399 = .ok (.iload_n 3, 1) := by decide +kernel
theorem dL_law_400 : decode cL_law 400 = .ok (.iconst 1, 1) := by decide +kernel
theorem dL_law_401 : decode cL_law 401 = .ok (.iadd, 1) := by decide +kernel
theorem dL_law_402 : decode cL_law 402 = .ok (.iaload, 1) := by decide +kernel
theorem dL_law_403 : decode cL_law 403 = .ok (.invokevirtual 53, 3) := by decide +kernel
theorem dL_law_406 : decode cL_law 406 = .ok (.aload_n 2, 1) := by decide +kernel
theorem dL_law_407 : decode cL_law 407 = .ok (.aload_n 0, 1) := by decide +kernel
theorem dL_law_408 : decode cL_law 408 = .ok (.iload_n 3, 1) := by decide +kernel
theorem dL_law_409 : decode cL_law 409 = .ok (.iconst 1, 1) := by decide +kernel
theorem dL_law_410 : decode cL_law 410 = .ok (.iadd, 1) := by decide +kernel
theorem dL_law_411 : decode cL_law 411 = .ok (.iaload, 1) := by decide +kernel
theorem dL_law_412 : decode cL_law 412 = .ok (.invokevirtual 56, 3) := by decide +kernel
theorem dL_law_415 : decode cL_law 415 = .ok (.if_icmp .eq 304, 3) := by decide +kernel
theorem dL_law_418 : decode cL_law 418 = .ok (.iconst 0, 1) := by decide +kernel
theorem dL_law_419 : decode cL_law 419 = .ok (.ireturn, 1) := by decide +kernel
theorem dL_law_420 : decode cL_law 420 = .ok (.aload_n 1, 1) := by decide +kernel
theorem dL_law_421 : decode cL_law 421 = .ok (.aload_n 0, 1) := by decide +kernel
theorem dL_law_422 : decode cL_law 422 = .ok (.iload_n 3, 1) := by decide +kernel
theorem dL_law_423 : decode cL_law 423 = .ok (.iconst 1, 1) := by decide +kernel
theorem dL_law_424 : decode cL_law 424 = .ok (.iadd, 1) := by decide +kernel
theorem dL_law_425 : decode cL_law 425 = .ok (.iaload, 1) := by decide +kernel
theorem dL_law_426 : decode cL_law 426 = .ok (.invokevirtual 57, 3) := by decide +kernel
theorem dL_law_429 : decode cL_law 429 = .ok (.aload_n 2, 1) := by decide +kernel
theorem dL_law_430 : decode cL_law 430 = .ok (.aload_n 0, 1) := by decide +kernel
theorem dL_law_431 : decode cL_law 431 = .ok (.iload_n 3, 1) := by decide +kernel
theorem dL_law_432 : decode cL_law 432 = .ok (.iconst 1, 1) := by decide +kernel
theorem dL_law_433 : decode cL_law 433 = .ok (.iadd, 1) := by decide +kernel
theorem dL_law_434 : decode cL_law 434 = .ok (.iaload, 1) := by decide +kernel
theorem dL_law_435 : decode cL_law 435 = .ok (.invokevirtual 60, 3) := by decide +kernel
theorem dL_law_438 : decode cL_law 438 = .ok (.if_icmp .eq 281, 3) := by decide +kernel
theorem dL_law_441 : decode cL_law 441 = .ok (.iconst 0, 1) := by decide +kernel
theorem dL_law_442 : decode cL_law 442 = .ok (.ireturn, 1) := by decide +kernel
theorem dL_law_443 : decode cL_law 443 = .ok (.aload_n 1, 1) := by decide +kernel
theorem dL_law_444 : decode cL_law 444 = .ok (.invokevirtual 61, 3) := by decide +kernel
theorem dL_law_447 : decode cL_law 447 = .ok (.aload_n 2, 1) := by decide +kernel
theorem dL_law_448 : decode cL_law 448 = .ok (.invokevirtual 64, 3) := by decide +kernel
theorem dL_law_451 : decode cL_law 451 = .ok (.if_icmp .eq 268, 3) := by decide +kernel
theorem dL_law_454 : decode cL_law 454 = .ok (.iconst 0, 1) := by decide +kernel
theorem dL_law_455 : decode cL_law 455 = .ok (.ireturn, 1) := by decide +kernel
theorem dL_law_456 : decode cL_law 456 = .ok (.aload_n 1, 1) := by decide +kernel
theorem dL_law_457 : decode cL_law 457 = .ok (.aload_n 0, 1) := by decide +kernel
theorem dL_law_458 : decode cL_law 458 = .ok (.iload_n 3, 1) := by decide +kernel
theorem dL_law_459 : decode cL_law 459 = .ok (.iconst 1, 1) := by decide +kernel
theorem dL_law_460 : decode cL_law 460 = .ok (.iadd, 1) := by decide +kernel
theorem dL_law_461 : decode cL_law 461 = .ok (.iaload, 1) := by decide +kernel
theorem dL_law_462 : decode cL_law 462 = .ok (.invokevirtual 65, 3) := by decide +kernel
theorem dL_law_465 : decode cL_law 465 = .ok (.aload_n 2, 1) := by decide +kernel
theorem dL_law_466 : decode cL_law 466 = .ok (.aload_n 0, 1) := by decide +kernel
theorem dL_law_467 : decode cL_law 467 = .ok (.iload_n 3, 1) := by decide +kernel
theorem dL_law_468 : decode cL_law 468 = .ok (.iconst 1, 1) := by decide +kernel
theorem dL_law_469 : decode cL_law 469 = .ok (.iadd, 1) := by decide +kernel
theorem dL_law_470 : decode cL_law 470 = .ok (.iaload, 1) := by decide +kernel
theorem dL_law_471 : decode cL_law 471 = .ok (.invokevirtual 68, 3) := by decide +kernel
theorem dL_law_474 : decode cL_law 474 = .ok (.if_icmp .eq 245, 3) := by decide +kernel
theorem dL_law_477 : decode cL_law 477 = .ok (.iconst 0, 1) := by decide +kernel
theorem dL_law_478 : decode cL_law 478 = .ok (.ireturn, 1) := by decide +kernel
theorem dL_law_479 : decode cL_law 479 = .ok (.aload_n 1, 1) := by decide +kernel
theorem dL_law_480 : decode cL_law 480 = .ok (.invokevirtual 69, 3) := by decide +kernel
theorem dL_law_483 : decode cL_law 483 = .ok (.aload_n 2, 1) := by decide +kernel
theorem dL_law_484 : decode cL_law 484 = .ok (.invokevirtual 72, 3) := by decide +kernel
theorem dL_law_487 : decode cL_law 487 = .ok (.if_icmp .eq 232, 3) := by decide +kernel
theorem dL_law_490 : decode cL_law 490 = .ok (.iconst 0, 1) := by decide +kernel
theorem dL_law_491 : decode cL_law 491 = .ok (.ireturn, 1) := by decide +kernel
theorem dL_law_492 : decode cL_law 492 = .ok (.aload_n 1, 1) := by decide +kernel
theorem dL_law_493 : decode cL_law 493 = .ok (.invokevirtual 73, 3) := by decide +kernel
theorem dL_law_496 : decode cL_law 496 = .ok (.aload_n 2, 1) := by decide +kernel
theorem dL_law_497 : decode cL_law 497 = .ok (.invokevirtual 76, 3) := by decide +kernel
theorem dL_law_500 : decode cL_law 500 = .ok (.if_icmp .eq 219, 3) := by decide +kernel
theorem dL_law_503 : decode cL_law 503 = .ok (.iconst 0, 1) := by decide +kernel
theorem dL_law_504 : decode cL_law 504 = .ok (.ireturn, 1) := by decide +kernel
theorem dL_law_505 : decode cL_law 505 = .ok (.aload_n 1, 1) := by decide +kernel
theorem dL_law_506 : decode cL_law 506 = .ok (.aload_n 0, 1) := by decide +kernel
theorem dL_law_507 : decode cL_law 507 = .ok (.iload_n 3, 1) := by decide +kernel
theorem dL_law_508 : decode cL_law 508 = .ok (.iconst 1, 1) := by decide +kernel
theorem dL_law_509 : decode cL_law 509 = .ok (.iadd, 1) := by decide +kernel
theorem dL_law_510 : decode cL_law 510 = .ok (.iaload, 1) := by decide +kernel
theorem dL_law_511 : decode cL_law 511 = .ok (.invokevirtual 77, 3) := by decide +kernel
theorem dL_law_514 : decode cL_law 514 = .ok (.aload_n 2, 1) := by decide +kernel
theorem dL_law_515 : decode cL_law 515 = .ok (.aload_n 0, 1) := by decide +kernel
theorem dL_law_516 : decode cL_law 516 = .ok (.iload_n 3, 1) := by decide +kernel
theorem dL_law_517 : decode cL_law 517 = .ok (.iconst 1, 1) := by decide +kernel
theorem dL_law_518 : decode cL_law 518 = .ok (.iadd, 1) := by decide +kernel
theorem dL_law_519 : decode cL_law 519 = .ok (.iaload, 1) := by decide +kernel
theorem dL_law_520 : decode cL_law 520 = .ok (.invokevirtual 80, 3) := by decide +kernel
theorem dL_law_523 : decode cL_law 523 = .ok (.if_icmp .eq 196, 3) := by decide +kernel
theorem dL_law_526 : decode cL_law 526 = .ok (.iconst 0, 1) := by decide +kernel
theorem dL_law_527 : decode cL_law 527 = .ok (.ireturn, 1) := by decide +kernel
theorem dL_law_528 : decode cL_law 528 = .ok (.aload_n 1, 1) := by decide +kernel
theorem dL_law_529 : decode cL_law 529 = .ok (.aload_n 0, 1) := by decide +kernel
theorem dL_law_530 : decode cL_law 530 = .ok (.iload_n 3, 1) := by decide +kernel
theorem dL_law_531 : decode cL_law 531 = .ok (.iconst 1, 1) := by decide +kernel
theorem dL_law_532 : decode cL_law 532 = .ok (.iadd, 1) := by decide +kernel
theorem dL_law_533 : decode cL_law 533 = .ok (.iaload, 1) := by decide +kernel
theorem dL_law_534 : decode cL_law 534 = .ok (.aload_n 0, 1) := by decide +kernel
theorem dL_law_535 : decode cL_law 535 = .ok (.iload_n 3, 1) := by decide +kernel
theorem dL_law_536 : decode cL_law 536 = .ok (.iconst 2, 1) := by decide +kernel
theorem dL_law_537 : decode cL_law 537 = .ok (.iadd, 1) := by decide +kernel
theorem dL_law_538 : decode cL_law 538 = .ok (.iaload, 1) := by decide +kernel
theorem dL_law_539 : decode cL_law 539 = .ok (.invokevirtual 81, 3) := by decide +kernel
theorem dL_law_542 : decode cL_law 542 = .ok (.aload_n 2, 1) := by decide +kernel
theorem dL_law_543 : decode cL_law 543 = .ok (.aload_n 0, 1) := by decide +kernel
theorem dL_law_544 : decode cL_law 544 = .ok (.iload_n 3, 1) := by decide +kernel
theorem dL_law_545 : decode cL_law 545 = .ok (.iconst 1, 1) := by decide +kernel
theorem dL_law_546 : decode cL_law 546 = .ok (.iadd, 1) := by decide +kernel
theorem dL_law_547 : decode cL_law 547 = .ok (.iaload, 1) := by decide +kernel
theorem dL_law_548 : decode cL_law 548 = .ok (.aload_n 0, 1) := by decide +kernel
theorem dL_law_549 : decode cL_law 549 = .ok (.iload_n 3, 1) := by decide +kernel
theorem dL_law_550 : decode cL_law 550 = .ok (.iconst 2, 1) := by decide +kernel
theorem dL_law_551 : decode cL_law 551 = .ok (.iadd, 1) := by decide +kernel
theorem dL_law_552 : decode cL_law 552 = .ok (.iaload, 1) := by decide +kernel
theorem dL_law_553 : decode cL_law 553 = .ok (.invokevirtual 84, 3) := by decide +kernel
theorem dL_law_556 : decode cL_law 556 = .ok (.if_icmp .eq 163, 3) := by decide +kernel
theorem dL_law_559 : decode cL_law 559 = .ok (.iconst 0, 1) := by decide +kernel
theorem dL_law_560 : decode cL_law 560 = .ok (.ireturn, 1) := by decide +kernel
theorem dL_law_561 : decode cL_law 561 = .ok (.aload_n 1, 1) := by decide +kernel
theorem dL_law_562 : decode cL_law 562 = .ok (.aload_n 0, 1) := by decide +kernel
theorem dL_law_563 : decode cL_law 563 = .ok (.iload_n 3, 1) := by decide +kernel
theorem dL_law_564 : decode cL_law 564 = .ok (.iconst 1, 1) := by decide +kernel
theorem dL_law_565 : decode cL_law 565 = .ok (.iadd, 1) := by decide +kernel
theorem dL_law_566 : decode cL_law 566 = .ok (.iaload, 1) := by decide +kernel
theorem dL_law_567 : decode cL_law 567 = .ok (.aload_n 0, 1) := by decide +kernel
theorem dL_law_568 : decode cL_law 568 = .ok (.iload_n 3, 1) := by decide +kernel
theorem dL_law_569 : decode cL_law 569 = .ok (.iconst 2, 1) := by decide +kernel
theorem dL_law_570 : decode cL_law 570 = .ok (.iadd, 1) := by decide +kernel
theorem dL_law_571 : decode cL_law 571 = .ok (.iaload, 1) := by decide +kernel
theorem dL_law_572 : decode cL_law 572 = .ok (.invokevirtual 85, 3) := by decide +kernel
theorem dL_law_575 : decode cL_law 575 = .ok (.aload_n 2, 1) := by decide +kernel
theorem dL_law_576 : decode cL_law 576 = .ok (.aload_n 0, 1) := by decide +kernel
theorem dL_law_577 : decode cL_law 577 = .ok (.iload_n 3, 1) := by decide +kernel
theorem dL_law_578 : decode cL_law 578 = .ok (.iconst 1, 1) := by decide +kernel
theorem dL_law_579 : decode cL_law 579 = .ok (.iadd, 1) := by decide +kernel
theorem dL_law_580 : decode cL_law 580 = .ok (.iaload, 1) := by decide +kernel
theorem dL_law_581 : decode cL_law 581 = .ok (.aload_n 0, 1) := by decide +kernel
theorem dL_law_582 : decode cL_law 582 = .ok (.iload_n 3, 1) := by decide +kernel
theorem dL_law_583 : decode cL_law 583 = .ok (.iconst 2, 1) := by decide +kernel
theorem dL_law_584 : decode cL_law 584 = .ok (.iadd, 1) := by decide +kernel
theorem dL_law_585 : decode cL_law 585 = .ok (.iaload, 1) := by decide +kernel
theorem dL_law_586 : decode cL_law 586 = .ok (.invokevirtual 88, 3) := by decide +kernel
theorem dL_law_589 : decode cL_law 589 = .ok (.if_icmp .eq 130, 3) := by decide +kernel
theorem dL_law_592 : decode cL_law 592 = .ok (.iconst 0, 1) := by decide +kernel
theorem dL_law_593 : decode cL_law 593 = .ok (.ireturn, 1) := by decide +kernel
theorem dL_law_594 : decode cL_law 594 = .ok (.aload_n 1, 1) := by decide +kernel
theorem dL_law_595 : decode cL_law 595 = .ok (.aload_n 0, 1) := by decide +kernel
theorem dL_law_596 : decode cL_law 596 = .ok (.iload_n 3, 1) := by decide +kernel
theorem dL_law_597 : decode cL_law 597 = .ok (.iconst 1, 1) := by decide +kernel
theorem dL_law_598 : decode cL_law 598 = .ok (.iadd, 1) := by decide +kernel
theorem dL_law_599 : decode cL_law 599 = .ok (.iaload, 1) := by decide +kernel
theorem dL_law_600 : decode cL_law 600 = .ok (.aload_n 0, 1) := by decide +kernel
theorem dL_law_601 : decode cL_law 601 = .ok (.iload_n 3, 1) := by decide +kernel
theorem dL_law_602 : decode cL_law 602 = .ok (.iconst 2, 1) := by decide +kernel
theorem dL_law_603 : decode cL_law 603 = .ok (.iadd, 1) := by decide +kernel
theorem dL_law_604 : decode cL_law 604 = .ok (.iaload, 1) := by decide +kernel
theorem dL_law_605 : decode cL_law 605 = .ok (.invokevirtual 89, 3) := by decide +kernel
theorem dL_law_608 : decode cL_law 608 = .ok (.aload_n 2, 1) := by decide +kernel
theorem dL_law_609 : decode cL_law 609 = .ok (.aload_n 0, 1) := by decide +kernel
theorem dL_law_610 : decode cL_law 610 = .ok (.iload_n 3, 1) := by decide +kernel
theorem dL_law_611 : decode cL_law 611 = .ok (.iconst 1, 1) := by decide +kernel
theorem dL_law_612 : decode cL_law 612 = .ok (.iadd, 1) := by decide +kernel
theorem dL_law_613 : decode cL_law 613 = .ok (.iaload, 1) := by decide +kernel
theorem dL_law_614 : decode cL_law 614 = .ok (.aload_n 0, 1) := by decide +kernel
theorem dL_law_615 : decode cL_law 615 = .ok (.iload_n 3, 1) := by decide +kernel
theorem dL_law_616 : decode cL_law 616 = .ok (.iconst 2, 1) := by decide +kernel
theorem dL_law_617 : decode cL_law 617 = .ok (.iadd, 1) := by decide +kernel
theorem dL_law_618 : decode cL_law 618 = .ok (.iaload, 1) := by decide +kernel
theorem dL_law_619 : decode cL_law 619 = .ok (.invokevirtual 92, 3) := by decide +kernel
theorem dL_law_622 : decode cL_law 622 = .ok (.if_icmp .eq 97, 3) := by decide +kernel
theorem dL_law_625 : decode cL_law 625 = .ok (.iconst 0, 1) := by decide +kernel
theorem dL_law_626 : decode cL_law 626 = .ok (.ireturn, 1) := by decide +kernel
theorem dL_law_627 : decode cL_law 627 = .ok (.aload_n 1, 1) := by decide +kernel
theorem dL_law_628 : decode cL_law 628 = .ok (.aload_n 0, 1) := by decide +kernel
theorem dL_law_629 : decode cL_law 629 = .ok (.iload_n 3, 1) := by decide +kernel
theorem dL_law_630 : decode cL_law 630 = .ok (.iconst 1, 1) := by decide +kernel
theorem dL_law_631 : decode cL_law 631 = .ok (.iadd, 1) := by decide +kernel
theorem dL_law_632 : decode cL_law 632 = .ok (.iaload, 1) := by decide +kernel
theorem dL_law_633 : decode cL_law 633 = .ok (.invokevirtual 93, 3) := by decide +kernel
theorem dL_law_636 : decode cL_law 636 = .ok (.aload_n 2, 1) := by decide +kernel
theorem dL_law_637 : decode cL_law 637 = .ok (.aload_n 0, 1) := by decide +kernel
theorem dL_law_638 : decode cL_law 638 = .ok (.iload_n 3, 1) := by decide +kernel
theorem dL_law_639 : decode cL_law 639 = .ok (.iconst 1, 1) := by decide +kernel
theorem dL_law_640 : decode cL_law 640 = .ok (.iadd, 1) := by decide +kernel
theorem dL_law_641 : decode cL_law 641 = .ok (.iaload, 1) := by decide +kernel
theorem dL_law_642 : decode cL_law 642 = .ok (.invokevirtual 96, 3) := by decide +kernel
theorem dL_law_645 : decode cL_law 645 = .ok (.if_icmp .eq 74, 3) := by decide +kernel
theorem dL_law_648 : decode cL_law 648 = .ok (.iconst 0, 1) := by decide +kernel
theorem dL_law_649 : decode cL_law 649 = .ok (.ireturn, 1) := by decide +kernel
theorem dL_law_650 : decode cL_law 650 = .ok (.aload_n 1, 1) := by decide +kernel
theorem dL_law_651 : decode cL_law 651 = .ok (.aload_n 0, 1) := by decide +kernel
theorem dL_law_652 : decode cL_law 652 = .ok (.iload_n 3, 1) := by decide +kernel
theorem dL_law_653 : decode cL_law 653 = .ok (.iconst 1, 1) := by decide +kernel
theorem dL_law_654 : decode cL_law 654 = .ok (.iadd, 1) := by decide +kernel
theorem dL_law_655 : decode cL_law 655 = .ok (.iaload, 1) := by decide +kernel
theorem dL_law_656 : decode cL_law 656 = .ok (.invokevirtual 97, 3) := by decide +kernel
theorem dL_law_659 : decode cL_law 659 = .ok (.aload_n 2, 1) := by decide +kernel
theorem dL_law_660 : decode cL_law 660 = .ok (.aload_n 0, 1) := by decide +kernel
theorem dL_law_661 : decode cL_law 661 = .ok (.iload_n 3, 1) := by decide +kernel
theorem dL_law_662 : decode cL_law 662 = .ok (.iconst 1, 1) := by decide +kernel
theorem dL_law_663 : decode cL_law 663 = .ok (.iadd, 1) := by decide +kernel
theorem dL_law_664 : decode cL_law 664 = .ok (.iaload, 1) := by decide +kernel
theorem dL_law_665 : decode cL_law 665 = .ok (.invokevirtual 100, 3) := by decide +kernel
theorem dL_law_668 : decode cL_law 668 = .ok (.if_icmp .eq 51, 3) := by decide +kernel
theorem dL_law_671 : decode cL_law 671 = .ok (.iconst 0, 1) := by decide +kernel
theorem dL_law_672 : decode cL_law 672 = .ok (.ireturn, 1) := by decide +kernel
theorem dL_law_673 : decode cL_law 673 = .ok (.aload_n 1, 1) := by decide +kernel
theorem dL_law_674 : decode cL_law 674 = .ok (.aload_n 0, 1) := by decide +kernel
theorem dL_law_675 : decode cL_law 675 = .ok (.iload_n 3, 1) := by decide +kernel
theorem dL_law_676 : decode cL_law 676 = .ok (.iconst 1, 1) := by decide +kernel
theorem dL_law_677 : decode cL_law 677 = .ok (.iadd, 1) := by decide +kernel
theorem dL_law_678 : decode cL_law 678 = .ok (.iaload, 1) := by decide +kernel
theorem dL_law_679 : decode cL_law 679 = .ok (.invokevirtual 101, 3) := by decide +kernel
theorem dL_law_682 : decode cL_law 682 = .ok (.aload_n 2, 1) := by decide +kernel
theorem dL_law_683 : decode cL_law 683 = .ok (.aload_n 0, 1) := by decide +kernel
theorem dL_law_684 : decode cL_law 684 = .ok (.iload_n 3, 1) := by decide +kernel
theorem dL_law_685 : decode cL_law 685 = .ok (.iconst 1, 1) := by decide +kernel
theorem dL_law_686 : decode cL_law 686 = .ok (.iadd, 1) := by decide +kernel
theorem dL_law_687 : decode cL_law 687 = .ok (.iaload, 1) := by decide +kernel
theorem dL_law_688 : decode cL_law 688 = .ok (.invokevirtual 104, 3) := by decide +kernel
theorem dL_law_691 : decode cL_law 691 = .ok (.if_icmp .eq 28, 3) := by decide +kernel
theorem dL_law_694 : decode cL_law 694 = .ok (.iconst 0, 1) := by decide +kernel
theorem dL_law_695 : decode cL_law 695 = .ok (.ireturn, 1) := by decide +kernel
theorem dL_law_696 : decode cL_law 696 = .ok (.aload_n 1, 1) := by decide +kernel
theorem dL_law_697 : decode cL_law 697 = .ok (.aload_n 0, 1) := by decide +kernel
theorem dL_law_698 : decode cL_law 698 = .ok (.iload_n 3, 1) := by decide +kernel
theorem dL_law_699 : decode cL_law 699 = .ok (.iconst 1, 1) := by decide +kernel
theorem dL_law_700 : decode cL_law 700 = .ok (.iadd, 1) := by decide +kernel
theorem dL_law_701 : decode cL_law 701 = .ok (.iaload, 1) := by decide +kernel
theorem dL_law_702 : decode cL_law 702 = .ok (.invokevirtual 105, 3) := by decide +kernel
theorem dL_law_705 : decode cL_law 705 = .ok (.aload_n 2, 1) := by decide +kernel
theorem dL_law_706 : decode cL_law 706 = .ok (.aload_n 0, 1) := by decide +kernel
theorem dL_law_707 : decode cL_law 707 = .ok (.iload_n 3, 1) := by decide +kernel
theorem dL_law_708 : decode cL_law 708 = .ok (.iconst 1, 1) := by decide +kernel
theorem dL_law_709 : decode cL_law 709 = .ok (.iadd, 1) := by decide +kernel
theorem dL_law_710 : decode cL_law 710 = .ok (.iaload, 1) := by decide +kernel
theorem dL_law_711 : decode cL_law 711 = .ok (.invokevirtual 108, 3) := by decide +kernel
theorem dL_law_714 : decode cL_law 714 = .ok (.if_icmp .eq 5, 3) := by decide +kernel
theorem dL_law_717 : decode cL_law 717 = .ok (.iconst 0, 1) := by decide +kernel
theorem dL_law_718 : decode cL_law 718 = .ok (.ireturn, 1) := by decide +kernel
theorem dL_law_719 : decode cL_law 719 = .ok (.iinc 3 4, 3) := by decide +kernel
theorem dL_law_722 : decode cL_law 722 = .ok (.goto (-704), 3) := by decide +kernel
theorem dL_law_725 : decode cL_law 725 = .ok (.iconst 1, 1) := by decide +kernel
theorem dL_law_726 : decode cL_law 726 = .ok (.ireturn, 1) := by decide +kernel
