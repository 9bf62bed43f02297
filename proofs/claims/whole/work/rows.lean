section
-- ===== PART A: goes FIRST, ahead of the names: the tables' words, and 'selects' of the private methods out of them =====
/-- a private method of a class that the tables say can be made, by its rows of tables_1 -/
def lw_okq (q : MethodName × Nat) : Prop := (q.1.cls ≠ "java/lang/invoke/MethodHandle" ∧ q.1.cls ≠ "java/lang/invoke/VarHandle") ∧ Cond.instantiable q.1.cls q.2 ∈ tables_1 ∧ Cond.privateMethod q.1 ∈ tables_1 ∧ Cond.instanceMethod q.1 ∈ tables_1
theorem lw_p0 : lw_okq (⟨"BagHall", "finding", "(I)I"⟩, 4) := ⟨⟨by decide +kernel, by decide +kernel⟩, List.mem_of_getElem? (i := 12) (by decide +kernel), List.mem_of_getElem? (i := 242) (by decide +kernel), List.mem_of_getElem? (i := 243) (by decide +kernel)⟩
theorem lw_p1 : lw_okq (⟨"BagHall$Ways", "measureTo", "(ILBagHall$Hall;)V"⟩, 1) := ⟨⟨by decide +kernel, by decide +kernel⟩, List.mem_of_getElem? (i := 203) (by decide +kernel), List.mem_of_getElem? (i := 254) (by decide +kernel), List.mem_of_getElem? (i := 255) (by decide +kernel)⟩
theorem lw_p2 : lw_okq (⟨"BagHall$Ways", "shortenBy", "(LBagHall$Belt;ILBagHall$Hall;)Z"⟩, 1) := ⟨⟨by decide +kernel, by decide +kernel⟩, List.mem_of_getElem? (i := 203) (by decide +kernel), List.mem_of_getElem? (i := 258) (by decide +kernel), List.mem_of_getElem? (i := 259) (by decide +kernel)⟩
theorem lw_p3 : lw_okq (⟨"BagHall", "goOneTick", "()V"⟩, 4) := ⟨⟨by decide +kernel, by decide +kernel⟩, List.mem_of_getElem? (i := 12) (by decide +kernel), List.mem_of_getElem? (i := 417) (by decide +kernel), List.mem_of_getElem? (i := 418) (by decide +kernel)⟩
theorem lw_p4 : lw_okq (⟨"BagHall", "sendFrom", "(I)V"⟩, 4) := ⟨⟨by decide +kernel, by decide +kernel⟩, List.mem_of_getElem? (i := 12) (by decide +kernel), List.mem_of_getElem? (i := 421) (by decide +kernel), List.mem_of_getElem? (i := 422) (by decide +kernel)⟩
theorem lw_p5 : lw_okq (⟨"BagHall", "nextToGo", "(LBagHall$Point;)I"⟩, 4) := ⟨⟨by decide +kernel, by decide +kernel⟩, List.mem_of_getElem? (i := 12) (by decide +kernel), List.mem_of_getElem? (i := 425) (by decide +kernel), List.mem_of_getElem? (i := 426) (by decide +kernel)⟩
theorem lw_p6 : lw_okq (⟨"BagHall", "firstOpen", "(LBagHall$Point;)I"⟩, 4) := ⟨⟨by decide +kernel, by decide +kernel⟩, List.mem_of_getElem? (i := 12) (by decide +kernel), List.mem_of_getElem? (i := 429) (by decide +kernel), List.mem_of_getElem? (i := 430) (by decide +kernel)⟩
theorem lw_p7 : lw_okq (⟨"BagHall", "isOpen", "(I)Z"⟩, 4) := ⟨⟨by decide +kernel, by decide +kernel⟩, List.mem_of_getElem? (i := 12) (by decide +kernel), List.mem_of_getElem? (i := 433) (by decide +kernel), List.mem_of_getElem? (i := 434) (by decide +kernel)⟩
theorem lw_p8 : lw_okq (⟨"BagHall", "outletFor", "(ILBagHall$Bag;)I"⟩, 4) := ⟨⟨by decide +kernel, by decide +kernel⟩, List.mem_of_getElem? (i := 12) (by decide +kernel), List.mem_of_getElem? (i := 441) (by decide +kernel), List.mem_of_getElem? (i := 442) (by decide +kernel)⟩
theorem lw_p9 : lw_okq (⟨"BagHall", "receiveAt", "(I)V"⟩, 4) := ⟨⟨by decide +kernel, by decide +kernel⟩, List.mem_of_getElem? (i := 12) (by decide +kernel), List.mem_of_getElem? (i := 475) (by decide +kernel), List.mem_of_getElem? (i := 476) (by decide +kernel)⟩
theorem lw_p10 : lw_okq (⟨"BagHall", "receiveByTurns", "(I)V"⟩, 4) := ⟨⟨by decide +kernel, by decide +kernel⟩, List.mem_of_getElem? (i := 12) (by decide +kernel), List.mem_of_getElem? (i := 483) (by decide +kernel), List.mem_of_getElem? (i := 484) (by decide +kernel)⟩
theorem lw_p11 : lw_okq (⟨"BagHall", "passTurn", "(I)V"⟩, 4) := ⟨⟨by decide +kernel, by decide +kernel⟩, List.mem_of_getElem? (i := 12) (by decide +kernel), List.mem_of_getElem? (i := 491) (by decide +kernel), List.mem_of_getElem? (i := 492) (by decide +kernel)⟩
theorem lw_p12 : lw_okq (⟨"BagHall", "receiveFrom", "(II)Z"⟩, 4) := ⟨⟨by decide +kernel, by decide +kernel⟩, List.mem_of_getElem? (i := 12) (by decide +kernel), List.mem_of_getElem? (i := 500) (by decide +kernel), List.mem_of_getElem? (i := 501) (by decide +kernel)⟩
theorem lw_p13 : lw_okq (⟨"BagHall", "whereAt", "(II)I"⟩, 4) := ⟨⟨by decide +kernel, by decide +kernel⟩, List.mem_of_getElem? (i := 12) (by decide +kernel), List.mem_of_getElem? (i := 510) (by decide +kernel), List.mem_of_getElem? (i := 511) (by decide +kernel)⟩
theorem lw_p14 : lw_okq (⟨"BagHall", "receiveByNumbers", "(IZ)V"⟩, 4) := ⟨⟨by decide +kernel, by decide +kernel⟩, List.mem_of_getElem? (i := 12) (by decide +kernel), List.mem_of_getElem? (i := 514) (by decide +kernel), List.mem_of_getElem? (i := 515) (by decide +kernel)⟩
theorem lw_p15 : lw_okq (⟨"BagHallModel", "finding", "(I)I"⟩, 6) := ⟨⟨by decide +kernel, by decide +kernel⟩, List.mem_of_getElem? (i := 596) (by decide +kernel), List.mem_of_getElem? (i := 629) (by decide +kernel), List.mem_of_getElem? (i := 630) (by decide +kernel)⟩
def lw_privs_1 : List (MethodName × Nat) := [(⟨"BagHall", "finding", "(I)I"⟩, 4), (⟨"BagHall$Ways", "measureTo", "(ILBagHall$Hall;)V"⟩, 1), (⟨"BagHall$Ways", "shortenBy", "(LBagHall$Belt;ILBagHall$Hall;)Z"⟩, 1), (⟨"BagHall", "goOneTick", "()V"⟩, 4), (⟨"BagHall", "sendFrom", "(I)V"⟩, 4), (⟨"BagHall", "nextToGo", "(LBagHall$Point;)I"⟩, 4), (⟨"BagHall", "firstOpen", "(LBagHall$Point;)I"⟩, 4), (⟨"BagHall", "isOpen", "(I)Z"⟩, 4), (⟨"BagHall", "outletFor", "(ILBagHall$Bag;)I"⟩, 4), (⟨"BagHall", "receiveAt", "(I)V"⟩, 4), (⟨"BagHall", "receiveByTurns", "(I)V"⟩, 4), (⟨"BagHall", "passTurn", "(I)V"⟩, 4), (⟨"BagHall", "receiveFrom", "(II)Z"⟩, 4), (⟨"BagHall", "whereAt", "(II)I"⟩, 4), (⟨"BagHall", "receiveByNumbers", "(IZ)V"⟩, 4), (⟨"BagHallModel", "finding", "(I)I"⟩, 6)]
theorem lw_r1 : ∀ q ∈ lw_privs_1, lw_okq q := List.forall_mem_cons.mpr ⟨lw_p0, List.forall_mem_cons.mpr ⟨lw_p1, List.forall_mem_cons.mpr ⟨lw_p2, List.forall_mem_cons.mpr ⟨lw_p3, List.forall_mem_cons.mpr ⟨lw_p4, List.forall_mem_cons.mpr ⟨lw_p5, List.forall_mem_cons.mpr ⟨lw_p6, List.forall_mem_cons.mpr ⟨lw_p7, List.forall_mem_cons.mpr ⟨lw_p8, List.forall_mem_cons.mpr ⟨lw_p9, List.forall_mem_cons.mpr ⟨lw_p10, List.forall_mem_cons.mpr ⟨lw_p11, List.forall_mem_cons.mpr ⟨lw_p12, List.forall_mem_cons.mpr ⟨lw_p13, List.forall_mem_cons.mpr ⟨lw_p14, List.forall_mem_cons.mpr ⟨lw_p15, fun _ h => absurd h List.not_mem_nil⟩⟩⟩⟩⟩⟩⟩⟩⟩⟩⟩⟩⟩⟩⟩⟩
theorem lw_p16 : lw_okq (⟨"BagHallModel", "isPoint", "(I)Z"⟩, 6) := ⟨⟨by decide +kernel, by decide +kernel⟩, List.mem_of_getElem? (i := 596) (by decide +kernel), List.mem_of_getElem? (i := 637) (by decide +kernel), List.mem_of_getElem? (i := 638) (by decide +kernel)⟩
theorem lw_p17 : lw_okq (⟨"BagHallModel", "kindOf", "(I)I"⟩, 6) := ⟨⟨by decide +kernel, by decide +kernel⟩, List.mem_of_getElem? (i := 596) (by decide +kernel), List.mem_of_getElem? (i := 641) (by decide +kernel), List.mem_of_getElem? (i := 642) (by decide +kernel)⟩
theorem lw_p18 : lw_okq (⟨"BagHallModel", "isBelt", "(I)Z"⟩, 6) := ⟨⟨by decide +kernel, by decide +kernel⟩, List.mem_of_getElem? (i := 596) (by decide +kernel), List.mem_of_getElem? (i := 653) (by decide +kernel), List.mem_of_getElem? (i := 654) (by decide +kernel)⟩
theorem lw_p19 : lw_okq (⟨"BagHallModel", "isFlight", "(I)Z"⟩, 6) := ⟨⟨by decide +kernel, by decide +kernel⟩, List.mem_of_getElem? (i := 596) (by decide +kernel), List.mem_of_getElem? (i := 669) (by decide +kernel), List.mem_of_getElem? (i := 670) (by decide +kernel)⟩
theorem lw_p20 : lw_okq (⟨"BagHallModel", "waits", "(II)V"⟩, 6) := ⟨⟨by decide +kernel, by decide +kernel⟩, List.mem_of_getElem? (i := 596) (by decide +kernel), List.mem_of_getElem? (i := 673) (by decide +kernel), List.mem_of_getElem? (i := 674) (by decide +kernel)⟩
theorem lw_p21 : lw_okq (⟨"BagHallModel", "lies", "(IIII)V"⟩, 6) := ⟨⟨by decide +kernel, by decide +kernel⟩, List.mem_of_getElem? (i := 596) (by decide +kernel), List.mem_of_getElem? (i := 677) (by decide +kernel), List.mem_of_getElem? (i := 678) (by decide +kernel)⟩
theorem lw_p22 : lw_okq (⟨"BagHallModel", "isBag", "(I)Z"⟩, 6) := ⟨⟨by decide +kernel, by decide +kernel⟩, List.mem_of_getElem? (i := 596) (by decide +kernel), List.mem_of_getElem? (i := 685) (by decide +kernel), List.mem_of_getElem? (i := 686) (by decide +kernel)⟩
theorem lw_p23 : lw_okq (⟨"BagHallModel", "waitingAt", "(I)I"⟩, 6) := ⟨⟨by decide +kernel, by decide +kernel⟩, List.mem_of_getElem? (i := 596) (by decide +kernel), List.mem_of_getElem? (i := 693) (by decide +kernel), List.mem_of_getElem? (i := 694) (by decide +kernel)⟩
theorem lw_p24 : lw_okq (⟨"BagHallModel", "findFar", "(I)V"⟩, 6) := ⟨⟨by decide +kernel, by decide +kernel⟩, List.mem_of_getElem? (i := 596) (by decide +kernel), List.mem_of_getElem? (i := 722) (by decide +kernel), List.mem_of_getElem? (i := 723) (by decide +kernel)⟩
theorem lw_p25 : lw_okq (⟨"BagHallModel", "outletFor", "(II)I"⟩, 6) := ⟨⟨by decide +kernel, by decide +kernel⟩, List.mem_of_getElem? (i := 596) (by decide +kernel), List.mem_of_getElem? (i := 730) (by decide +kernel), List.mem_of_getElem? (i := 731) (by decide +kernel)⟩
theorem lw_p26 : lw_okq (⟨"BagHallModel", "tickOnce", "()V"⟩, 6) := ⟨⟨by decide +kernel, by decide +kernel⟩, List.mem_of_getElem? (i := 596) (by decide +kernel), List.mem_of_getElem? (i := 738) (by decide +kernel), List.mem_of_getElem? (i := 739) (by decide +kernel)⟩
theorem lw_p27 : lw_okq (⟨"BagHallModel", "giveAt", "(I)V"⟩, 6) := ⟨⟨by decide +kernel, by decide +kernel⟩, List.mem_of_getElem? (i := 596) (by decide +kernel), List.mem_of_getElem? (i := 742) (by decide +kernel), List.mem_of_getElem? (i := 743) (by decide +kernel)⟩
theorem lw_p28 : lw_okq (⟨"BagHallModel", "firstWaiting", "(I)I"⟩, 6) := ⟨⟨by decide +kernel, by decide +kernel⟩, List.mem_of_getElem? (i := 596) (by decide +kernel), List.mem_of_getElem? (i := 746) (by decide +kernel), List.mem_of_getElem? (i := 747) (by decide +kernel)⟩
theorem lw_p29 : lw_okq (⟨"BagHallModel", "outlet", "(I)I"⟩, 6) := ⟨⟨by decide +kernel, by decide +kernel⟩, List.mem_of_getElem? (i := 596) (by decide +kernel), List.mem_of_getElem? (i := 750) (by decide +kernel), List.mem_of_getElem? (i := 751) (by decide +kernel)⟩
theorem lw_p30 : lw_okq (⟨"BagHallModel", "put", "(II)Z"⟩, 6) := ⟨⟨by decide +kernel, by decide +kernel⟩, List.mem_of_getElem? (i := 596) (by decide +kernel), List.mem_of_getElem? (i := 754) (by decide +kernel), List.mem_of_getElem? (i := 755) (by decide +kernel)⟩
theorem lw_p31 : lw_okq (⟨"BagHallModel", "isFree", "(I)Z"⟩, 6) := ⟨⟨by decide +kernel, by decide +kernel⟩, List.mem_of_getElem? (i := 596) (by decide +kernel), List.mem_of_getElem? (i := 758) (by decide +kernel), List.mem_of_getElem? (i := 759) (by decide +kernel)⟩
def lw_privs_2 : List (MethodName × Nat) := [(⟨"BagHallModel", "isPoint", "(I)Z"⟩, 6), (⟨"BagHallModel", "kindOf", "(I)I"⟩, 6), (⟨"BagHallModel", "isBelt", "(I)Z"⟩, 6), (⟨"BagHallModel", "isFlight", "(I)Z"⟩, 6), (⟨"BagHallModel", "waits", "(II)V"⟩, 6), (⟨"BagHallModel", "lies", "(IIII)V"⟩, 6), (⟨"BagHallModel", "isBag", "(I)Z"⟩, 6), (⟨"BagHallModel", "waitingAt", "(I)I"⟩, 6), (⟨"BagHallModel", "findFar", "(I)V"⟩, 6), (⟨"BagHallModel", "outletFor", "(II)I"⟩, 6), (⟨"BagHallModel", "tickOnce", "()V"⟩, 6), (⟨"BagHallModel", "giveAt", "(I)V"⟩, 6), (⟨"BagHallModel", "firstWaiting", "(I)I"⟩, 6), (⟨"BagHallModel", "outlet", "(I)I"⟩, 6), (⟨"BagHallModel", "put", "(II)Z"⟩, 6), (⟨"BagHallModel", "isFree", "(I)Z"⟩, 6)]
theorem lw_r2 : ∀ q ∈ lw_privs_2, lw_okq q := List.forall_mem_cons.mpr ⟨lw_p16, List.forall_mem_cons.mpr ⟨lw_p17, List.forall_mem_cons.mpr ⟨lw_p18, List.forall_mem_cons.mpr ⟨lw_p19, List.forall_mem_cons.mpr ⟨lw_p20, List.forall_mem_cons.mpr ⟨lw_p21, List.forall_mem_cons.mpr ⟨lw_p22, List.forall_mem_cons.mpr ⟨lw_p23, List.forall_mem_cons.mpr ⟨lw_p24, List.forall_mem_cons.mpr ⟨lw_p25, List.forall_mem_cons.mpr ⟨lw_p26, List.forall_mem_cons.mpr ⟨lw_p27, List.forall_mem_cons.mpr ⟨lw_p28, List.forall_mem_cons.mpr ⟨lw_p29, List.forall_mem_cons.mpr ⟨lw_p30, List.forall_mem_cons.mpr ⟨lw_p31, fun _ h => absurd h List.not_mem_nil⟩⟩⟩⟩⟩⟩⟩⟩⟩⟩⟩⟩⟩⟩⟩⟩
theorem lw_p32 : lw_okq (⟨"BagHallModel", "goes", "(II)V"⟩, 6) := ⟨⟨by decide +kernel, by decide +kernel⟩, List.mem_of_getElem? (i := 596) (by decide +kernel), List.mem_of_getElem? (i := 762) (by decide +kernel), List.mem_of_getElem? (i := 763) (by decide +kernel)⟩
theorem lw_p33 : lw_okq (⟨"BagHallModel", "firstOpened", "(I)I"⟩, 6) := ⟨⟨by decide +kernel, by decide +kernel⟩, List.mem_of_getElem? (i := 596) (by decide +kernel), List.mem_of_getElem? (i := 766) (by decide +kernel), List.mem_of_getElem? (i := 767) (by decide +kernel)⟩
theorem lw_p34 : lw_okq (⟨"BagHallModel", "screened", "(II)I"⟩, 6) := ⟨⟨by decide +kernel, by decide +kernel⟩, List.mem_of_getElem? (i := 596) (by decide +kernel), List.mem_of_getElem? (i := 770) (by decide +kernel), List.mem_of_getElem? (i := 771) (by decide +kernel)⟩
theorem lw_p35 : lw_okq (⟨"BagHallModel", "outletAt", "(II)I"⟩, 6) := ⟨⟨by decide +kernel, by decide +kernel⟩, List.mem_of_getElem? (i := 596) (by decide +kernel), List.mem_of_getElem? (i := 774) (by decide +kernel), List.mem_of_getElem? (i := 775) (by decide +kernel)⟩
theorem lw_p36 : lw_okq (⟨"BagHallModel", "move", "(I)V"⟩, 6) := ⟨⟨by decide +kernel, by decide +kernel⟩, List.mem_of_getElem? (i := 596) (by decide +kernel), List.mem_of_getElem? (i := 778) (by decide +kernel), List.mem_of_getElem? (i := 779) (by decide +kernel)⟩
theorem lw_p37 : lw_okq (⟨"BagHallModel", "takeAt", "(I)V"⟩, 6) := ⟨⟨by decide +kernel, by decide +kernel⟩, List.mem_of_getElem? (i := 596) (by decide +kernel), List.mem_of_getElem? (i := 782) (by decide +kernel), List.mem_of_getElem? (i := 783) (by decide +kernel)⟩
theorem lw_p38 : lw_okq (⟨"BagHallModel", "ready", "(I)I"⟩, 6) := ⟨⟨by decide +kernel, by decide +kernel⟩, List.mem_of_getElem? (i := 596) (by decide +kernel), List.mem_of_getElem? (i := 786) (by decide +kernel), List.mem_of_getElem? (i := 787) (by decide +kernel)⟩
theorem lw_p39 : lw_okq (⟨"BagHallModel", "takeFrom", "(III)V"⟩, 6) := ⟨⟨by decide +kernel, by decide +kernel⟩, List.mem_of_getElem? (i := 596) (by decide +kernel), List.mem_of_getElem? (i := 790) (by decide +kernel), List.mem_of_getElem? (i := 791) (by decide +kernel)⟩
theorem lw_p40 : lw_okq (⟨"BagHallModel", "readyInlet", "(I)I"⟩, 6) := ⟨⟨by decide +kernel, by decide +kernel⟩, List.mem_of_getElem? (i := 596) (by decide +kernel), List.mem_of_getElem? (i := 794) (by decide +kernel), List.mem_of_getElem? (i := 795) (by decide +kernel)⟩
theorem lw_p41 : lw_okq (⟨"BagHallModel", "storedAt", "(I)I"⟩, 6) := ⟨⟨by decide +kernel, by decide +kernel⟩, List.mem_of_getElem? (i := 596) (by decide +kernel), List.mem_of_getElem? (i := 798) (by decide +kernel), List.mem_of_getElem? (i := 799) (by decide +kernel)⟩
theorem lw_p42 : lw_okq (⟨"BagHallModel", "merge", "(I)V"⟩, 6) := ⟨⟨by decide +kernel, by decide +kernel⟩, List.mem_of_getElem? (i := 596) (by decide +kernel), List.mem_of_getElem? (i := 802) (by decide +kernel), List.mem_of_getElem? (i := 803) (by decide +kernel)⟩
theorem lw_p43 : lw_okq (⟨"BagHallModel", "inlets", "(I)I"⟩, 6) := ⟨⟨by decide +kernel, by decide +kernel⟩, List.mem_of_getElem? (i := 596) (by decide +kernel), List.mem_of_getElem? (i := 806) (by decide +kernel), List.mem_of_getElem? (i := 807) (by decide +kernel)⟩
theorem lw_p44 : lw_okq (⟨"BagHallModel", "nextInlet", "(II)I"⟩, 6) := ⟨⟨by decide +kernel, by decide +kernel⟩, List.mem_of_getElem? (i := 596) (by decide +kernel), List.mem_of_getElem? (i := 810) (by decide +kernel), List.mem_of_getElem? (i := 811) (by decide +kernel)⟩
theorem lw_p45 : lw_okq (⟨"BagHallModel", "aheadOf", "(III)I"⟩, 6) := ⟨⟨by decide +kernel, by decide +kernel⟩, List.mem_of_getElem? (i := 596) (by decide +kernel), List.mem_of_getElem? (i := 826) (by decide +kernel), List.mem_of_getElem? (i := 827) (by decide +kernel)⟩
def lw_privs_3 : List (MethodName × Nat) := [(⟨"BagHallModel", "goes", "(II)V"⟩, 6), (⟨"BagHallModel", "firstOpened", "(I)I"⟩, 6), (⟨"BagHallModel", "screened", "(II)I"⟩, 6), (⟨"BagHallModel", "outletAt", "(II)I"⟩, 6), (⟨"BagHallModel", "move", "(I)V"⟩, 6), (⟨"BagHallModel", "takeAt", "(I)V"⟩, 6), (⟨"BagHallModel", "ready", "(I)I"⟩, 6), (⟨"BagHallModel", "takeFrom", "(III)V"⟩, 6), (⟨"BagHallModel", "readyInlet", "(I)I"⟩, 6), (⟨"BagHallModel", "storedAt", "(I)I"⟩, 6), (⟨"BagHallModel", "merge", "(I)V"⟩, 6), (⟨"BagHallModel", "inlets", "(I)I"⟩, 6), (⟨"BagHallModel", "nextInlet", "(II)I"⟩, 6), (⟨"BagHallModel", "aheadOf", "(III)I"⟩, 6)]
theorem lw_r3 : ∀ q ∈ lw_privs_3, lw_okq q := List.forall_mem_cons.mpr ⟨lw_p32, List.forall_mem_cons.mpr ⟨lw_p33, List.forall_mem_cons.mpr ⟨lw_p34, List.forall_mem_cons.mpr ⟨lw_p35, List.forall_mem_cons.mpr ⟨lw_p36, List.forall_mem_cons.mpr ⟨lw_p37, List.forall_mem_cons.mpr ⟨lw_p38, List.forall_mem_cons.mpr ⟨lw_p39, List.forall_mem_cons.mpr ⟨lw_p40, List.forall_mem_cons.mpr ⟨lw_p41, List.forall_mem_cons.mpr ⟨lw_p42, List.forall_mem_cons.mpr ⟨lw_p43, List.forall_mem_cons.mpr ⟨lw_p44, List.forall_mem_cons.mpr ⟨lw_p45, fun _ h => absurd h List.not_mem_nil⟩⟩⟩⟩⟩⟩⟩⟩⟩⟩⟩⟩⟩⟩
def lw_privs : List (MethodName × Nat) := lw_privs_1 ++ (lw_privs_2 ++ (lw_privs_3))
def lw_tbl : List Cond := k2_sels lw_privs ++ tables_1
theorem lw_privs_ok : ∀ q ∈ lw_privs, lw_okq q := by
  show ∀ q ∈ lw_privs_1 ++ (lw_privs_2 ++ (lw_privs_3)), lw_okq q
  exact List.forall_mem_append.mpr ⟨lw_r1, List.forall_mem_append.mpr ⟨lw_r2, lw_r3⟩⟩
-- ===== end of PART A; then your names; then what follows =====
end
section
def RX0 : String := "BagHall$Bag"
def TX0 : u_T := fun k => match k with
  | 0 => ("BagHall$Bag", "flight", "I", false)
  | 1 => ("BagHall$Bag", "doubtful", "Z", false)
  | 2 => ("BagHall$Bag", "where", "I", false)
  | 3 => ("BagHall$Bag", "place", "I", false)
  | 4 => ("BagHall$Bag", "came", "I", false)
  | 5 => ("BagHall$Bag", "stepCount", "I", false)
  | _ => ("BagHall$Bag", "way", "[I", true)
def tyX0 : Nat → FieldType := fun k => match k with
  | 0 => .int
  | 1 => .boolean
  | 2 => .int
  | 3 => .int
  | 4 => .int
  | 5 => .int
  | _ => .array .int
abbrev wsX00 : List Cond := u_ws RX0 TX0 7
theorem nmX0 : ∀ a, a < 7 → ∀ b, b < 7 → a ≠ b → (TX0 a).2.1 ≠ (TX0 b).2.1 := by decide +kernel
theorem tyX0_ok : ∀ k, k < 7 → parseFieldDescriptor (TX0 k).2.2.1 = some (tyX0 k) := by decide +kernel
abbrev cX0_init : ByteArray := prog_2_method_1_code
def yX0_init : MethodName := ⟨RX0, "<init>", "()V"⟩
abbrev cX0_begin : ByteArray := prog_2_method_2_code
def yX0_begin : MethodName := ⟨RX0, "begin", "(I)V"⟩
abbrev cX0_put : ByteArray := prog_2_method_3_code
def yX0_put : MethodName := ⟨RX0, "put", "(II)V"⟩
abbrev cX0_addStep : ByteArray := prog_2_method_4_code
def yX0_addStep : MethodName := ⟨RX0, "addStep", "(II)V"⟩
abbrev cX0_keepsStep : ByteArray := prog_2_method_5_code
def yX0_keepsStep : MethodName := ⟨RX0, "keepsStep", "(I)Z"⟩
abbrev cX0_stepTick : ByteArray := prog_2_method_6_code
def yX0_stepTick : MethodName := ⟨RX0, "stepTick", "(I)I"⟩
abbrev cX0_stepPoint : ByteArray := prog_2_method_7_code
def yX0_stepPoint : MethodName := ⟨RX0, "stepPoint", "(I)I"⟩
abbrev cX0_copyFrom : ByteArray := prog_2_method_8_code
def yX0_copyFrom : MethodName := ⟨RX0, "copyFrom", "(LBagHall$Bag;)V"⟩
def RX1 : String := "BagHall$Belt"
def TX1 : u_T := fun k => match k with
  | 0 => ("BagHall$Belt", "from", "I", false)
  | 1 => ("BagHall$Belt", "to", "I", false)
  | 2 => ("BagHall$Belt", "length", "I", false)
  | 3 => ("BagHall$Belt", "turns", "I", false)
  | 4 => ("BagHall$Belt", "fallen", "Z", false)
  | 5 => ("BagHall$Belt", "fresh", "Z", false)
  | _ => ("BagHall$Belt", "cells", "[I", true)
def tyX1 : Nat → FieldType := fun k => match k with
  | 0 => .int
  | 1 => .int
  | 2 => .int
  | 3 => .int
  | 4 => .boolean
  | 5 => .boolean
  | _ => .array .int
abbrev wsX10 : List Cond := u_ws RX1 TX1 7
theorem nmX1 : ∀ a, a < 7 → ∀ b, b < 7 → a ≠ b → (TX1 a).2.1 ≠ (TX1 b).2.1 := by decide +kernel
theorem tyX1_ok : ∀ k, k < 7 → parseFieldDescriptor (TX1 k).2.2.1 = some (tyX1 k) := by decide +kernel
abbrev cX1_init : ByteArray := prog_3_method_1_code
def yX1_init : MethodName := ⟨RX1, "<init>", "()V"⟩
abbrev cX1_begin : ByteArray := prog_3_method_2_code
def yX1_begin : MethodName := ⟨RX1, "begin", "(III)V"⟩
abbrev cX1_canEnter : ByteArray := prog_3_method_3_code
def yX1_canEnter : MethodName := ⟨RX1, "canEnter", "()Z"⟩
abbrev cX1_enter : ByteArray := prog_3_method_4_code
def yX1_enter : MethodName := ⟨RX1, "enter", "(I)V"⟩
abbrev cX1_moveOn : ByteArray := prog_3_method_5_code
def yX1_moveOn : MethodName := ⟨RX1, "moveOn", "()V"⟩
abbrev cX1_readyBag : ByteArray := prog_3_method_6_code
def yX1_readyBag : MethodName := ⟨RX1, "readyBag", "()I"⟩
abbrev cX1_cellOf : ByteArray := prog_3_method_7_code
def yX1_cellOf : MethodName := ⟨RX1, "cellOf", "(I)I"⟩
abbrev cX1_leave : ByteArray := prog_3_method_8_code
def yX1_leave : MethodName := ⟨RX1, "leave", "(I)V"⟩
abbrev cX1_copyFrom : ByteArray := prog_3_method_9_code
def yX1_copyFrom : MethodName := ⟨RX1, "copyFrom", "(LBagHall$Belt;)V"⟩
def RX2 : String := "BagHall$Flight"
def TX2 : u_T := fun k => match k with
  | 0 => ("BagHall$Flight", "chute", "I", false)
  | 1 => ("BagHall$Flight", "opening", "I", false)
  | _ => ("BagHall$Flight", "close", "I", false)
def tyX2 : Nat → FieldType := fun k => match k with
  | 0 => .int
  | 1 => .int
  | _ => .int
abbrev wsX20 : List Cond := u_ws RX2 TX2 3
theorem nmX2 : ∀ a, a < 3 → ∀ b, b < 3 → a ≠ b → (TX2 a).2.1 ≠ (TX2 b).2.1 := by decide +kernel
theorem tyX2_ok : ∀ k, k < 3 → parseFieldDescriptor (TX2 k).2.2.1 = some (tyX2 k) := by decide +kernel
abbrev cX2_init : ByteArray := prog_4_method_1_code
def yX2_init : MethodName := ⟨RX2, "<init>", "()V"⟩
abbrev cX2_begin : ByteArray := prog_4_method_2_code
def yX2_begin : MethodName := ⟨RX2, "begin", "(III)V"⟩
abbrev cX2_copyFrom : ByteArray := prog_4_method_3_code
def yX2_copyFrom : MethodName := ⟨RX2, "copyFrom", "(LBagHall$Flight;)V"⟩
def RX3 : String := "BagHall$Hall"
def TX3 : u_T := fun k => match k with
  | 0 => ("BagHall$Hall", "points", "[LBagHall$Point;", true)
  | 1 => ("BagHall$Hall", "belts", "[LBagHall$Belt;", true)
  | 2 => ("BagHall$Hall", "flights", "[LBagHall$Flight;", true)
  | 3 => ("BagHall$Hall", "bags", "[LBagHall$Bag;", true)
  | 4 => ("BagHall$Hall", "pointCount", "I", false)
  | 5 => ("BagHall$Hall", "beltCount", "I", false)
  | 6 => ("BagHall$Hall", "flightCount", "I", false)
  | 7 => ("BagHall$Hall", "bagCount", "I", false)
  | _ => ("BagHall$Hall", "tick", "I", false)
def tyX3 : Nat → FieldType := fun k => match k with
  | 0 => .array (.object "BagHall$Point")
  | 1 => .array (.object "BagHall$Belt")
  | 2 => .array (.object "BagHall$Flight")
  | 3 => .array (.object "BagHall$Bag")
  | 4 => .int
  | 5 => .int
  | 6 => .int
  | 7 => .int
  | _ => .int
abbrev wsX30 : List Cond := u_ws RX3 TX3 9
theorem nmX3 : ∀ a, a < 9 → ∀ b, b < 9 → a ≠ b → (TX3 a).2.1 ≠ (TX3 b).2.1 := by decide +kernel
theorem tyX3_ok : ∀ k, k < 9 → parseFieldDescriptor (TX3 k).2.2.1 = some (tyX3 k) := by decide +kernel
abbrev cX3_init : ByteArray := prog_5_method_1_code
def yX3_init : MethodName := ⟨RX3, "<init>", "()V"⟩
abbrev cX3_hasPoint : ByteArray := prog_5_method_2_code
def yX3_hasPoint : MethodName := ⟨RX3, "hasPoint", "(I)Z"⟩
abbrev cX3_hasBelt : ByteArray := prog_5_method_3_code
def yX3_hasBelt : MethodName := ⟨RX3, "hasBelt", "(I)Z"⟩
abbrev cX3_hasFlight : ByteArray := prog_5_method_4_code
def yX3_hasFlight : MethodName := ⟨RX3, "hasFlight", "(I)Z"⟩
abbrev cX3_hasBag : ByteArray := prog_5_method_5_code
def yX3_hasBag : MethodName := ⟨RX3, "hasBag", "(I)Z"⟩
abbrev cX3_isOfKind : ByteArray := prog_5_method_6_code
def yX3_isOfKind : MethodName := ⟨RX3, "isOfKind", "(II)Z"⟩
abbrev cX3_queue : ByteArray := prog_5_method_7_code
def yX3_queue : MethodName := ⟨RX3, "queue", "(IIZ)V"⟩
abbrev cX3_lift : ByteArray := prog_5_method_8_code
def yX3_lift : MethodName := ⟨RX3, "lift", "(I)V"⟩
abbrev cX3_inletsOf : ByteArray := prog_5_method_9_code
def yX3_inletsOf : MethodName := ⟨RX3, "inletsOf", "(I)I"⟩
abbrev cX3_inletBehind : ByteArray := prog_5_method_10_code
def yX3_inletBehind : MethodName := ⟨RX3, "inletBehind", "(II)I"⟩
abbrev cX3_lowestSoundOutlet : ByteArray := prog_5_method_11_code
def yX3_lowestSoundOutlet : MethodName := ⟨RX3, "lowestSoundOutlet", "(I)I"⟩
abbrev cX3_screenOutlet : ByteArray := prog_5_method_12_code
def yX3_screenOutlet : MethodName := ⟨RX3, "screenOutlet", "(IZ)I"⟩
abbrev cX3_bagsThatAre : ByteArray := prog_5_method_13_code
def yX3_bagsThatAre : MethodName := ⟨RX3, "bagsThatAre", "(I)I"⟩
abbrev cX3_bagsOfFlight : ByteArray := prog_5_method_14_code
def yX3_bagsOfFlight : MethodName := ⟨RX3, "bagsOfFlight", "(I)I"⟩
abbrev cX3_bagsOfFlight_ : ByteArray := prog_5_method_15_code
def yX3_bagsOfFlight_ : MethodName := ⟨RX3, "bagsOfFlight", "(II)I"⟩
abbrev cX3_fallenBelts : ByteArray := prog_5_method_16_code
def yX3_fallenBelts : MethodName := ⟨RX3, "fallenBelts", "()I"⟩
abbrev cX3_copyFrom : ByteArray := prog_5_method_17_code
def yX3_copyFrom : MethodName := ⟨RX3, "copyFrom", "(LBagHall$Hall;)V"⟩
def RX4 : String := "BagHall$Point"
def TX4 : u_T := fun k => match k with
  | 0 => ("BagHall$Point", "kind", "I", false)
  | 1 => ("BagHall$Point", "value", "I", false)
  | 2 => ("BagHall$Point", "handInlet", "I", false)
  | 3 => ("BagHall$Point", "turnsLeft", "I", false)
  | 4 => ("BagHall$Point", "size", "I", false)
  | _ => ("BagHall$Point", "row", "[I", true)
def tyX4 : Nat → FieldType := fun k => match k with
  | 0 => .int
  | 1 => .int
  | 2 => .int
  | 3 => .int
  | 4 => .int
  | _ => .array .int
abbrev wsX40 : List Cond := u_ws RX4 TX4 6
theorem nmX4 : ∀ a, a < 6 → ∀ b, b < 6 → a ≠ b → (TX4 a).2.1 ≠ (TX4 b).2.1 := by decide +kernel
theorem tyX4_ok : ∀ k, k < 6 → parseFieldDescriptor (TX4 k).2.2.1 = some (tyX4 k) := by decide +kernel
abbrev cX4_init : ByteArray := prog_6_method_1_code
def yX4_init : MethodName := ⟨RX4, "<init>", "()V"⟩
abbrev cX4_begin : ByteArray := prog_6_method_2_code
def yX4_begin : MethodName := ⟨RX4, "begin", "(II)V"⟩
abbrev cX4_meetInlet : ByteArray := prog_6_method_3_code
def yX4_meetInlet : MethodName := ⟨RX4, "meetInlet", "(I)V"⟩
abbrev cX4_putAtHand : ByteArray := prog_6_method_4_code
def yX4_putAtHand : MethodName := ⟨RX4, "putAtHand", "(II)V"⟩
abbrev cX4_limitLeft : ByteArray := prog_6_method_5_code
def yX4_limitLeft : MethodName := ⟨RX4, "limitLeft", "(II)V"⟩
abbrev cX4_hasRoom : ByteArray := prog_6_method_6_code
def yX4_hasRoom : MethodName := ⟨RX4, "hasRoom", "()Z"⟩
abbrev cX4_first : ByteArray := prog_6_method_7_code
def yX4_first : MethodName := ⟨RX4, "first", "()I"⟩
abbrev cX4_indexOf : ByteArray := prog_6_method_8_code
def yX4_indexOf : MethodName := ⟨RX4, "indexOf", "(I)I"⟩
abbrev cX4_join : ByteArray := prog_6_method_9_code
def yX4_join : MethodName := ⟨RX4, "join", "(I)V"⟩
abbrev cX4_leave : ByteArray := prog_6_method_10_code
def yX4_leave : MethodName := ⟨RX4, "leave", "(I)V"⟩
abbrev cX4_copyFrom : ByteArray := prog_6_method_11_code
def yX4_copyFrom : MethodName := ⟨RX4, "copyFrom", "(LBagHall$Point;)V"⟩
def RX5 : String := "BagHall$Ways"
def TX5 : u_T := fun k => match k with
  | _ => ("BagHall$Ways", "sums", "[[I", true)
def tyX5 : Nat → FieldType := fun k => match k with
  | _ => .array (.array .int)
abbrev wsX50 : List Cond := u_ws RX5 TX5 1
theorem nmX5 : ∀ a, a < 1 → ∀ b, b < 1 → a ≠ b → (TX5 a).2.1 ≠ (TX5 b).2.1 := by decide +kernel
theorem tyX5_ok : ∀ k, k < 1 → parseFieldDescriptor (TX5 k).2.2.1 = some (tyX5 k) := by decide +kernel
abbrev cX5_init : ByteArray := prog_7_method_1_code
def yX5_init : MethodName := ⟨RX5, "<init>", "()V"⟩
abbrev cX5_measure : ByteArray := prog_7_method_2_code
def yX5_measure : MethodName := ⟨RX5, "measure", "(LBagHall$Hall;)V"⟩
abbrev cX5_measureTo : ByteArray := prog_7_method_3_code
def yX5_measureTo : MethodName := ⟨RX5, "measureTo", "(ILBagHall$Hall;)V"⟩
abbrev cX5_shortenBy : ByteArray := prog_7_method_4_code
def yX5_shortenBy : MethodName := ⟨RX5, "shortenBy", "(LBagHall$Belt;ILBagHall$Hall;)Z"⟩
abbrev cX5_shortestOutlet : ByteArray := prog_7_method_5_code
def yX5_shortestOutlet : MethodName := ⟨RX5, "shortestOutlet", "(LBagHall$Hall;II)I"⟩
def RX6 : String := "BagHall"
def TX6 : u_T := fun k => match k with
  | 0 => ("BagHall", "hall", "LBagHall$Hall;", true)
  | 1 => ("BagHall", "ways", "LBagHall$Ways;", true)
  | 2 => ("BagHall", "kept", "LBagHall$Hall;", false)
  | _ => ("BagHall", "findings", "I", false)
def tyX6 : Nat → FieldType := fun k => match k with
  | 0 => .object "BagHall$Hall"
  | 1 => .object "BagHall$Ways"
  | 2 => .object "BagHall$Hall"
  | _ => .int
abbrev wsX60 : List Cond := u_ws RX6 TX6 4
theorem nmX6 : ∀ a, a < 4 → ∀ b, b < 4 → a ≠ b → (TX6 a).2.1 ≠ (TX6 b).2.1 := by decide +kernel
theorem tyX6_ok : ∀ k, k < 4 → parseFieldDescriptor (TX6 k).2.2.1 = some (tyX6 k) := by decide +kernel
abbrev cX6_init : ByteArray := prog_1_method_1_code
def yX6_init : MethodName := ⟨RX6, "<init>", "()V"⟩
abbrev cX6_point : ByteArray := prog_1_method_2_code
def yX6_point : MethodName := ⟨RX6, "point", "(II)I"⟩
abbrev cX6_belt : ByteArray := prog_1_method_3_code
def yX6_belt : MethodName := ⟨RX6, "belt", "(III)I"⟩
abbrev cX6_as : ByteArray := prog_1_method_4_code
def yX6_as : MethodName := ⟨RX6, "as", "(II)I"⟩
abbrev cX6_turns : ByteArray := prog_1_method_5_code
def yX6_turns : MethodName := ⟨RX6, "turns", "(II)I"⟩
abbrev cX6_flight : ByteArray := prog_1_method_6_code
def yX6_flight : MethodName := ⟨RX6, "flight", "(III)I"⟩
abbrev cX6_fall : ByteArray := prog_1_method_7_code
def yX6_fall : MethodName := ⟨RX6, "fall", "(IZ)I"⟩
abbrev cX6_bag : ByteArray := prog_1_method_8_code
def yX6_bag : MethodName := ⟨RX6, "bag", "(IIZ)I"⟩
abbrev cX6_take : ByteArray := prog_1_method_9_code
def yX6_take : MethodName := ⟨RX6, "take", "(I)I"⟩
abbrev cX6_give : ByteArray := prog_1_method_10_code
def yX6_give : MethodName := ⟨RX6, "give", "(IIZ)I"⟩
abbrev cX6_where : ByteArray := prog_1_method_11_code
def yX6_where : MethodName := ⟨RX6, "where", "(I)I"⟩
abbrev cX6_place : ByteArray := prog_1_method_12_code
def yX6_place : MethodName := ⟨RX6, "place", "(I)I"⟩
abbrev cX6_detail : ByteArray := prog_1_method_13_code
def yX6_detail : MethodName := ⟨RX6, "detail", "(I)I"⟩
abbrev cX6_steps : ByteArray := prog_1_method_14_code
def yX6_steps : MethodName := ⟨RX6, "steps", "(I)I"⟩
abbrev cX6_step : ByteArray := prog_1_method_15_code
def yX6_step : MethodName := ⟨RX6, "step", "(IIZ)I"⟩
abbrev cX6_tick : ByteArray := prog_1_method_16_code
def yX6_tick : MethodName := ⟨RX6, "tick", "(I)I"⟩
abbrev cX6_cell : ByteArray := prog_1_method_17_code
def yX6_cell : MethodName := ⟨RX6, "cell", "(II)I"⟩
abbrev cX6_holds : ByteArray := prog_1_method_18_code
def yX6_holds : MethodName := ⟨RX6, "holds", "(I)I"⟩
abbrev cX6_list : ByteArray := prog_1_method_19_code
def yX6_list : MethodName := ⟨RX6, "list", "(II)I"⟩
abbrev cX6_far : ByteArray := prog_1_method_20_code
def yX6_far : MethodName := ⟨RX6, "far", "(II)I"⟩
abbrev cX6_route : ByteArray := prog_1_method_21_code
def yX6_route : MethodName := ⟨RX6, "route", "(II)I"⟩
abbrev cX6_flown : ByteArray := prog_1_method_22_code
def yX6_flown : MethodName := ⟨RX6, "flown", "(II)I"⟩
abbrev cX6_count : ByteArray := prog_1_method_23_code
def yX6_count : MethodName := ⟨RX6, "count", "(I)I"⟩
abbrev cX6_keep : ByteArray := prog_1_method_24_code
def yX6_keep : MethodName := ⟨RX6, "keep", "()I"⟩
abbrev cX6_back : ByteArray := prog_1_method_25_code
def yX6_back : MethodName := ⟨RX6, "back", "()I"⟩
abbrev cX6_goOneTick : ByteArray := prog_1_method_26_code
def yX6_goOneTick : MethodName := ⟨RX6, "goOneTick", "()V"⟩
abbrev cX6_sendFrom : ByteArray := prog_1_method_27_code
def yX6_sendFrom : MethodName := ⟨RX6, "sendFrom", "(I)V"⟩
abbrev cX6_nextToGo : ByteArray := prog_1_method_28_code
def yX6_nextToGo : MethodName := ⟨RX6, "nextToGo", "(LBagHall$Point;)I"⟩
abbrev cX6_firstOpen : ByteArray := prog_1_method_29_code
def yX6_firstOpen : MethodName := ⟨RX6, "firstOpen", "(LBagHall$Point;)I"⟩
abbrev cX6_isOpen : ByteArray := prog_1_method_30_code
def yX6_isOpen : MethodName := ⟨RX6, "isOpen", "(I)Z"⟩
abbrev cX6_outletFor : ByteArray := prog_1_method_31_code
def yX6_outletFor : MethodName := ⟨RX6, "outletFor", "(ILBagHall$Bag;)I"⟩
abbrev cX6_receiveAt : ByteArray := prog_1_method_32_code
def yX6_receiveAt : MethodName := ⟨RX6, "receiveAt", "(I)V"⟩
abbrev cX6_receiveByNumbers : ByteArray := prog_1_method_33_code
def yX6_receiveByNumbers : MethodName := ⟨RX6, "receiveByNumbers", "(IZ)V"⟩
abbrev cX6_receiveByTurns : ByteArray := prog_1_method_34_code
def yX6_receiveByTurns : MethodName := ⟨RX6, "receiveByTurns", "(I)V"⟩
abbrev cX6_passTurn : ByteArray := prog_1_method_35_code
def yX6_passTurn : MethodName := ⟨RX6, "passTurn", "(I)V"⟩
abbrev cX6_receiveFrom : ByteArray := prog_1_method_36_code
def yX6_receiveFrom : MethodName := ⟨RX6, "receiveFrom", "(II)Z"⟩
abbrev cX6_whereAt : ByteArray := prog_1_method_37_code
def yX6_whereAt : MethodName := ⟨RX6, "whereAt", "(II)I"⟩
abbrev cX6_finding : ByteArray := prog_1_method_38_code
def yX6_finding : MethodName := ⟨RX6, "finding", "(I)I"⟩
abbrev cX6_within : ByteArray := prog_1_method_39_code
def yX6_within : MethodName := ⟨RX6, "within", "(III)Z"⟩
abbrev cX6_isKind : ByteArray := prog_1_method_40_code
def yX6_isKind : MethodName := ⟨RX6, "isKind", "(I)Z"⟩
abbrev cX6_suits : ByteArray := prog_1_method_41_code
def yX6_suits : MethodName := ⟨RX6, "suits", "(II)Z"⟩
def RX7 : String := "BagHallModel"
def TX7 : u_T := fun k => match k with
  | 0 => ("BagHallModel", "now", "[I", true)
  | 1 => ("BagHallModel", "kept", "[I", true)
  | 2 => ("BagHallModel", "isKept", "Z", false)
  | 3 => ("BagHallModel", "findings", "I", false)
  | 4 => ("BagHallModel", "isGiven", "[Z", true)
  | _ => ("BagHallModel", "far", "[I", true)
def tyX7 : Nat → FieldType := fun k => match k with
  | 0 => .array .int
  | 1 => .array .int
  | 2 => .boolean
  | 3 => .int
  | 4 => .array .boolean
  | _ => .array .int
abbrev wsX70 : List Cond := u_ws RX7 TX7 6
theorem nmX7 : ∀ a, a < 6 → ∀ b, b < 6 → a ≠ b → (TX7 a).2.1 ≠ (TX7 b).2.1 := by decide +kernel
theorem tyX7_ok : ∀ k, k < 6 → parseFieldDescriptor (TX7 k).2.2.1 = some (tyX7 k) := by decide +kernel
abbrev cX7_init : ByteArray := prog_9_method_1_code
def yX7_init : MethodName := ⟨RX7, "<init>", "()V"⟩
abbrev cX7_finding : ByteArray := prog_9_method_2_code
def yX7_finding : MethodName := ⟨RX7, "finding", "(I)I"⟩
abbrev cX7_in : ByteArray := prog_9_method_3_code
def yX7_in : MethodName := ⟨RX7, "in", "(III)Z"⟩
abbrev cX7_isPoint : ByteArray := prog_9_method_4_code
def yX7_isPoint : MethodName := ⟨RX7, "isPoint", "(I)Z"⟩
abbrev cX7_isBelt : ByteArray := prog_9_method_5_code
def yX7_isBelt : MethodName := ⟨RX7, "isBelt", "(I)Z"⟩
abbrev cX7_isFlight : ByteArray := prog_9_method_6_code
def yX7_isFlight : MethodName := ⟨RX7, "isFlight", "(I)Z"⟩
abbrev cX7_isBag : ByteArray := prog_9_method_7_code
def yX7_isBag : MethodName := ⟨RX7, "isBag", "(I)Z"⟩
abbrev cX7_kindOf : ByteArray := prog_9_method_8_code
def yX7_kindOf : MethodName := ⟨RX7, "kindOf", "(I)I"⟩
abbrev cX7_point : ByteArray := prog_9_method_9_code
def yX7_point : MethodName := ⟨RX7, "point", "(II)I"⟩
abbrev cX7_belt : ByteArray := prog_9_method_10_code
def yX7_belt : MethodName := ⟨RX7, "belt", "(III)I"⟩
abbrev cX7_as : ByteArray := prog_9_method_11_code
def yX7_as : MethodName := ⟨RX7, "as", "(II)I"⟩
abbrev cX7_turns : ByteArray := prog_9_method_12_code
def yX7_turns : MethodName := ⟨RX7, "turns", "(II)I"⟩
abbrev cX7_flight : ByteArray := prog_9_method_13_code
def yX7_flight : MethodName := ⟨RX7, "flight", "(III)I"⟩
abbrev cX7_fall : ByteArray := prog_9_method_14_code
def yX7_fall : MethodName := ⟨RX7, "fall", "(IZ)I"⟩
abbrev cX7_lies : ByteArray := prog_9_method_15_code
def yX7_lies : MethodName := ⟨RX7, "lies", "(IIII)V"⟩
abbrev cX7_waits : ByteArray := prog_9_method_16_code
def yX7_waits : MethodName := ⟨RX7, "waits", "(II)V"⟩
abbrev cX7_waitingAt : ByteArray := prog_9_method_17_code
def yX7_waitingAt : MethodName := ⟨RX7, "waitingAt", "(I)I"⟩
abbrev cX7_bag : ByteArray := prog_9_method_18_code
def yX7_bag : MethodName := ⟨RX7, "bag", "(IIZ)I"⟩
abbrev cX7_take : ByteArray := prog_9_method_19_code
def yX7_take : MethodName := ⟨RX7, "take", "(I)I"⟩
abbrev cX7_give : ByteArray := prog_9_method_20_code
def yX7_give : MethodName := ⟨RX7, "give", "(IIZ)I"⟩
abbrev cX7_where : ByteArray := prog_9_method_21_code
def yX7_where : MethodName := ⟨RX7, "where", "(I)I"⟩
abbrev cX7_place : ByteArray := prog_9_method_22_code
def yX7_place : MethodName := ⟨RX7, "place", "(I)I"⟩
abbrev cX7_detail : ByteArray := prog_9_method_23_code
def yX7_detail : MethodName := ⟨RX7, "detail", "(I)I"⟩
abbrev cX7_steps : ByteArray := prog_9_method_24_code
def yX7_steps : MethodName := ⟨RX7, "steps", "(I)I"⟩
abbrev cX7_step : ByteArray := prog_9_method_25_code
def yX7_step : MethodName := ⟨RX7, "step", "(IIZ)I"⟩
abbrev cX7_goes : ByteArray := prog_9_method_26_code
def yX7_goes : MethodName := ⟨RX7, "goes", "(II)V"⟩
abbrev cX7_findFar : ByteArray := prog_9_method_27_code
def yX7_findFar : MethodName := ⟨RX7, "findFar", "(I)V"⟩
abbrev cX7_far : ByteArray := prog_9_method_28_code
def yX7_far : MethodName := ⟨RX7, "far", "(II)I"⟩
abbrev cX7_outletFor : ByteArray := prog_9_method_29_code
def yX7_outletFor : MethodName := ⟨RX7, "outletFor", "(II)I"⟩
abbrev cX7_route : ByteArray := prog_9_method_30_code
def yX7_route : MethodName := ⟨RX7, "route", "(II)I"⟩
abbrev cX7_outlet : ByteArray := prog_9_method_31_code
def yX7_outlet : MethodName := ⟨RX7, "outlet", "(I)I"⟩
abbrev cX7_outletAt : ByteArray := prog_9_method_32_code
def yX7_outletAt : MethodName := ⟨RX7, "outletAt", "(II)I"⟩
abbrev cX7_isFree : ByteArray := prog_9_method_33_code
def yX7_isFree : MethodName := ⟨RX7, "isFree", "(I)Z"⟩
abbrev cX7_put : ByteArray := prog_9_method_34_code
def yX7_put : MethodName := ⟨RX7, "put", "(II)Z"⟩
abbrev cX7_firstWaiting : ByteArray := prog_9_method_35_code
def yX7_firstWaiting : MethodName := ⟨RX7, "firstWaiting", "(I)I"⟩
abbrev cX7_firstOpened : ByteArray := prog_9_method_36_code
def yX7_firstOpened : MethodName := ⟨RX7, "firstOpened", "(I)I"⟩
abbrev cX7_screened : ByteArray := prog_9_method_37_code
def yX7_screened : MethodName := ⟨RX7, "screened", "(II)I"⟩
abbrev cX7_giveAt : ByteArray := prog_9_method_38_code
def yX7_giveAt : MethodName := ⟨RX7, "giveAt", "(I)V"⟩
abbrev cX7_move : ByteArray := prog_9_method_39_code
def yX7_move : MethodName := ⟨RX7, "move", "(I)V"⟩
abbrev cX7_ready : ByteArray := prog_9_method_40_code
def yX7_ready : MethodName := ⟨RX7, "ready", "(I)I"⟩
abbrev cX7_takeFrom : ByteArray := prog_9_method_41_code
def yX7_takeFrom : MethodName := ⟨RX7, "takeFrom", "(III)V"⟩
abbrev cX7_readyInlet : ByteArray := prog_9_method_42_code
def yX7_readyInlet : MethodName := ⟨RX7, "readyInlet", "(I)I"⟩
abbrev cX7_nextInlet : ByteArray := prog_9_method_43_code
def yX7_nextInlet : MethodName := ⟨RX7, "nextInlet", "(II)I"⟩
abbrev cX7_inlets : ByteArray := prog_9_method_44_code
def yX7_inlets : MethodName := ⟨RX7, "inlets", "(I)I"⟩
abbrev cX7_merge : ByteArray := prog_9_method_45_code
def yX7_merge : MethodName := ⟨RX7, "merge", "(I)V"⟩
abbrev cX7_storedAt : ByteArray := prog_9_method_46_code
def yX7_storedAt : MethodName := ⟨RX7, "storedAt", "(I)I"⟩
abbrev cX7_takeAt : ByteArray := prog_9_method_47_code
def yX7_takeAt : MethodName := ⟨RX7, "takeAt", "(I)V"⟩
abbrev cX7_tickOnce : ByteArray := prog_9_method_48_code
def yX7_tickOnce : MethodName := ⟨RX7, "tickOnce", "()V"⟩
abbrev cX7_tick : ByteArray := prog_9_method_49_code
def yX7_tick : MethodName := ⟨RX7, "tick", "(I)I"⟩
abbrev cX7_cell : ByteArray := prog_9_method_50_code
def yX7_cell : MethodName := ⟨RX7, "cell", "(II)I"⟩
abbrev cX7_holds : ByteArray := prog_9_method_51_code
def yX7_holds : MethodName := ⟨RX7, "holds", "(I)I"⟩
abbrev cX7_list : ByteArray := prog_9_method_52_code
def yX7_list : MethodName := ⟨RX7, "list", "(II)I"⟩
abbrev cX7_aheadOf : ByteArray := prog_9_method_53_code
def yX7_aheadOf : MethodName := ⟨RX7, "aheadOf", "(III)I"⟩
abbrev cX7_flown : ByteArray := prog_9_method_54_code
def yX7_flown : MethodName := ⟨RX7, "flown", "(II)I"⟩
abbrev cX7_count : ByteArray := prog_9_method_55_code
def yX7_count : MethodName := ⟨RX7, "count", "(I)I"⟩
abbrev cX7_keep : ByteArray := prog_9_method_56_code
def yX7_keep : MethodName := ⟨RX7, "keep", "()I"⟩
abbrev cX7_back : ByteArray := prog_9_method_57_code
def yX7_back : MethodName := ⟨RX7, "back", "()I"⟩
def RJ9 : String := "java/lang/Math"
def RJ10 : String := "java/lang/System"
def RL : String := "BagHallLaw"
abbrev cL_law : ByteArray := code
def yL_law : MethodName := ⟨RL, "law", "([I)Z"⟩
abbrev vwCl : List vw_C := [(RX0, TX0, 7), (RX1, TX1, 7), (RX2, TX2, 3), (RX3, TX3, 9), (RX4, TX4, 6), (RX5, TX5, 1), (RX6, TX6, 4), (RX7, TX7, 6)]
end
section
theorem dX0_init_0 : decode cX0_init 0 = .ok (.aload_n 0, 1) := by decide +kernel
theorem dX0_init_1 : decode cX0_init 1 = .ok (.invokespecial 3, 3) := by decide +kernel
theorem dX0_init_4 : decode cX0_init 4 = .ok (.aload_n 0, 1) := by decide +kernel
theorem dX0_init_5 : decode cX0_init 5 = .ok (.bipush 30, 2) := by decide +kernel
theorem dX0_init_7 : decode cX0_init 7 = .ok (.newarray .int, 2) := by decide +kernel
theorem dX0_init_9 : decode cX0_init 9 = .ok (.putfield 9, 3) := by decide +kernel
theorem dX0_init_12 : decode cX0_init 12 = .ok (.return_, 1) := by decide +kernel
theorem dX0_begin_0 : decode cX0_begin 0 = .ok (.aload_n 0, 1) := by decide +kernel
theorem dX0_begin_1 : decode cX0_begin 1 = .ok (.iload_n 1, 1) := by decide +kernel
theorem dX0_begin_2 : decode cX0_begin 2 = .ok (.putfield 15, 3) := by decide +kernel
theorem dX0_begin_5 : decode cX0_begin 5 = .ok (.aload_n 0, 1) := by decide +kernel
theorem dX0_begin_6 : decode cX0_begin 6 = .ok (.iconst 0, 1) := by decide +kernel
theorem dX0_begin_7 : decode cX0_begin 7 = .ok (.putfield 19, 3) := by decide +kernel
theorem dX0_begin_10 : decode cX0_begin 10 = .ok (.aload_n 0, 1) := by decide +kernel
theorem dX0_begin_11 : decode cX0_begin 11 = .ok (.iconst 0, 1) := by decide +kernel
theorem dX0_begin_12 : decode cX0_begin 12 = .ok (.putfield 23, 3) := by decide +kernel
theorem dX0_begin_15 : decode cX0_begin 15 = .ok (.aload_n 0, 1) := by decide +kernel
theorem dX0_begin_16 : decode cX0_begin 16 = .ok (.iconst 0, 1) := by decide +kernel
theorem dX0_begin_17 : decode cX0_begin 17 = .ok (.putfield 26, 3) := by decide +kernel
theorem dX0_begin_20 : decode cX0_begin 20 = .ok (.aload_n 0, 1) := by decide +kernel
theorem dX0_begin_21 : decode cX0_begin 21 = .ok (.iconst 4, 1) := by decide +kernel
theorem dX0_begin_22 : decode cX0_begin 22 = .ok (.bipush (-100), 2) := by decide +kernel
theorem dX0_begin_24 : decode cX0_begin 24 = .ok (.invokevirtual 29, 3) := by decide +kernel
theorem dX0_begin_27 : decode cX0_begin 27 = .ok (.return_, 1) := by decide +kernel
theorem dX0_put_0 : decode cX0_put 0 = .ok (.aload_n 0, 1) := by decide +kernel
theorem dX0_put_1 : decode cX0_put 1 = .ok (.iload_n 1, 1) := by decide +kernel
theorem dX0_put_2 : decode cX0_put 2 = .ok (.putfield 33, 3) := by decide +kernel
theorem dX0_put_5 : decode cX0_put 5 = .ok (.aload_n 0, 1) := by decide +kernel
theorem dX0_put_6 : decode cX0_put 6 = .ok (.iload_n 2, 1) := by decide +kernel
theorem dX0_put_7 : decode cX0_put 7 = .ok (.putfield 36, 3) := by decide +kernel
theorem dX0_put_10 : decode cX0_put 10 = .ok (.return_, 1) := by decide +kernel
theorem dX0_addStep_0 : decode cX0_addStep 0 = .ok (.aload_n 0, 1) := by decide +kernel
theorem dX0_addStep_1 : decode cX0_addStep 1 = .ok (.getfield 23, 3) := by decide +kernel
theorem dX0_addStep_4 : decode cX0_addStep 4 = .ok (.ifCond .lt 30, 3) := by decide +kernel
theorem dX0_addStep_7 : decode cX0_addStep 7 = .ok (.aload_n 0, 1) := by decide +kernel
theorem dX0_addStep_8 : decode cX0_addStep 8 = .ok (.getfield 23, 3) := by decide +kernel
theorem dX0_addStep_11 : decode cX0_addStep 11 = .ok (.aload_n 0, 1) := by decide +kernel
theorem dX0_addStep_12 : decode cX0_addStep 12 = .ok (.getfield 9, 3) := by decide +kernel
theorem dX0_addStep_15 : decode cX0_addStep 15 = .ok (.arraylength, 1) := by decide +kernel
theorem dX0_addStep_16 : decode cX0_addStep 16 = .ok (.if_icmp .ge 18, 3) := by decide +kernel
theorem dX0_addStep_19 : decode cX0_addStep 19 = .ok (.aload_n 0, 1) := by decide +kernel
theorem dX0_addStep_20 : decode cX0_addStep 20 = .ok (.getfield 9, 3) := by decide +kernel
theorem dX0_addStep_23 : decode cX0_addStep 23 = .ok (.aload_n 0, 1) := by decide +kernel
theorem dX0_addStep_24 : decode cX0_addStep 24 = .ok (.getfield 23, 3) := by decide +kernel
theorem dX0_addStep_27 : decode cX0_addStep 27 = .ok (.iload_n 1, 1) := by decide +kernel
theorem dX0_addStep_28 : decode cX0_addStep 28 = .ok (.bipush 12, 2) := by decide +kernel
theorem dX0_addStep_30 : decode cX0_addStep 30 = .ok (.imul, 1) := by decide +kernel
theorem dX0_addStep_31 : decode cX0_addStep 31 = .ok (.iload_n 2, 1) := by decide +kernel
theorem dX0_addStep_32 : decode cX0_addStep 32 = .ok (.iadd, 1) := by decide +kernel
theorem dX0_addStep_33 : decode cX0_addStep 33 = .ok (.iastore, 1) := by decide +kernel
theorem dX0_addStep_34 : decode cX0_addStep 34 = .ok (.aload_n 0, 1) := by decide +kernel
theorem dX0_addStep_35 : decode cX0_addStep 35 = .ok (.dup, 1) := by decide +kernel
theorem dX0_addStep_36 : decode cX0_addStep 36 = .ok (.getfield 23, 3) := by decide +kernel
theorem dX0_addStep_39 : decode cX0_addStep 39 = .ok (.iconst 1, 1) := by decide +kernel
theorem dX0_addStep_40 : decode cX0_addStep 40 = .ok (.iadd, 1) := by decide +kernel
theorem dX0_addStep_41 : decode cX0_addStep 41 = .ok (.putfield 23, 3) := by decide +kernel
theorem dX0_addStep_44 : decode cX0_addStep 44 = .ok (.return_, 1) := by decide +kernel
theorem dX0_keepsStep_0 : decode cX0_keepsStep 0 = .ok (.iload_n 1, 1) := by decide +kernel
theorem dX0_keepsStep_1 : decode cX0_keepsStep 1 = .ok (.ifCond .lt 24, 3) := by decide +kernel
theorem dX0_keepsStep_4 : decode cX0_keepsStep 4 = .ok (.iload_n 1, 1) := by decide +kernel
theorem dX0_keepsStep_5 : decode cX0_keepsStep 5 = .ok (.aload_n 0, 1) := by decide +kernel
theorem dX0_keepsStep_6 : decode cX0_keepsStep 6 = .ok (.getfield 23, 3) := by decide +kernel
theorem dX0_keepsStep_9 : decode cX0_keepsStep 9 = .ok (.if_icmp .ge 16, 3) := by decide +kernel
theorem dX0_keepsStep_12 : decode cX0_keepsStep 12 = .ok (.iload_n 1, 1) := by decide +kernel
theorem dX0_keepsStep_13 : decode cX0_keepsStep 13 = .ok (.aload_n 0, 1) := by decide +kernel
theorem dX0_keepsStep_14 : decode cX0_keepsStep 14 = .ok (.getfield 9, 3) := by decide +kernel
theorem dX0_keepsStep_17 : decode cX0_keepsStep 17 = .ok (.arraylength, 1) := by decide +kernel
theorem dX0_keepsStep_18 : decode cX0_keepsStep 18 = .ok (.if_icmp .ge 7, 3) := by decide +kernel
theorem dX0_keepsStep_21 : decode cX0_keepsStep 21 = .ok (.iconst 1, 1) := by decide +kernel
theorem dX0_keepsStep_22 : decode cX0_keepsStep 22 = .ok (.goto 4, 3) := by decide +kernel
theorem dX0_keepsStep_25 : decode cX0_keepsStep 25 = .ok (.iconst 0, 1) := by decide +kernel
theorem dX0_keepsStep_26 : decode cX0_keepsStep 26 = .ok (.ireturn, 1) := by decide +kernel
theorem dX0_stepTick_0 : decode cX0_stepTick 0 = .ok (.aload_n 0, 1) := by decide +kernel
theorem dX0_stepTick_1 : decode cX0_stepTick 1 = .ok (.iload_n 1, 1) := by decide +kernel
theorem dX0_stepTick_2 : decode cX0_stepTick 2 = .ok (.invokevirtual 39, 3) := by decide +kernel
theorem dX0_stepTick_5 : decode cX0_stepTick 5 = .ok (.ifCond .eq 15, 3) := by decide +kernel
theorem dX0_stepTick_8 : decode cX0_stepTick 8 = .ok (.aload_n 0, 1) := by decide +kernel
theorem dX0_stepTick_9 : decode cX0_stepTick 9 = .ok (.getfield 9, 3) := by decide +kernel
theorem dX0_stepTick_12 : decode cX0_stepTick 12 = .ok (.iload_n 1, 1) := by decide +kernel
theorem dX0_stepTick_13 : decode cX0_stepTick 13 = .ok (.iaload, 1) := by decide +kernel
theorem dX0_stepTick_14 : decode cX0_stepTick 14 = .ok (.bipush 12, 2) := by decide +kernel
theorem dX0_stepTick_16 : decode cX0_stepTick 16 = .ok (.idiv, 1) := by decide +kernel
theorem dX0_stepTick_17 : decode cX0_stepTick 17 = .ok (.goto 4, 3) := by decide +kernel
theorem dX0_stepTick_20 : decode cX0_stepTick 20 = .ok (.iconst (-1), 1) := by decide +kernel
theorem dX0_stepTick_21 : decode cX0_stepTick 21 = .ok (.ireturn, 1) := by decide +kernel
theorem dX0_stepPoint_0 : decode cX0_stepPoint 0 = .ok (.aload_n 0, 1) := by decide +kernel
theorem dX0_stepPoint_1 : decode cX0_stepPoint 1 = .ok (.iload_n 1, 1) := by decide +kernel
theorem dX0_stepPoint_2 : decode cX0_stepPoint 2 = .ok (.invokevirtual 39, 3) := by decide +kernel
theorem dX0_stepPoint_5 : decode cX0_stepPoint 5 = .ok (.ifCond .eq 15, 3) := by decide +kernel
theorem dX0_stepPoint_8 : decode cX0_stepPoint 8 = .ok (.aload_n 0, 1) := by decide +kernel
theorem dX0_stepPoint_9 : decode cX0_stepPoint 9 = .ok (.getfield 9, 3) := by decide +kernel
theorem dX0_stepPoint_12 : decode cX0_stepPoint 12 = .ok (.iload_n 1, 1) := by decide +kernel
theorem dX0_stepPoint_13 : decode cX0_stepPoint 13 = .ok (.iaload, 1) := by decide +kernel
theorem dX0_stepPoint_14 : decode cX0_stepPoint 14 = .ok (.bipush 12, 2) := by decide +kernel
theorem dX0_stepPoint_16 : decode cX0_stepPoint 16 = .ok (.irem, 1) := by decide +kernel
theorem dX0_stepPoint_17 : decode cX0_stepPoint 17 = .ok (.goto 4, 3) := by decide +kernel
theorem dX0_stepPoint_20 : decode cX0_stepPoint 20 = .ok (.iconst (-1), 1) := by decide +kernel
theorem dX0_stepPoint_21 : decode cX0_stepPoint 21 = .ok (.ireturn, 1) := by decide +kernel
theorem dX0_copyFrom_0 : decode cX0_copyFrom 0 = .ok (.aload_n 0, 1) := by decide +kernel
theorem dX0_copyFrom_1 : decode cX0_copyFrom 1 = .ok (.aload_n 1, 1) := by decide +kernel
theorem dX0_copyFrom_2 : decode cX0_copyFrom 2 = .ok (.getfield 15, 3) := by decide +kernel
theorem dX0_copyFrom_5 : decode cX0_copyFrom 5 = .ok (.putfield 15, 3) := by decide +kernel
theorem dX0_copyFrom_8 : decode cX0_copyFrom 8 = .ok (.aload_n 0, 1) := by decide +kernel
theorem dX0_copyFrom_9 : decode cX0_copyFrom 9 = .ok (.aload_n 1, 1) := by decide +kernel
theorem dX0_copyFrom_10 : decode cX0_copyFrom 10 = .ok (.getfield 19, 3) := by decide +kernel
theorem dX0_copyFrom_13 : decode cX0_copyFrom 13 = .ok (.putfield 19, 3) := by decide +kernel
theorem dX0_copyFrom_16 : decode cX0_copyFrom 16 = .ok (.aload_n 0, 1) := by decide +kernel
theorem dX0_copyFrom_17 : decode cX0_copyFrom 17 = .ok (.aload_n 1, 1) := by decide +kernel
theorem dX0_copyFrom_18 : decode cX0_copyFrom 18 = .ok (.getfield 33, 3) := by decide +kernel
theorem dX0_copyFrom_21 : decode cX0_copyFrom 21 = .ok (.putfield 33, 3) := by decide +kernel
theorem dX0_copyFrom_24 : decode cX0_copyFrom 24 = .ok (.aload_n 0, 1) := by decide +kernel
theorem dX0_copyFrom_25 : decode cX0_copyFrom 25 = .ok (.aload_n 1, 1) := by decide +kernel
theorem dX0_copyFrom_26 : decode cX0_copyFrom 26 = .ok (.getfield 36, 3) := by decide +kernel
theorem dX0_copyFrom_29 : decode cX0_copyFrom 29 = .ok (.putfield 36, 3) := by decide +kernel
theorem dX0_copyFrom_32 : decode cX0_copyFrom 32 = .ok (.aload_n 0, 1) := by decide +kernel
theorem dX0_copyFrom_33 : decode cX0_copyFrom 33 = .ok (.aload_n 1, 1) := by decide +kernel
theorem dX0_copyFrom_34 : decode cX0_copyFrom 34 = .ok (.getfield 26, 3) := by decide +kernel
theorem dX0_copyFrom_37 : decode cX0_copyFrom 37 = .ok (.putfield 26, 3) := by decide +kernel
theorem dX0_copyFrom_40 : decode cX0_copyFrom 40 = .ok (.aload_n 0, 1) := by decide +kernel
theorem dX0_copyFrom_41 : decode cX0_copyFrom 41 = .ok (.aload_n 1, 1) := by decide +kernel
theorem dX0_copyFrom_42 : decode cX0_copyFrom 42 = .ok (.getfield 23, 3) := by decide +kernel
theorem dX0_copyFrom_45 : decode cX0_copyFrom 45 = .ok (.putfield 23, 3) := by decide +kernel
theorem dX0_copyFrom_48 : decode cX0_copyFrom 48 = .ok (.aload_n 1, 1) := by decide +kernel
theorem dX0_copyFrom_49 : decode cX0_copyFrom 49 = .ok (.getfield 9, 3) := by decide +kernel
theorem dX0_copyFrom_52 : decode cX0_copyFrom 52 = .ok (.iconst 0, 1) := by decide +kernel
theorem dX0_copyFrom_53 : decode cX0_copyFrom 53 = .ok (.aload_n 0, 1) := by decide +kernel
theorem dX0_copyFrom_54 : decode cX0_copyFrom 54 = .ok (.getfield 9, 3) := by decide +kernel
theorem dX0_copyFrom_57 : decode cX0_copyFrom 57 = .ok (.iconst 0, 1) := by decide +kernel
theorem dX0_copyFrom_58 : decode cX0_copyFrom 58 = .ok (.aload_n 0, 1) := by decide +kernel
theorem dX0_copyFrom_59 : decode cX0_copyFrom 59 = .ok (.getfield 9, 3) := by decide +kernel
theorem dX0_copyFrom_62 : decode cX0_copyFrom 62 = .ok (.arraylength, 1) := by decide +kernel
theorem dX0_copyFrom_63 : decode cX0_copyFrom 63 = .ok (.invokestatic 43, 3) := by decide +kernel
theorem dX0_copyFrom_66 : decode cX0_copyFrom 66 = .ok (.return_, 1) := by decide +kernel
theorem dX1_init_0 : decode cX1_init 0 = .ok (.aload_n 0, 1) := by decide +kernel
theorem dX1_init_1 : decode cX1_init 1 = .ok (.invokespecial 3, 3) := by decide +kernel
theorem dX1_init_4 : decode cX1_init 4 = .ok (.aload_n 0, 1) := by decide +kernel
theorem dX1_init_5 : decode cX1_init 5 = .ok (.bipush 12, 2) := by decide +kernel
theorem dX1_init_7 : decode cX1_init 7 = .ok (.newarray .int, 2) := by decide +kernel
theorem dX1_init_9 : decode cX1_init 9 = .ok (.putfield 9, 3) := by decide +kernel
theorem dX1_init_12 : decode cX1_init 12 = .ok (.return_, 1) := by decide +kernel
theorem dX1_begin_0 : decode cX1_begin 0 = .ok (.aload_n 0, 1) := by decide +kernel
theorem dX1_begin_1 : decode cX1_begin 1 = .ok (.iload_n 1, 1) := by decide +kernel
theorem dX1_begin_2 : decode cX1_begin 2 = .ok (.putfield 15, 3) := by decide +kernel
theorem dX1_begin_5 : decode cX1_begin 5 = .ok (.aload_n 0, 1) := by decide +kernel
theorem dX1_begin_6 : decode cX1_begin 6 = .ok (.iload_n 2, 1) := by decide +kernel
theorem dX1_begin_7 : decode cX1_begin 7 = .ok (.putfield 19, 3) := by decide +kernel
theorem dX1_begin_10 : decode cX1_begin 10 = .ok (.aload_n 0, 1) := by decide +kernel
theorem dX1_begin_11 : decode cX1_begin 11 = .ok (.iload_n 3, 1) := by decide +kernel
theorem dX1_begin_12 : decode cX1_begin 12 = .ok (.putfield 22, 3) := by decide +kernel
theorem dX1_begin_15 : decode cX1_begin 15 = .ok (.aload_n 0, 1) := by decide +kernel
theorem dX1_begin_16 : decode cX1_begin 16 = .ok (.iconst 1, 1) := by decide +kernel
theorem dX1_begin_17 : decode cX1_begin 17 = .ok (.putfield 25, 3) := by decide +kernel
theorem dX1_begin_20 : decode cX1_begin 20 = .ok (.aload_n 0, 1) := by decide +kernel
theorem dX1_begin_21 : decode cX1_begin 21 = .ok (.iconst 0, 1) := by decide +kernel
theorem dX1_begin_22 : decode cX1_begin 22 = .ok (.putfield 28, 3) := by decide +kernel
theorem dX1_begin_25 : decode cX1_begin 25 = .ok (.aload_n 0, 1) := by decide +kernel
theorem dX1_begin_26 : decode cX1_begin 26 = .ok (.iconst 0, 1) := by decide +kernel
theorem dX1_begin_27 : decode cX1_begin 27 = .ok (.putfield 32, 3) := by decide +kernel
theorem dX1_begin_30 : decode cX1_begin 30 = .ok (.iconst 0, 1) := by decide +kernel
theorem dX1_begin_31 : decode cX1_begin 31 = .ok (.istore 4, 2) := by decide +kernel
theorem dX1_begin_33 : decode cX1_begin 33 = .ok (.iload 4, 2) := by decide +kernel
theorem dX1_begin_35 : decode cX1_begin 35 = .ok (.aload_n 0, 1) := by decide +kernel
theorem dX1_begin_36 : decode cX1_begin 36 = .ok (.getfield 9, 3) := by decide +kernel
theorem dX1_begin_39 : decode cX1_begin 39 = .ok (.arraylength, 1) := by decide +kernel
theorem dX1_begin_40 : decode cX1_begin 40 = .ok (.if_icmp .ge 17, 3) := by decide +kernel
theorem dX1_begin_43 : decode cX1_begin 43 = .ok (.aload_n 0, 1) := by decide +kernel
theorem dX1_begin_44 : decode cX1_begin 44 = .ok (.getfield 9, 3) := by decide +kernel
theorem dX1_begin_47 : decode cX1_begin 47 = .ok (.iload 4, 2) := by decide +kernel
theorem dX1_begin_49 : decode cX1_begin 49 = .ok (.iconst (-1), 1) := by decide +kernel
theorem dX1_begin_50 : decode cX1_begin 50 = .ok (.iastore, 1) := by decide +kernel
theorem dX1_begin_51 : decode cX1_begin 51 = .ok (.iinc 4 1, 3) := by decide +kernel
theorem dX1_begin_54 : decode cX1_begin 54 = .ok (.goto (-21), 3) := by decide +kernel
theorem dX1_begin_57 : decode cX1_begin 57 = .ok (.return_, 1) := by decide +kernel
theorem dX1_canEnter_0 : decode cX1_canEnter 0 = .ok (.aload_n 0, 1) := by decide +kernel
theorem dX1_canEnter_1 : decode cX1_canEnter 1 = .ok (.getfield 28, 3) := by decide +kernel
theorem dX1_canEnter_4 : decode cX1_canEnter 4 = .ok (.ifCond .ne 17, 3) := by decide +kernel
theorem dX1_canEnter_7 : decode cX1_canEnter 7 = .ok (.aload_n 0, 1) := by decide +kernel
theorem dX1_canEnter_8 : decode cX1_canEnter 8 = .ok (.getfield 9, 3) := by decide +kernel
theorem dX1_canEnter_11 : decode cX1_canEnter 11 = .ok (.iconst 0, 1) := by decide +kernel
theorem dX1_canEnter_12 : decode cX1_canEnter 12 = .ok (.iaload, 1) := by decide +kernel
theorem dX1_canEnter_13 : decode cX1_canEnter 13 = .ok (.iconst (-1), 1) := by decide +kernel
theorem dX1_canEnter_14 : decode cX1_canEnter 14 = .ok (.if_icmp .ne 7, 3) := by decide +kernel
theorem dX1_canEnter_17 : decode cX1_canEnter 17 = .ok (.iconst 1, 1) := by decide +kernel
theorem dX1_canEnter_18 : decode cX1_canEnter 18 = .ok (.goto 4, 3) := by decide +kernel
theorem dX1_canEnter_21 : decode cX1_canEnter 21 = .ok (.iconst 0, 1) := by decide +kernel
theorem dX1_canEnter_22 : decode cX1_canEnter 22 = .ok (.ireturn, 1) := by decide +kernel
theorem dX1_enter_0 : decode cX1_enter 0 = .ok (.aload_n 0, 1) := by decide +kernel
theorem dX1_enter_1 : decode cX1_enter 1 = .ok (.getfield 9, 3) := by decide +kernel
theorem dX1_enter_4 : decode cX1_enter 4 = .ok (.iconst 0, 1) := by decide +kernel
theorem dX1_enter_5 : decode cX1_enter 5 = .ok (.iload_n 1, 1) := by decide +kernel
theorem dX1_enter_6 : decode cX1_enter 6 = .ok (.iastore, 1) := by decide +kernel
theorem dX1_enter_7 : decode cX1_enter 7 = .ok (.aload_n 0, 1) := by decide +kernel
theorem dX1_enter_8 : decode cX1_enter 8 = .ok (.iconst 1, 1) := by decide +kernel
theorem dX1_enter_9 : decode cX1_enter 9 = .ok (.putfield 32, 3) := by decide +kernel
theorem dX1_enter_12 : decode cX1_enter 12 = .ok (.return_, 1) := by decide +kernel
theorem dX1_moveOn_0 : decode cX1_moveOn 0 = .ok (.aload_n 0, 1) := by decide +kernel
theorem dX1_moveOn_1 : decode cX1_moveOn 1 = .ok (.getfield 28, 3) := by decide +kernel
theorem dX1_moveOn_4 : decode cX1_moveOn 4 = .ok (.ifCond .eq 4, 3) := by decide +kernel
theorem dX1_moveOn_7 : decode cX1_moveOn 7 = .ok (.return_, 1) := by decide +kernel
theorem dX1_moveOn_8 : decode cX1_moveOn 8 = .ok (.aload_n 0, 1) := by decide +kernel
theorem dX1_moveOn_9 : decode cX1_moveOn 9 = .ok (.getfield 32, 3) := by decide +kernel
theorem dX1_moveOn_12 : decode cX1_moveOn 12 = .ok (.ifCond .eq 7, 3) := by decide +kernel
theorem dX1_moveOn_15 : decode cX1_moveOn 15 = .ok (.iconst 1, 1) := by decide +kernel
theorem dX1_moveOn_16 : decode cX1_moveOn 16 = .ok (.goto 4, 3) := by decide +kernel
theorem dX1_moveOn_19 : decode cX1_moveOn 19 = .ok (.iconst 0, 1) := by decide +kernel
theorem dX1_moveOn_20 : decode cX1_moveOn 20 = .ok (.istore_n 1, 1) := by decide +kernel
theorem dX1_moveOn_21 : decode cX1_moveOn 21 = .ok (.aload_n 0, 1) := by decide +kernel
theorem dX1_moveOn_22 : decode cX1_moveOn 22 = .ok (.getfield 22, 3) := by decide +kernel
theorem dX1_moveOn_25 : decode cX1_moveOn 25 = .ok (.iconst 2, 1) := by decide +kernel
theorem dX1_moveOn_26 : decode cX1_moveOn 26 = .ok (.isub, 1) := by decide +kernel
theorem dX1_moveOn_27 : decode cX1_moveOn 27 = .ok (.istore_n 2, 1) := by decide +kernel
theorem dX1_moveOn_28 : decode cX1_moveOn 28 = .ok (.iload_n 2, 1) := by decide +kernel
theorem dX1_moveOn_29 : decode cX1_moveOn 29 = .ok (.iload_n 1, 1) := by decide +kernel
theorem dX1_moveOn_30 : decode cX1_moveOn 30 = .ok (.if_icmp .lt 42, 3) := by decide +kernel
theorem dX1_moveOn_33 : decode cX1_moveOn 33 = .ok (.aload_n 0, 1) := by decide +kernel
theorem dX1_moveOn_34 : decode cX1_moveOn 34 = .ok (.getfield 9, 3) := by decide +kernel
theorem dX1_moveOn_37 : decode cX1_moveOn 37 = .ok (.iload_n 2, 1) := by decide +kernel
theorem dX1_moveOn_38 : decode cX1_moveOn 38 = .ok (.iconst 1, 1) := by decide +kernel
theorem dX1_moveOn_39 : decode cX1_moveOn 39 = .ok (.iadd, 1) := by decide +kernel
theorem dX1_moveOn_40 : decode cX1_moveOn 40 = .ok (.iaload, 1) := by decide +kernel
theorem dX1_moveOn_41 : decode cX1_moveOn 41 = .ok (.iconst (-1), 1) := by decide +kernel
theorem dX1_moveOn_42 : decode cX1_moveOn 42 = .ok (.if_icmp .ne 24, 3) := by decide +kernel
theorem dX1_moveOn_45 : decode cX1_moveOn 45 = .ok (.aload_n 0, 1) := by decide +kernel
theorem dX1_moveOn_46 : decode cX1_moveOn 46 = .ok (.getfield 9, 3) := by decide +kernel
theorem dX1_moveOn_49 : decode cX1_moveOn 49 = .ok (.iload_n 2, 1) := by decide +kernel
theorem dX1_moveOn_50 : decode cX1_moveOn 50 = .ok (.iconst 1, 1) := by decide +kernel
theorem dX1_moveOn_51 : decode cX1_moveOn 51 = .ok (.iadd, 1) := by decide +kernel
theorem dX1_moveOn_52 : decode cX1_moveOn 52 = .ok (.aload_n 0, 1) := by decide +kernel
theorem dX1_moveOn_53 : decode cX1_moveOn 53 = .ok (.getfield 9, 3) := by decide +kernel
theorem dX1_moveOn_56 : decode cX1_moveOn 56 = .ok (.iload_n 2, 1) := by decide +kernel
theorem dX1_moveOn_57 : decode cX1_moveOn 57 = .ok (.iaload, 1) := by decide +kernel
theorem dX1_moveOn_58 : decode cX1_moveOn 58 = .ok (.iastore, 1) := by decide +kernel
theorem dX1_moveOn_59 : decode cX1_moveOn 59 = .ok (.aload_n 0, 1) := by decide +kernel
theorem dX1_moveOn_60 : decode cX1_moveOn 60 = .ok (.getfield 9, 3) := by decide +kernel
theorem dX1_moveOn_63 : decode cX1_moveOn 63 = .ok (.iload_n 2, 1) := by decide +kernel
theorem dX1_moveOn_64 : decode cX1_moveOn 64 = .ok (.iconst (-1), 1) := by decide +kernel
theorem dX1_moveOn_65 : decode cX1_moveOn 65 = .ok (.iastore, 1) := by decide +kernel
theorem dX1_moveOn_66 : decode cX1_moveOn 66 = .ok (.iinc 2 (-1), 3) := by decide +kernel
theorem dX1_moveOn_69 : decode cX1_moveOn 69 = .ok (.goto (-41), 3) := by decide +kernel
theorem dX1_moveOn_72 : decode cX1_moveOn 72 = .ok (.return_, 1) := by decide +kernel
theorem dX1_readyBag_0 : decode cX1_readyBag 0 = .ok (.aload_n 0, 1) := by decide +kernel
theorem dX1_readyBag_1 : decode cX1_readyBag 1 = .ok (.getfield 32, 3) := by decide +kernel
theorem dX1_readyBag_4 : decode cX1_readyBag 4 = .ok (.ifCond .eq 15, 3) := by decide +kernel
theorem dX1_readyBag_7 : decode cX1_readyBag 7 = .ok (.aload_n 0, 1) := by decide +kernel
theorem dX1_readyBag_8 : decode cX1_readyBag 8 = .ok (.getfield 22, 3) := by decide +kernel
theorem dX1_readyBag_11 : decode cX1_readyBag 11 = .ok (.iconst 1, 1) := by decide +kernel
theorem dX1_readyBag_12 : decode cX1_readyBag 12 = .ok (.if_icmp .ne 7, 3) := by decide +kernel
theorem dX1_readyBag_15 : decode cX1_readyBag 15 = .ok (.iconst 1, 1) := by decide +kernel
theorem dX1_readyBag_16 : decode cX1_readyBag 16 = .ok (.goto 4, 3) := by decide +kernel
theorem dX1_readyBag_19 : decode cX1_readyBag 19 = .ok (.iconst 0, 1) := by decide +kernel
theorem dX1_readyBag_20 : decode cX1_readyBag 20 = .ok (.istore_n 1, 1) := by decide +kernel
theorem dX1_readyBag_21 : decode cX1_readyBag 21 = .ok (.aload_n 0, 1) := by decide +kernel
theorem dX1_readyBag_22 : decode cX1_readyBag 22 = .ok (.getfield 28, 3) := by decide +kernel
theorem dX1_readyBag_25 : decode cX1_readyBag 25 = .ok (.ifCond .ne 15, 3) := by decide +kernel
theorem dX1_readyBag_28 : decode cX1_readyBag 28 = .ok (.iload_n 1, 1) := by decide +kernel
theorem dX1_readyBag_29 : decode cX1_readyBag 29 = .ok (.ifCond .ne 11, 3) := by decide +kernel
theorem dX1_readyBag_32 : decode cX1_readyBag 32 = .ok (.aload_n 0, 1) := by decide +kernel
theorem dX1_readyBag_33 : decode cX1_readyBag 33 = .ok (.getfield 22, 3) := by decide +kernel
theorem dX1_readyBag_36 : decode cX1_readyBag 36 = .ok (.iconst 1, 1) := by decide +kernel
theorem dX1_readyBag_37 : decode cX1_readyBag 37 = .ok (.if_icmp .ge 7, 3) := by decide +kernel
theorem dX1_readyBag_40 : decode cX1_readyBag 40 = .ok (.iconst (-1), 1) := by decide +kernel
theorem dX1_readyBag_41 : decode cX1_readyBag 41 = .ok (.goto 14, 3) := by decide +kernel
theorem dX1_readyBag_44 : decode cX1_readyBag 44 = .ok (.aload_n 0, 1) := by decide +kernel
theorem dX1_readyBag_45 : decode cX1_readyBag 45 = .ok (.getfield 9, 3) := by decide +kernel
theorem dX1_readyBag_48 : decode cX1_readyBag 48 = .ok (.aload_n 0, 1) := by decide +kernel
theorem dX1_readyBag_49 : decode cX1_readyBag 49 = .ok (.getfield 22, 3) := by decide +kernel
theorem dX1_readyBag_52 : decode cX1_readyBag 52 = .ok (.iconst 1, 1) := by decide +kernel
theorem dX1_readyBag_53 : decode cX1_readyBag 53 = .ok (.isub, 1) := by decide +kernel
theorem dX1_readyBag_54 : decode cX1_readyBag 54 = .ok (.iaload, 1) := by decide +kernel
theorem dX1_readyBag_55 : decode cX1_readyBag 55 = .ok (.ireturn, 1) := by decide +kernel
theorem dX1_cellOf_0 : decode cX1_cellOf 0 = .ok (.iconst 0, 1) := by decide +kernel
theorem dX1_cellOf_1 : decode cX1_cellOf 1 = .ok (.istore_n 2, 1) := by decide +kernel
theorem dX1_cellOf_2 : decode cX1_cellOf 2 = .ok (.iload_n 2, 1) := by decide +kernel
theorem dX1_cellOf_3 : decode cX1_cellOf 3 = .ok (.aload_n 0, 1) := by decide +kernel
theorem dX1_cellOf_4 : decode cX1_cellOf 4 = .ok (.getfield 22, 3) := by decide +kernel
theorem dX1_cellOf_7 : decode cX1_cellOf 7 = .ok (.if_icmp .ge 21, 3) := by decide +kernel
theorem dX1_cellOf_10 : decode cX1_cellOf 10 = .ok (.aload_n 0, 1) := by decide +kernel
theorem dX1_cellOf_11 : decode cX1_cellOf 11 = .ok (.getfield 9, 3) := by decide +kernel
theorem dX1_cellOf_14 : decode cX1_cellOf 14 = .ok (.iload_n 2, 1) := by decide +kernel
theorem dX1_cellOf_15 : decode cX1_cellOf 15 = .ok (.iaload, 1) := by decide +kernel
theorem dX1_cellOf_16 : decode cX1_cellOf 16 = .ok (.iload_n 1, 1) := by decide +kernel
theorem dX1_cellOf_17 : decode cX1_cellOf 17 = .ok (.if_icmp .ne 5, 3) := by decide +kernel
theorem dX1_cellOf_20 : decode cX1_cellOf 20 = .ok (.iload_n 2, 1) := by decide +kernel
theorem dX1_cellOf_21 : decode cX1_cellOf 21 = .ok (.ireturn, 1) := by decide +kernel
theorem dX1_cellOf_22 : decode cX1_cellOf 22 = .ok (.iinc 2 1, 3) := by decide +kernel
theorem dX1_cellOf_25 : decode cX1_cellOf 25 = .ok (.goto (-23), 3) := by decide +kernel
theorem dX1_cellOf_28 : decode cX1_cellOf 28 = .ok (.iconst (-1), 1) := by decide +kernel
theorem dX1_cellOf_29 : decode cX1_cellOf 29 = .ok (.ireturn, 1) := by decide +kernel
theorem dX1_leave_0 : decode cX1_leave 0 = .ok (.aload_n 0, 1) := by decide +kernel
theorem dX1_leave_1 : decode cX1_leave 1 = .ok (.iload_n 1, 1) := by decide +kernel
theorem dX1_leave_2 : decode cX1_leave 2 = .ok (.invokevirtual 35, 3) := by decide +kernel
theorem dX1_leave_5 : decode cX1_leave 5 = .ok (.istore_n 2, 1) := by decide +kernel
theorem dX1_leave_6 : decode cX1_leave 6 = .ok (.iload_n 2, 1) := by decide +kernel
theorem dX1_leave_7 : decode cX1_leave 7 = .ok (.iconst (-1), 1) := by decide +kernel
theorem dX1_leave_8 : decode cX1_leave 8 = .ok (.if_icmp .eq 10, 3) := by decide +kernel
theorem dX1_leave_11 : decode cX1_leave 11 = .ok (.aload_n 0, 1) := by decide +kernel
theorem dX1_leave_12 : decode cX1_leave 12 = .ok (.getfield 9, 3) := by decide +kernel
theorem dX1_leave_15 : decode cX1_leave 15 = .ok (.iload_n 2, 1) := by decide +kernel
theorem dX1_leave_16 : decode cX1_leave 16 = .ok (.iconst (-1), 1) := by decide +kernel
theorem dX1_leave_17 : decode cX1_leave 17 = .ok (.iastore, 1) := by decide +kernel
theorem dX1_leave_18 : decode cX1_leave 18 = .ok (.return_, 1) := by decide +kernel
theorem dX1_copyFrom_0 : decode cX1_copyFrom 0 = .ok (.aload_n 0, 1) := by decide +kernel
theorem dX1_copyFrom_1 : decode cX1_copyFrom 1 = .ok (.aload_n 1, 1) := by decide +kernel
theorem dX1_copyFrom_2 : decode cX1_copyFrom 2 = .ok (.getfield 15, 3) := by decide +kernel
theorem dX1_copyFrom_5 : decode cX1_copyFrom 5 = .ok (.putfield 15, 3) := by decide +kernel
theorem dX1_copyFrom_8 : decode cX1_copyFrom 8 = .ok (.aload_n 0, 1) := by decide +kernel
theorem dX1_copyFrom_9 : decode cX1_copyFrom 9 = .ok (.aload_n 1, 1) := by decide +kernel
theorem dX1_copyFrom_10 : decode cX1_copyFrom 10 = .ok (.getfield 19, 3) := by decide +kernel
theorem dX1_copyFrom_13 : decode cX1_copyFrom 13 = .ok (.putfield 19, 3) := by decide +kernel
theorem dX1_copyFrom_16 : decode cX1_copyFrom 16 = .ok (.aload_n 0, 1) := by decide +kernel
theorem dX1_copyFrom_17 : decode cX1_copyFrom 17 = .ok (.aload_n 1, 1) := by decide +kernel
theorem dX1_copyFrom_18 : decode cX1_copyFrom 18 = .ok (.getfield 22, 3) := by decide +kernel
theorem dX1_copyFrom_21 : decode cX1_copyFrom 21 = .ok (.putfield 22, 3) := by decide +kernel
theorem dX1_copyFrom_24 : decode cX1_copyFrom 24 = .ok (.aload_n 0, 1) := by decide +kernel
theorem dX1_copyFrom_25 : decode cX1_copyFrom 25 = .ok (.aload_n 1, 1) := by decide +kernel
theorem dX1_copyFrom_26 : decode cX1_copyFrom 26 = .ok (.getfield 25, 3) := by decide +kernel
theorem dX1_copyFrom_29 : decode cX1_copyFrom 29 = .ok (.putfield 25, 3) := by decide +kernel
theorem dX1_copyFrom_32 : decode cX1_copyFrom 32 = .ok (.aload_n 0, 1) := by decide +kernel
theorem dX1_copyFrom_33 : decode cX1_copyFrom 33 = .ok (.aload_n 1, 1) := by decide +kernel
theorem dX1_copyFrom_34 : decode cX1_copyFrom 34 = .ok (.getfield 28, 3) := by decide +kernel
theorem dX1_copyFrom_37 : decode cX1_copyFrom 37 = .ok (.putfield 28, 3) := by decide +kernel
theorem dX1_copyFrom_40 : decode cX1_copyFrom 40 = .ok (.aload_n 0, 1) := by decide +kernel
theorem dX1_copyFrom_41 : decode cX1_copyFrom 41 = .ok (.aload_n 1, 1) := by decide +kernel
theorem dX1_copyFrom_42 : decode cX1_copyFrom 42 = .ok (.getfield 32, 3) := by decide +kernel
theorem dX1_copyFrom_45 : decode cX1_copyFrom 45 = .ok (.putfield 32, 3) := by decide +kernel
theorem dX1_copyFrom_48 : decode cX1_copyFrom 48 = .ok (.aload_n 1, 1) := by decide +kernel
theorem dX1_copyFrom_49 : decode cX1_copyFrom 49 = .ok (.getfield 9, 3) := by decide +kernel
theorem dX1_copyFrom_52 : decode cX1_copyFrom 52 = .ok (.iconst 0, 1) := by decide +kernel
theorem dX1_copyFrom_53 : decode cX1_copyFrom 53 = .ok (.aload_n 0, 1) := by decide +kernel
theorem dX1_copyFrom_54 : decode cX1_copyFrom 54 = .ok (.getfield 9, 3) := by decide +kernel
theorem dX1_copyFrom_57 : decode cX1_copyFrom 57 = .ok (.iconst 0, 1) := by decide +kernel
theorem dX1_copyFrom_58 : decode cX1_copyFrom 58 = .ok (.aload_n 0, 1) := by decide +kernel
theorem dX1_copyFrom_59 : decode cX1_copyFrom 59 = .ok (.getfield 9, 3) := by decide +kernel
theorem dX1_copyFrom_62 : decode cX1_copyFrom 62 = .ok (.arraylength, 1) := by decide +kernel
theorem dX1_copyFrom_63 : decode cX1_copyFrom 63 = .ok (.invokestatic 39, 3) := by decide +kernel
theorem dX1_copyFrom_66 : decode cX1_copyFrom 66 = .ok (.return_, 1) := by decide +kernel
theorem dX2_init_0 : decode cX2_init 0 = .ok (.aload_n 0, 1) := by decide +kernel
theorem dX2_init_1 : decode cX2_init 1 = .ok (.invokespecial 1, 3) := by decide +kernel
theorem dX2_init_4 : decode cX2_init 4 = .ok (.return_, 1) := by decide +kernel
theorem dX2_begin_0 : decode cX2_begin 0 = .ok (.aload_n 0, 1) := by decide +kernel
theorem dX2_begin_1 : decode cX2_begin 1 = .ok (.iload_n 1, 1) := by decide +kernel
theorem dX2_begin_2 : decode cX2_begin 2 = .ok (.putfield 7, 3) := by decide +kernel
theorem dX2_begin_5 : decode cX2_begin 5 = .ok (.aload_n 0, 1) := by decide +kernel
theorem dX2_begin_6 : decode cX2_begin 6 = .ok (.iload_n 2, 1) := by decide +kernel
theorem dX2_begin_7 : decode cX2_begin 7 = .ok (.putfield 13, 3) := by decide +kernel
theorem dX2_begin_10 : decode cX2_begin 10 = .ok (.aload_n 0, 1) := by decide +kernel
theorem dX2_begin_11 : decode cX2_begin 11 = .ok (.iload_n 3, 1) := by decide +kernel
theorem dX2_begin_12 : decode cX2_begin 12 = .ok (.putfield 16, 3) := by decide +kernel
theorem dX2_begin_15 : decode cX2_begin 15 = .ok (.return_, 1) := by decide +kernel
theorem dX2_copyFrom_0 : decode cX2_copyFrom 0 = .ok (.aload_n 0, 1) := by decide +kernel
theorem dX2_copyFrom_1 : decode cX2_copyFrom 1 = .ok (.aload_n 1, 1) := by decide +kernel
theorem dX2_copyFrom_2 : decode cX2_copyFrom 2 = .ok (.getfield 7, 3) := by decide +kernel
theorem dX2_copyFrom_5 : decode cX2_copyFrom 5 = .ok (.aload_n 1, 1) := by decide +kernel
theorem dX2_copyFrom_6 : decode cX2_copyFrom 6 = .ok (.getfield 13, 3) := by decide +kernel
theorem dX2_copyFrom_9 : decode cX2_copyFrom 9 = .ok (.aload_n 1, 1) := by decide +kernel
theorem dX2_copyFrom_10 : decode cX2_copyFrom 10 = .ok (.getfield 16, 3) := by decide +kernel
theorem dX2_copyFrom_13 : decode cX2_copyFrom 13 = .ok (.invokevirtual 19, 3) := by decide +kernel
theorem dX2_copyFrom_16 : decode cX2_copyFrom 16 = .ok (.return_, 1) := by decide +kernel
theorem dX3_init_0 : decode cX3_init 0 = .ok (.aload_n 0, 1) := by decide +kernel
theorem dX3_init_1 : decode cX3_init 1 = .ok (.invokespecial 3, 3) := by decide +kernel
theorem dX3_init_4 : decode cX3_init 4 = .ok (.aload_n 0, 1) := by decide +kernel
theorem dX3_init_5 : decode cX3_init 5 = .ok (.bipush 12, 2) := by decide +kernel
theorem dX3_init_7 : decode cX3_init 7 = .ok (.anewarray 9, 3) := by decide +kernel
theorem dX3_init_10 : decode cX3_init 10 = .ok (.putfield 11, 3) := by decide +kernel
theorem dX3_init_13 : decode cX3_init 13 = .ok (.aload_n 0, 1) := by decide +kernel
theorem dX3_init_14 : decode cX3_init 14 = .ok (.bipush 16, 2) := by decide +kernel
theorem dX3_init_16 : decode cX3_init 16 = .ok (.anewarray 17, 3) := by decide +kernel
theorem dX3_init_19 : decode cX3_init 19 = .ok (.putfield 19, 3) := by decide +kernel
theorem dX3_init_22 : decode cX3_init 22 = .ok (.aload_n 0, 1) := by decide +kernel
theorem dX3_init_23 : decode cX3_init 23 = .ok (.bipush 8, 2) := by decide +kernel
theorem dX3_init_25 : decode cX3_init 25 = .ok (.anewarray 23, 3) := by decide +kernel
theorem dX3_init_28 : decode cX3_init 28 = .ok (.putfield 25, 3) := by decide +kernel
theorem dX3_init_31 : decode cX3_init 31 = .ok (.aload_n 0, 1) := by decide +kernel
theorem dX3_init_32 : decode cX3_init 32 = .ok (.bipush 60, 2) := by decide +kernel
theorem dX3_init_34 : decode cX3_init 34 = .ok (.anewarray 29, 3) := by decide +kernel
theorem dX3_init_37 : decode cX3_init 37 = .ok (.putfield 31, 3) := by decide +kernel
theorem dX3_init_40 : decode cX3_init 40 = .ok (.iconst 0, 1) := by decide +kernel
theorem dX3_init_41 : decode cX3_init 41 = .ok (.istore_n 1, 1) := by decide +kernel
theorem dX3_init_42 : decode cX3_init 42 = .ok (.iload_n 1, 1) := by decide +kernel
theorem dX3_init_43 : decode cX3_init 43 = .ok (.aload_n 0, 1) := by decide +kernel
theorem dX3_init_44 : decode cX3_init 44 = .ok (.getfield 11, 3) := by decide +kernel
theorem dX3_init_47 : decode cX3_init 47 = .ok (.arraylength, 1) := by decide +kernel
theorem dX3_init_48 : decode cX3_init 48 = .ok (.if_icmp .ge 22, 3) := by decide +kernel
theorem dX3_init_51 : decode cX3_init 51 = .ok (.aload_n 0, 1) := by decide +kernel
theorem dX3_init_52 : decode cX3_init 52 = .ok (.getfield 11, 3) := by decide +kernel
theorem dX3_init_55 : decode cX3_init 55 = .ok (.iload_n 1, 1) := by decide +kernel
theorem dX3_init_56 : decode cX3_init 56 = .ok (.new 9, 3) := by decide +kernel
theorem dX3_init_59 : decode cX3_init 59 = .ok (.dup, 1) := by decide +kernel
theorem dX3_init_60 : decode cX3_init 60 = .ok (.invokespecial 35, 3) := by decide +kernel
theorem dX3_init_63 : decode cX3_init 63 = .ok (.aastore, 1) := by decide +kernel
theorem dX3_init_64 : decode cX3_init 64 = .ok (.iinc 1 1, 3) := by decide +kernel
theorem dX3_init_67 : decode cX3_init 67 = .ok (.goto (-25), 3) := by decide +kernel
theorem dX3_init_70 : decode cX3_init 70 = .ok (.iconst 0, 1) := by decide +kernel
theorem dX3_init_71 : decode cX3_init 71 = .ok (.istore_n 1, 1) := by decide +kernel
theorem dX3_init_72 : decode cX3_init 72 = .ok (.iload_n 1, 1) := by decide +kernel
theorem dX3_init_73 : decode cX3_init 73 = .ok (.aload_n 0, 1) := by decide +kernel
theorem dX3_init_74 : decode cX3_init 74 = .ok (.getfield 19, 3) := by decide +kernel
theorem dX3_init_77 : decode cX3_init 77 = .ok (.arraylength, 1) := by decide +kernel
theorem dX3_init_78 : decode cX3_init 78 = .ok (.if_icmp .ge 22, 3) := by decide +kernel
theorem dX3_init_81 : decode cX3_init 81 = .ok (.aload_n 0, 1) := by decide +kernel
theorem dX3_init_82 : decode cX3_init 82 = .ok (.getfield 19, 3) := by decide +kernel
theorem dX3_init_85 : decode cX3_init 85 = .ok (.iload_n 1, 1) := by decide +kernel
theorem dX3_init_86 : decode cX3_init 86 = .ok (.new 17, 3) := by decide +kernel
theorem dX3_init_89 : decode cX3_init 89 = .ok (.dup, 1) := by decide +kernel
theorem dX3_init_90 : decode cX3_init 90 = .ok (.invokespecial 36, 3) := by decide +kernel
theorem dX3_init_93 : decode cX3_init 93 = .ok (.aastore, 1) := by decide +kernel
theorem dX3_init_94 : decode cX3_init 94 = .ok (.iinc 1 1, 3) := by decide +kernel
theorem dX3_init_97 : decode cX3_init 97 = .ok (.goto (-25), 3) := by decide +kernel
theorem dX3_init_100 : decode cX3_init 100 = .ok (.iconst 0, 1) := by decide +kernel
theorem dX3_init_101 : decode cX3_init 101 = .ok (.istore_n 1, 1) := by decide +kernel
theorem dX3_init_102 : decode cX3_init 102 = .ok (.iload_n 1, 1) := by decide +kernel
theorem dX3_init_103 : decode cX3_init 103 = .ok (.aload_n 0, 1) := by decide +kernel
theorem dX3_init_104 : decode cX3_init 104 = .ok (.getfield 25, 3) := by decide +kernel
theorem dX3_init_107 : decode cX3_init 107 = .ok (.arraylength, 1) := by decide +kernel
theorem dX3_init_108 : decode cX3_init 108 = .ok (.if_icmp .ge 22, 3) := by decide +kernel
theorem dX3_init_111 : decode cX3_init 111 = .ok (.aload_n 0, 1) := by decide +kernel
theorem dX3_init_112 : decode cX3_init 112 = .ok (.getfield 25, 3) := by decide +kernel
theorem dX3_init_115 : decode cX3_init 115 = .ok (.iload_n 1, 1) := by decide +kernel
theorem dX3_init_116 : decode cX3_init 116 = .ok (.new 23, 3) := by decide +kernel
theorem dX3_init_119 : decode cX3_init 119 = .ok (.dup, 1) := by decide +kernel
theorem dX3_init_120 : decode cX3_init 120 = .ok (.invokespecial 37, 3) := by decide +kernel
theorem dX3_init_123 : decode cX3_init 123 = .ok (.aastore, 1) := by decide +kernel
theorem dX3_init_124 : decode cX3_init 124 = .ok (.iinc 1 1, 3) := by decide +kernel
theorem dX3_init_127 : decode cX3_init 127 = .ok (.goto (-25), 3) := by decide +kernel
theorem dX3_init_130 : decode cX3_init 130 = .ok (.iconst 0, 1) := by decide +kernel
theorem dX3_init_131 : decode cX3_init 131 = .ok (.istore_n 1, 1) := by decide +kernel
theorem dX3_init_132 : decode cX3_init 132 = .ok (.iload_n 1, 1) := by decide +kernel
theorem dX3_init_133 : decode cX3_init 133 = .ok (.aload_n 0, 1) := by decide +kernel
theorem dX3_init_134 : decode cX3_init 134 = .ok (.getfield 31, 3) := by decide +kernel
theorem dX3_init_137 : decode cX3_init 137 = .ok (.arraylength, 1) := by decide +kernel
theorem dX3_init_138 : decode cX3_init 138 = .ok (.if_icmp .ge 22, 3) := by decide +kernel
theorem dX3_init_141 : decode cX3_init 141 = .ok (.aload_n 0, 1) := by decide +kernel
theorem dX3_init_142 : decode cX3_init 142 = .ok (.getfield 31, 3) := by decide +kernel
theorem dX3_init_145 : decode cX3_init 145 = .ok (.iload_n 1, 1) := by decide +kernel
theorem dX3_init_146 : decode cX3_init 146 = .ok (.new 29, 3) := by decide +kernel
theorem dX3_init_149 : decode cX3_init 149 = .ok (.dup, 1) := by decide +kernel
theorem dX3_init_150 : decode cX3_init 150 = .ok (.invokespecial 38, 3) := by decide +kernel
theorem dX3_init_153 : decode cX3_init 153 = .ok (.aastore, 1) := by decide +kernel
theorem dX3_init_154 : decode cX3_init 154 = .ok (.iinc 1 1, 3) := by decide +kernel
theorem dX3_init_157 : decode cX3_init 157 = .ok (.goto (-25), 3) := by decide +kernel
theorem dX3_init_160 : decode cX3_init 160 = .ok (.return_, 1) := by decide +kernel
theorem dX3_hasPoint_0 : decode cX3_hasPoint 0 = .ok (.iload_n 1, 1) := by decide +kernel
theorem dX3_hasPoint_1 : decode cX3_hasPoint 1 = .ok (.ifCond .lt 15, 3) := by decide +kernel
theorem dX3_hasPoint_4 : decode cX3_hasPoint 4 = .ok (.iload_n 1, 1) := by decide +kernel
theorem dX3_hasPoint_5 : decode cX3_hasPoint 5 = .ok (.aload_n 0, 1) := by decide +kernel
theorem dX3_hasPoint_6 : decode cX3_hasPoint 6 = .ok (.getfield 39, 3) := by decide +kernel
theorem dX3_hasPoint_9 : decode cX3_hasPoint 9 = .ok (.if_icmp .ge 7, 3) := by decide +kernel
theorem dX3_hasPoint_12 : decode cX3_hasPoint 12 = .ok (.iconst 1, 1) := by decide +kernel
theorem dX3_hasPoint_13 : decode cX3_hasPoint 13 = .ok (.goto 4, 3) := by decide +kernel
theorem dX3_hasPoint_16 : decode cX3_hasPoint 16 = .ok (.iconst 0, 1) := by decide +kernel
theorem dX3_hasPoint_17 : decode cX3_hasPoint 17 = .ok (.ireturn, 1) := by decide +kernel
theorem dX3_hasBelt_0 : decode cX3_hasBelt 0 = .ok (.iload_n 1, 1) := by decide +kernel
theorem dX3_hasBelt_1 : decode cX3_hasBelt 1 = .ok (.ifCond .lt 15, 3) := by decide +kernel
theorem dX3_hasBelt_4 : decode cX3_hasBelt 4 = .ok (.iload_n 1, 1) := by decide +kernel
theorem dX3_hasBelt_5 : decode cX3_hasBelt 5 = .ok (.aload_n 0, 1) := by decide +kernel
theorem dX3_hasBelt_6 : decode cX3_hasBelt 6 = .ok (.getfield 43, 3) := by decide +kernel
theorem dX3_hasBelt_9 : decode cX3_hasBelt 9 = .ok (.if_icmp .ge 7, 3) := by decide +kernel
theorem dX3_hasBelt_12 : decode cX3_hasBelt 12 = .ok (.iconst 1, 1) := by decide +kernel
theorem dX3_hasBelt_13 : decode cX3_hasBelt 13 = .ok (.goto 4, 3) := by decide +kernel
theorem dX3_hasBelt_16 : decode cX3_hasBelt 16 = .ok (.iconst 0, 1) := by decide +kernel
theorem dX3_hasBelt_17 : decode cX3_hasBelt 17 = .ok (.ireturn, 1) := by decide +kernel
theorem dX3_hasFlight_0 : decode cX3_hasFlight 0 = .ok (.iload_n 1, 1) := by decide +kernel
theorem dX3_hasFlight_1 : decode cX3_hasFlight 1 = .ok (.ifCond .lt 15, 3) := by decide +kernel
theorem dX3_hasFlight_4 : decode cX3_hasFlight 4 = .ok (.iload_n 1, 1) := by decide +kernel
theorem dX3_hasFlight_5 : decode cX3_hasFlight 5 = .ok (.aload_n 0, 1) := by decide +kernel
theorem dX3_hasFlight_6 : decode cX3_hasFlight 6 = .ok (.getfield 46, 3) := by decide +kernel
theorem dX3_hasFlight_9 : decode cX3_hasFlight 9 = .ok (.if_icmp .ge 7, 3) := by decide +kernel
theorem dX3_hasFlight_12 : decode cX3_hasFlight 12 = .ok (.iconst 1, 1) := by decide +kernel
theorem dX3_hasFlight_13 : decode cX3_hasFlight 13 = .ok (.goto 4, 3) := by decide +kernel
theorem dX3_hasFlight_16 : decode cX3_hasFlight 16 = .ok (.iconst 0, 1) := by decide +kernel
theorem dX3_hasFlight_17 : decode cX3_hasFlight 17 = .ok (.ireturn, 1) := by decide +kernel
theorem dX3_hasBag_0 : decode cX3_hasBag 0 = .ok (.iload_n 1, 1) := by decide +kernel
theorem dX3_hasBag_1 : decode cX3_hasBag 1 = .ok (.ifCond .lt 15, 3) := by decide +kernel
theorem dX3_hasBag_4 : decode cX3_hasBag 4 = .ok (.iload_n 1, 1) := by decide +kernel
theorem dX3_hasBag_5 : decode cX3_hasBag 5 = .ok (.aload_n 0, 1) := by decide +kernel
theorem dX3_hasBag_6 : decode cX3_hasBag 6 = .ok (.getfield 49, 3) := by decide +kernel
theorem dX3_hasBag_9 : decode cX3_hasBag 9 = .ok (.if_icmp .ge 7, 3) := by decide +kernel
theorem dX3_hasBag_12 : decode cX3_hasBag 12 = .ok (.iconst 1, 1) := by decide +kernel
theorem dX3_hasBag_13 : decode cX3_hasBag 13 = .ok (.goto 4, 3) := by decide +kernel
theorem dX3_hasBag_16 : decode cX3_hasBag 16 = .ok (.iconst 0, 1) := by decide +kernel
theorem dX3_hasBag_17 : decode cX3_hasBag 17 = .ok (.ireturn, 1) := by decide +kernel
theorem dX3_isOfKind_0 : decode cX3_isOfKind 0 = .ok (.aload_n 0, 1) := by decide +kernel
theorem dX3_isOfKind_1 : decode cX3_isOfKind 1 = .ok (.iload_n 1, 1) := by decide +kernel
theorem dX3_isOfKind_2 : decode cX3_isOfKind 2 = .ok (.invokevirtual 52, 3) := by decide +kernel
theorem dX3_isOfKind_5 : decode cX3_isOfKind 5 = .ok (.ifCond .eq 20, 3) := by decide +kernel
theorem dX3_isOfKind_8 : decode cX3_isOfKind 8 = .ok (.aload_n 0, 1) := by decide +kernel
theorem dX3_isOfKind_9 : decode cX3_isOfKind 9 = .ok (.getfield 11, 3) := by decide +kernel
theorem dX3_isOfKind_12 : decode cX3_isOfKind 12 = .ok (.iload_n 1, 1) := by decide +kernel
theorem dX3_isOfKind_13 : decode cX3_isOfKind 13 = .ok (.aaload, 1) := by decide +kernel
theorem dX3_isOfKind_14 : decode cX3_isOfKind 14 = .ok (.getfield 56, 3) := by decide +kernel
theorem dX3_isOfKind_17 : decode cX3_isOfKind 17 = .ok (.iload_n 2, 1) := by decide +kernel
theorem dX3_isOfKind_18 : decode cX3_isOfKind 18 = .ok (.if_icmp .ne 7, 3) := by decide +kernel
theorem dX3_isOfKind_21 : decode cX3_isOfKind 21 = .ok (.iconst 1, 1) := by decide +kernel
theorem dX3_isOfKind_22 : decode cX3_isOfKind 22 = .ok (.goto 4, 3) := by decide +kernel
theorem dX3_isOfKind_25 : decode cX3_isOfKind 25 = .ok (.iconst 0, 1) := by decide +kernel
theorem dX3_isOfKind_26 : decode cX3_isOfKind 26 = .ok (.ireturn, 1) := by decide +kernel
theorem dX3_queue_0 : decode cX3_queue 0 = .ok (.aload_n 0, 1) := by decide +kernel
theorem dX3_queue_1 : decode cX3_queue 1 = .ok (.iload_n 1, 1) := by decide +kernel
theorem dX3_queue_2 : decode cX3_queue 2 = .ok (.invokevirtual 59, 3) := by decide +kernel
theorem dX3_queue_5 : decode cX3_queue 5 = .ok (.ifCond .eq 42, 3) := by decide +kernel
theorem dX3_queue_8 : decode cX3_queue 8 = .ok (.aload_n 0, 1) := by decide +kernel
theorem dX3_queue_9 : decode cX3_queue 9 = .ok (.iload_n 2, 1) := by decide +kernel
theorem dX3_queue_10 : decode cX3_queue 10 = .ok (.invokevirtual 52, 3) := by decide +kernel
theorem dX3_queue_13 : decode cX3_queue 13 = .ok (.ifCond .eq 34, 3) := by decide +kernel
theorem dX3_queue_16 : decode cX3_queue 16 = .ok (.aload_n 0, 1) := by decide +kernel
theorem dX3_queue_17 : decode cX3_queue 17 = .ok (.getfield 31, 3) := by decide +kernel
theorem dX3_queue_20 : decode cX3_queue 20 = .ok (.iload_n 1, 1) := by decide +kernel
theorem dX3_queue_21 : decode cX3_queue 21 = .ok (.aaload, 1) := by decide +kernel
theorem dX3_queue_22 : decode cX3_queue 22 = .ok (.iload_n 3, 1) := by decide +kernel
theorem dX3_queue_23 : decode cX3_queue 23 = .ok (.putfield 62, 3) := by decide +kernel
theorem dX3_queue_26 : decode cX3_queue 26 = .ok (.aload_n 0, 1) := by decide +kernel
theorem dX3_queue_27 : decode cX3_queue 27 = .ok (.getfield 31, 3) := by decide +kernel
theorem dX3_queue_30 : decode cX3_queue 30 = .ok (.iload_n 1, 1) := by decide +kernel
theorem dX3_queue_31 : decode cX3_queue 31 = .ok (.aaload, 1) := by decide +kernel
theorem dX3_queue_32 : decode cX3_queue 32 = .ok (.iconst 0, 1) := by decide +kernel
theorem dX3_queue_33 : decode cX3_queue 33 = .ok (.iload_n 2, 1) := by decide +kernel
theorem dX3_queue_34 : decode cX3_queue 34 = .ok (.invokevirtual 66, 3) := by decide +kernel
theorem dX3_queue_37 : decode cX3_queue 37 = .ok (.aload_n 0, 1) := by decide +kernel
theorem dX3_queue_38 : decode cX3_queue 38 = .ok (.getfield 11, 3) := by decide +kernel
theorem dX3_queue_41 : decode cX3_queue 41 = .ok (.iload_n 2, 1) := by decide +kernel
theorem dX3_queue_42 : decode cX3_queue 42 = .ok (.aaload, 1) := by decide +kernel
theorem dX3_queue_43 : decode cX3_queue 43 = .ok (.iload_n 1, 1) := by decide +kernel
theorem dX3_queue_44 : decode cX3_queue 44 = .ok (.invokevirtual 70, 3) := by decide +kernel
theorem dX3_queue_47 : decode cX3_queue 47 = .ok (.return_, 1) := by decide +kernel
theorem dX3_lift_0 : decode cX3_lift 0 = .ok (.aload_n 0, 1) := by decide +kernel
theorem dX3_lift_1 : decode cX3_lift 1 = .ok (.iload_n 1, 1) := by decide +kernel
theorem dX3_lift_2 : decode cX3_lift 2 = .ok (.invokevirtual 59, 3) := by decide +kernel
theorem dX3_lift_5 : decode cX3_lift 5 = .ok (.ifCond .ne 4, 3) := by decide +kernel
theorem dX3_lift_8 : decode cX3_lift 8 = .ok (.return_, 1) := by decide +kernel
theorem dX3_lift_9 : decode cX3_lift 9 = .ok (.aload_n 0, 1) := by decide +kernel
theorem dX3_lift_10 : decode cX3_lift 10 = .ok (.getfield 31, 3) := by decide +kernel
theorem dX3_lift_13 : decode cX3_lift 13 = .ok (.iload_n 1, 1) := by decide +kernel
theorem dX3_lift_14 : decode cX3_lift 14 = .ok (.aaload, 1) := by decide +kernel
theorem dX3_lift_15 : decode cX3_lift 15 = .ok (.astore_n 2, 1) := by decide +kernel
theorem dX3_lift_16 : decode cX3_lift 16 = .ok (.aload_n 2, 1) := by decide +kernel
theorem dX3_lift_17 : decode cX3_lift 17 = .ok (.getfield 74, 3) := by decide +kernel
theorem dX3_lift_20 : decode cX3_lift 20 = .ok (.iconst 1, 1) := by decide +kernel
theorem dX3_lift_21 : decode cX3_lift 21 = .ok (.if_icmp .ne 30, 3) := by decide +kernel
theorem dX3_lift_24 : decode cX3_lift 24 = .ok (.aload_n 0, 1) := by decide +kernel
theorem dX3_lift_25 : decode cX3_lift 25 = .ok (.aload_n 2, 1) := by decide +kernel
theorem dX3_lift_26 : decode cX3_lift 26 = .ok (.getfield 77, 3) := by decide +kernel
theorem dX3_lift_29 : decode cX3_lift 29 = .ok (.invokevirtual 80, 3) := by decide +kernel
theorem dX3_lift_32 : decode cX3_lift 32 = .ok (.ifCond .eq 43, 3) := by decide +kernel
theorem dX3_lift_35 : decode cX3_lift 35 = .ok (.aload_n 0, 1) := by decide +kernel
theorem dX3_lift_36 : decode cX3_lift 36 = .ok (.getfield 19, 3) := by decide +kernel
theorem dX3_lift_39 : decode cX3_lift 39 = .ok (.aload_n 2, 1) := by decide +kernel
theorem dX3_lift_40 : decode cX3_lift 40 = .ok (.getfield 77, 3) := by decide +kernel
theorem dX3_lift_43 : decode cX3_lift 43 = .ok (.aaload, 1) := by decide +kernel
theorem dX3_lift_44 : decode cX3_lift 44 = .ok (.iload_n 1, 1) := by decide +kernel
theorem dX3_lift_45 : decode cX3_lift 45 = .ok (.invokevirtual 83, 3) := by decide +kernel
theorem dX3_lift_48 : decode cX3_lift 48 = .ok (.goto 27, 3) := by decide +kernel
theorem dX3_lift_51 : decode cX3_lift 51 = .ok (.aload_n 0, 1) := by decide +kernel
theorem dX3_lift_52 : decode cX3_lift 52 = .ok (.aload_n 2, 1) := by decide +kernel
theorem dX3_lift_53 : decode cX3_lift 53 = .ok (.getfield 77, 3) := by decide +kernel
theorem dX3_lift_56 : decode cX3_lift 56 = .ok (.invokevirtual 52, 3) := by decide +kernel
theorem dX3_lift_59 : decode cX3_lift 59 = .ok (.ifCond .eq 16, 3) := by decide +kernel
theorem dX3_lift_62 : decode cX3_lift 62 = .ok (.aload_n 0, 1) := by decide +kernel
theorem dX3_lift_63 : decode cX3_lift 63 = .ok (.getfield 11, 3) := by decide +kernel
theorem dX3_lift_66 : decode cX3_lift 66 = .ok (.aload_n 2, 1) := by decide +kernel
theorem dX3_lift_67 : decode cX3_lift 67 = .ok (.getfield 77, 3) := by decide +kernel
theorem dX3_lift_70 : decode cX3_lift 70 = .ok (.aaload, 1) := by decide +kernel
theorem dX3_lift_71 : decode cX3_lift 71 = .ok (.iload_n 1, 1) := by decide +kernel
theorem dX3_lift_72 : decode cX3_lift 72 = .ok (.invokevirtual 86, 3) := by decide +kernel
theorem dX3_lift_75 : decode cX3_lift 75 = .ok (.aload_n 2, 1) := by decide +kernel
theorem dX3_lift_76 : decode cX3_lift 76 = .ok (.iconst 4, 1) := by decide +kernel
theorem dX3_lift_77 : decode cX3_lift 77 = .ok (.bipush (-100), 2) := by decide +kernel
theorem dX3_lift_79 : decode cX3_lift 79 = .ok (.invokevirtual 66, 3) := by decide +kernel
theorem dX3_lift_82 : decode cX3_lift 82 = .ok (.return_, 1) := by decide +kernel
theorem dX3_inletsOf_0 : decode cX3_inletsOf 0 = .ok (.iconst 0, 1) := by decide +kernel
theorem dX3_inletsOf_1 : decode cX3_inletsOf 1 = .ok (.istore_n 2, 1) := by decide +kernel
theorem dX3_inletsOf_2 : decode cX3_inletsOf 2 = .ok (.iconst 0, 1) := by decide +kernel
theorem dX3_inletsOf_3 : decode cX3_inletsOf 3 = .ok (.istore_n 3, 1) := by decide +kernel
theorem dX3_inletsOf_4 : decode cX3_inletsOf 4 = .ok (.iload_n 3, 1) := by decide +kernel
theorem dX3_inletsOf_5 : decode cX3_inletsOf 5 = .ok (.aload_n 0, 1) := by decide +kernel
theorem dX3_inletsOf_6 : decode cX3_inletsOf 6 = .ok (.getfield 43, 3) := by decide +kernel
theorem dX3_inletsOf_9 : decode cX3_inletsOf 9 = .ok (.if_icmp .ge 25, 3) := by decide +kernel
theorem dX3_inletsOf_12 : decode cX3_inletsOf 12 = .ok (.aload_n 0, 1) := by decide +kernel
theorem dX3_inletsOf_13 : decode cX3_inletsOf 13 = .ok (.getfield 19, 3) := by decide +kernel
theorem dX3_inletsOf_16 : decode cX3_inletsOf 16 = .ok (.iload_n 3, 1) := by decide +kernel
theorem dX3_inletsOf_17 : decode cX3_inletsOf 17 = .ok (.aaload, 1) := by decide +kernel
theorem dX3_inletsOf_18 : decode cX3_inletsOf 18 = .ok (.getfield 87, 3) := by decide +kernel
theorem dX3_inletsOf_21 : decode cX3_inletsOf 21 = .ok (.iload_n 1, 1) := by decide +kernel
theorem dX3_inletsOf_22 : decode cX3_inletsOf 22 = .ok (.if_icmp .ne 6, 3) := by decide +kernel
theorem dX3_inletsOf_25 : decode cX3_inletsOf 25 = .ok (.iinc 2 1, 3) := by decide +kernel
theorem dX3_inletsOf_28 : decode cX3_inletsOf 28 = .ok (.iinc 3 1, 3) := by decide +kernel
theorem dX3_inletsOf_31 : decode cX3_inletsOf 31 = .ok (.goto (-27), 3) := by decide +kernel
theorem dX3_inletsOf_34 : decode cX3_inletsOf 34 = .ok (.iload_n 2, 1) := by decide +kernel
theorem dX3_inletsOf_35 : decode cX3_inletsOf 35 = .ok (.ireturn, 1) := by decide +kernel
theorem dX3_inletBehind_0 : decode cX3_inletBehind 0 = .ok (.iconst (-1), 1) := by decide +kernel
theorem dX3_inletBehind_1 : decode cX3_inletBehind 1 = .ok (.istore_n 3, 1) := by decide +kernel
theorem dX3_inletBehind_2 : decode cX3_inletBehind 2 = .ok (.iconst 0, 1) := by decide +kernel
theorem dX3_inletBehind_3 : decode cX3_inletBehind 3 = .ok (.istore 4, 2) := by decide +kernel
theorem dX3_inletBehind_5 : decode cX3_inletBehind 5 = .ok (.iload 4, 2) := by decide +kernel
theorem dX3_inletBehind_7 : decode cX3_inletBehind 7 = .ok (.aload_n 0, 1) := by decide +kernel
theorem dX3_inletBehind_8 : decode cX3_inletBehind 8 = .ok (.getfield 43, 3) := by decide +kernel
theorem dX3_inletBehind_11 : decode cX3_inletBehind 11 = .ok (.if_icmp .ge 40, 3) := by decide +kernel
theorem dX3_inletBehind_14 : decode cX3_inletBehind 14 = .ok (.aload_n 0, 1) := by decide +kernel
theorem dX3_inletBehind_15 : decode cX3_inletBehind 15 = .ok (.getfield 19, 3) := by decide +kernel
theorem dX3_inletBehind_18 : decode cX3_inletBehind 18 = .ok (.iload 4, 2) := by decide +kernel
theorem dX3_inletBehind_20 : decode cX3_inletBehind 20 = .ok (.aaload, 1) := by decide +kernel
theorem dX3_inletBehind_21 : decode cX3_inletBehind 21 = .ok (.getfield 87, 3) := by decide +kernel
theorem dX3_inletBehind_24 : decode cX3_inletBehind 24 = .ok (.iload_n 2, 1) := by decide +kernel
theorem dX3_inletBehind_25 : decode cX3_inletBehind 25 = .ok (.if_icmp .ne 20, 3) := by decide +kernel
theorem dX3_inletBehind_28 : decode cX3_inletBehind 28 = .ok (.iload 4, 2) := by decide +kernel
theorem dX3_inletBehind_30 : decode cX3_inletBehind 30 = .ok (.iload_n 1, 1) := by decide +kernel
theorem dX3_inletBehind_31 : decode cX3_inletBehind 31 = .ok (.if_icmp .le 6, 3) := by decide +kernel
theorem dX3_inletBehind_34 : decode cX3_inletBehind 34 = .ok (.iload 4, 2) := by decide +kernel
theorem dX3_inletBehind_36 : decode cX3_inletBehind 36 = .ok (.ireturn, 1) := by decide +kernel
theorem dX3_inletBehind_37 : decode cX3_inletBehind 37 = .ok (.iload_n 3, 1) := by decide +kernel
theorem dX3_inletBehind_38 : decode cX3_inletBehind 38 = .ok (.iconst (-1), 1) := by decide +kernel
theorem dX3_inletBehind_39 : decode cX3_inletBehind 39 = .ok (.if_icmp .ne 6, 3) := by decide +kernel
theorem dX3_inletBehind_42 : decode cX3_inletBehind 42 = .ok (.iload 4, 2) := by decide +kernel
theorem dX3_inletBehind_44 : decode cX3_inletBehind 44 = .ok (.istore_n 3, 1) := by decide +kernel
theorem dX3_inletBehind_45 : decode cX3_inletBehind 45 = .ok (.iinc 4 1, 3) := by decide +kernel
theorem dX3_inletBehind_48 : decode cX3_inletBehind 48 = .ok (.goto (-43), 3) := by decide +kernel
theorem dX3_inletBehind_51 : decode cX3_inletBehind 51 = .ok (.iload_n 3, 1) := by decide +kernel
theorem dX3_inletBehind_52 : decode cX3_inletBehind 52 = .ok (.ireturn, 1) := by decide +kernel
theorem dX3_lowestSoundOutlet_0 : decode cX3_lowestSoundOutlet 0 = .ok (.iconst 0, 1) := by decide +kernel
theorem dX3_lowestSoundOutlet_1 : decode cX3_lowestSoundOutlet 1 = .ok (.istore_n 2, 1) := by decide +kernel
theorem dX3_lowestSoundOutlet_2 : decode cX3_lowestSoundOutlet 2 = .ok (.iload_n 2, 1) := by decide +kernel
theorem dX3_lowestSoundOutlet_3 : decode cX3_lowestSoundOutlet 3 = .ok (.aload_n 0, 1) := by decide +kernel
theorem dX3_lowestSoundOutlet_4 : decode cX3_lowestSoundOutlet 4 = .ok (.getfield 43, 3) := by decide +kernel
theorem dX3_lowestSoundOutlet_7 : decode cX3_lowestSoundOutlet 7 = .ok (.if_icmp .ge 36, 3) := by decide +kernel
theorem dX3_lowestSoundOutlet_10 : decode cX3_lowestSoundOutlet 10 = .ok (.aload_n 0, 1) := by decide +kernel
theorem dX3_lowestSoundOutlet_11 : decode cX3_lowestSoundOutlet 11 = .ok (.getfield 19, 3) := by decide +kernel
theorem dX3_lowestSoundOutlet_14 : decode cX3_lowestSoundOutlet 14 = .ok (.iload_n 2, 1) := by decide +kernel
theorem dX3_lowestSoundOutlet_15 : decode cX3_lowestSoundOutlet 15 = .ok (.aaload, 1) := by decide +kernel
theorem dX3_lowestSoundOutlet_16 : decode cX3_lowestSoundOutlet 16 = .ok (.getfield 90, 3) := by decide +kernel
theorem dX3_lowestSoundOutlet_19 : decode cX3_lowestSoundOutlet 19 = .ok (.iload_n 1, 1) := by decide +kernel
theorem dX3_lowestSoundOutlet_20 : decode cX3_lowestSoundOutlet 20 = .ok (.if_icmp .ne 17, 3) := by decide +kernel
theorem dX3_lowestSoundOutlet_23 : decode cX3_lowestSoundOutlet 23 = .ok (.aload_n 0, 1) := by decide +kernel
theorem dX3_lowestSoundOutlet_24 : decode cX3_lowestSoundOutlet 24 = .ok (.getfield 19, 3) := by decide +kernel
theorem dX3_lowestSoundOutlet_27 : decode cX3_lowestSoundOutlet 27 = .ok (.iload_n 2, 1) := by decide +kernel
theorem dX3_lowestSoundOutlet_28 : decode cX3_lowestSoundOutlet 28 = .ok (.aaload, 1) := by decide +kernel
theorem dX3_lowestSoundOutlet_29 : decode cX3_lowestSoundOutlet 29 = .ok (.getfield 93, 3) := by decide +kernel
theorem dX3_lowestSoundOutlet_32 : decode cX3_lowestSoundOutlet 32 = .ok (.ifCond .ne 5, 3) := by decide +kernel
theorem dX3_lowestSoundOutlet_35 : decode cX3_lowestSoundOutlet 35 = .ok (.iload_n 2, 1) := by decide +kernel
theorem dX3_lowestSoundOutlet_36 : decode cX3_lowestSoundOutlet 36 = .ok (.ireturn, 1) := by decide +kernel
theorem dX3_lowestSoundOutlet_37 : decode cX3_lowestSoundOutlet 37 = .ok (.iinc 2 1, 3) := by decide +kernel
theorem dX3_lowestSoundOutlet_40 : decode cX3_lowestSoundOutlet 40 = .ok (.goto (-38), 3) := by decide +kernel
theorem dX3_lowestSoundOutlet_43 : decode cX3_lowestSoundOutlet 43 = .ok (.iconst (-1), 1) := by decide +kernel
theorem dX3_lowestSoundOutlet_44 : decode cX3_lowestSoundOutlet 44 = .ok (.ireturn, 1) := by decide +kernel
theorem dX3_screenOutlet_0 : decode cX3_screenOutlet 0 = .ok (.iconst (-1), 1) := by decide +kernel
theorem dX3_screenOutlet_1 : decode cX3_screenOutlet 1 = .ok (.istore_n 3, 1) := by decide +kernel
theorem dX3_screenOutlet_2 : decode cX3_screenOutlet 2 = .ok (.iconst 0, 1) := by decide +kernel
theorem dX3_screenOutlet_3 : decode cX3_screenOutlet 3 = .ok (.istore 4, 2) := by decide +kernel
theorem dX3_screenOutlet_5 : decode cX3_screenOutlet 5 = .ok (.iload 4, 2) := by decide +kernel
theorem dX3_screenOutlet_7 : decode cX3_screenOutlet 7 = .ok (.aload_n 0, 1) := by decide +kernel
theorem dX3_screenOutlet_8 : decode cX3_screenOutlet 8 = .ok (.getfield 43, 3) := by decide +kernel
theorem dX3_screenOutlet_11 : decode cX3_screenOutlet 11 = .ok (.if_icmp .ge 40, 3) := by decide +kernel
theorem dX3_screenOutlet_14 : decode cX3_screenOutlet 14 = .ok (.aload_n 0, 1) := by decide +kernel
theorem dX3_screenOutlet_15 : decode cX3_screenOutlet 15 = .ok (.getfield 19, 3) := by decide +kernel
theorem dX3_screenOutlet_18 : decode cX3_screenOutlet 18 = .ok (.iload 4, 2) := by decide +kernel
theorem dX3_screenOutlet_20 : decode cX3_screenOutlet 20 = .ok (.aaload, 1) := by decide +kernel
theorem dX3_screenOutlet_21 : decode cX3_screenOutlet 21 = .ok (.getfield 90, 3) := by decide +kernel
theorem dX3_screenOutlet_24 : decode cX3_screenOutlet 24 = .ok (.iload_n 1, 1) := by decide +kernel
theorem dX3_screenOutlet_25 : decode cX3_screenOutlet 25 = .ok (.if_icmp .ne 20, 3) := by decide +kernel
theorem dX3_screenOutlet_28 : decode cX3_screenOutlet 28 = .ok (.iload_n 3, 1) := by decide +kernel
theorem dX3_screenOutlet_29 : decode cX3_screenOutlet 29 = .ok (.iconst (-1), 1) := by decide +kernel
theorem dX3_screenOutlet_30 : decode cX3_screenOutlet 30 = .ok (.if_icmp .eq 6, 3) := by decide +kernel
theorem dX3_screenOutlet_33 : decode cX3_screenOutlet 33 = .ok (.iload 4, 2) := by decide +kernel
theorem dX3_screenOutlet_35 : decode cX3_screenOutlet 35 = .ok (.ireturn, 1) := by decide +kernel
theorem dX3_screenOutlet_36 : decode cX3_screenOutlet 36 = .ok (.iload 4, 2) := by decide +kernel
theorem dX3_screenOutlet_38 : decode cX3_screenOutlet 38 = .ok (.istore_n 3, 1) := by decide +kernel
theorem dX3_screenOutlet_39 : decode cX3_screenOutlet 39 = .ok (.iload_n 2, 1) := by decide +kernel
theorem dX3_screenOutlet_40 : decode cX3_screenOutlet 40 = .ok (.ifCond .ne 5, 3) := by decide +kernel
theorem dX3_screenOutlet_43 : decode cX3_screenOutlet 43 = .ok (.iload_n 3, 1) := by decide +kernel
theorem dX3_screenOutlet_44 : decode cX3_screenOutlet 44 = .ok (.ireturn, 1) := by decide +kernel
theorem dX3_screenOutlet_45 : decode cX3_screenOutlet 45 = .ok (.iinc 4 1, 3) := by decide +kernel
theorem dX3_screenOutlet_48 : decode cX3_screenOutlet 48 = .ok (.goto (-43), 3) := by decide +kernel
theorem dX3_screenOutlet_51 : decode cX3_screenOutlet 51 = .ok (.iload_n 3, 1) := by decide +kernel
theorem dX3_screenOutlet_52 : decode cX3_screenOutlet 52 = .ok (.ireturn, 1) := by decide +kernel
theorem dX3_bagsThatAre_0 : decode cX3_bagsThatAre 0 = .ok (.iconst 0, 1) := by decide +kernel
theorem dX3_bagsThatAre_1 : decode cX3_bagsThatAre 1 = .ok (.istore_n 2, 1) := by decide +kernel
theorem dX3_bagsThatAre_2 : decode cX3_bagsThatAre 2 = .ok (.iconst 0, 1) := by decide +kernel
theorem dX3_bagsThatAre_3 : decode cX3_bagsThatAre 3 = .ok (.istore_n 3, 1) := by decide +kernel
theorem dX3_bagsThatAre_4 : decode cX3_bagsThatAre 4 = .ok (.iload_n 3, 1) := by decide +kernel
theorem dX3_bagsThatAre_5 : decode cX3_bagsThatAre 5 = .ok (.aload_n 0, 1) := by decide +kernel
theorem dX3_bagsThatAre_6 : decode cX3_bagsThatAre 6 = .ok (.getfield 49, 3) := by decide +kernel
theorem dX3_bagsThatAre_9 : decode cX3_bagsThatAre 9 = .ok (.if_icmp .ge 25, 3) := by decide +kernel
theorem dX3_bagsThatAre_12 : decode cX3_bagsThatAre 12 = .ok (.aload_n 0, 1) := by decide +kernel
theorem dX3_bagsThatAre_13 : decode cX3_bagsThatAre 13 = .ok (.getfield 31, 3) := by decide +kernel
theorem dX3_bagsThatAre_16 : decode cX3_bagsThatAre 16 = .ok (.iload_n 3, 1) := by decide +kernel
theorem dX3_bagsThatAre_17 : decode cX3_bagsThatAre 17 = .ok (.aaload, 1) := by decide +kernel
theorem dX3_bagsThatAre_18 : decode cX3_bagsThatAre 18 = .ok (.getfield 74, 3) := by decide +kernel
theorem dX3_bagsThatAre_21 : decode cX3_bagsThatAre 21 = .ok (.iload_n 1, 1) := by decide +kernel
theorem dX3_bagsThatAre_22 : decode cX3_bagsThatAre 22 = .ok (.if_icmp .ne 6, 3) := by decide +kernel
theorem dX3_bagsThatAre_25 : decode cX3_bagsThatAre 25 = .ok (.iinc 2 1, 3) := by decide +kernel
theorem dX3_bagsThatAre_28 : decode cX3_bagsThatAre 28 = .ok (.iinc 3 1, 3) := by decide +kernel
theorem dX3_bagsThatAre_31 : decode cX3_bagsThatAre 31 = .ok (.goto (-27), 3) := by decide +kernel
theorem dX3_bagsThatAre_34 : decode cX3_bagsThatAre 34 = .ok (.iload_n 2, 1) := by decide +kernel
theorem dX3_bagsThatAre_35 : decode cX3_bagsThatAre 35 = .ok (.ireturn, 1) := by decide +kernel
theorem dX3_bagsOfFlight_0 : decode cX3_bagsOfFlight 0 = .ok (.iconst 0, 1) := by decide +kernel
theorem dX3_bagsOfFlight_1 : decode cX3_bagsOfFlight 1 = .ok (.istore_n 2, 1) := by decide +kernel
theorem dX3_bagsOfFlight_2 : decode cX3_bagsOfFlight 2 = .ok (.iconst 0, 1) := by decide +kernel
theorem dX3_bagsOfFlight_3 : decode cX3_bagsOfFlight 3 = .ok (.istore_n 3, 1) := by decide +kernel
theorem dX3_bagsOfFlight_4 : decode cX3_bagsOfFlight 4 = .ok (.iload_n 3, 1) := by decide +kernel
theorem dX3_bagsOfFlight_5 : decode cX3_bagsOfFlight 5 = .ok (.aload_n 0, 1) := by decide +kernel
theorem dX3_bagsOfFlight_6 : decode cX3_bagsOfFlight 6 = .ok (.getfield 49, 3) := by decide +kernel
theorem dX3_bagsOfFlight_9 : decode cX3_bagsOfFlight 9 = .ok (.if_icmp .ge 25, 3) := by decide +kernel
theorem dX3_bagsOfFlight_12 : decode cX3_bagsOfFlight 12 = .ok (.aload_n 0, 1) := by decide +kernel
theorem dX3_bagsOfFlight_13 : decode cX3_bagsOfFlight 13 = .ok (.getfield 31, 3) := by decide +kernel
theorem dX3_bagsOfFlight_16 : decode cX3_bagsOfFlight 16 = .ok (.iload_n 3, 1) := by decide +kernel
theorem dX3_bagsOfFlight_17 : decode cX3_bagsOfFlight 17 = .ok (.aaload, 1) := by decide +kernel
theorem dX3_bagsOfFlight_18 : decode cX3_bagsOfFlight 18 = .ok (.getfield 96, 3) := by decide +kernel
theorem dX3_bagsOfFlight_21 : decode cX3_bagsOfFlight 21 = .ok (.iload_n 1, 1) := by decide +kernel
theorem dX3_bagsOfFlight_22 : decode cX3_bagsOfFlight 22 = .ok (.if_icmp .ne 6, 3) := by decide +kernel
theorem dX3_bagsOfFlight_25 : decode cX3_bagsOfFlight 25 = .ok (.iinc 2 1, 3) := by decide +kernel
theorem dX3_bagsOfFlight_28 : decode cX3_bagsOfFlight 28 = .ok (.iinc 3 1, 3) := by decide +kernel
theorem dX3_bagsOfFlight_31 : decode cX3_bagsOfFlight 31 = .ok (.goto (-27), 3) := by decide +kernel
theorem dX3_bagsOfFlight_34 : decode cX3_bagsOfFlight 34 = .ok (.iload_n 2, 1) := by decide +kernel
theorem dX3_bagsOfFlight_35 : decode cX3_bagsOfFlight 35 = .ok (.ireturn, 1) := by decide +kernel
theorem dX3_bagsOfFlight__0 : decode cX3_bagsOfFlight_ 0 = .ok (.iconst 0, 1) := by decide +kernel
theorem dX3_bagsOfFlight__1 : decode cX3_bagsOfFlight_ 1 = .ok (.istore_n 3, 1) := by decide +kernel
theorem dX3_bagsOfFlight__2 : decode cX3_bagsOfFlight_ 2 = .ok (.iconst 0, 1) := by decide +kernel
theorem dX3_bagsOfFlight__3 : decode cX3_bagsOfFlight_ 3 = .ok (.istore 4, 2) := by decide +kernel
theorem dX3_bagsOfFlight__5 : decode cX3_bagsOfFlight_ 5 = .ok (.iload 4, 2) := by decide +kernel
theorem dX3_bagsOfFlight__7 : decode cX3_bagsOfFlight_ 7 = .ok (.aload_n 0, 1) := by decide +kernel
theorem dX3_bagsOfFlight__8 : decode cX3_bagsOfFlight_ 8 = .ok (.getfield 49, 3) := by decide +kernel
theorem dX3_bagsOfFlight__11 : decode cX3_bagsOfFlight_ 11 = .ok (.if_icmp .ge 40, 3) := by decide +kernel
theorem dX3_bagsOfFlight__14 : decode cX3_bagsOfFlight_ 14 = .ok (.aload_n 0, 1) := by decide +kernel
theorem dX3_bagsOfFlight__15 : decode cX3_bagsOfFlight_ 15 = .ok (.getfield 31, 3) := by decide +kernel
theorem dX3_bagsOfFlight__18 : decode cX3_bagsOfFlight_ 18 = .ok (.iload 4, 2) := by decide +kernel
theorem dX3_bagsOfFlight__20 : decode cX3_bagsOfFlight_ 20 = .ok (.aaload, 1) := by decide +kernel
theorem dX3_bagsOfFlight__21 : decode cX3_bagsOfFlight_ 21 = .ok (.getfield 96, 3) := by decide +kernel
theorem dX3_bagsOfFlight__24 : decode cX3_bagsOfFlight_ 24 = .ok (.iload_n 1, 1) := by decide +kernel
theorem dX3_bagsOfFlight__25 : decode cX3_bagsOfFlight_ 25 = .ok (.if_icmp .ne 20, 3) := by decide +kernel
theorem dX3_bagsOfFlight__28 : decode cX3_bagsOfFlight_ 28 = .ok (.aload_n 0, 1) := by decide +kernel
theorem dX3_bagsOfFlight__29 : decode cX3_bagsOfFlight_ 29 = .ok (.getfield 31, 3) := by decide +kernel
theorem dX3_bagsOfFlight__32 : decode cX3_bagsOfFlight_ 32 = .ok (.iload 4, 2) := by decide +kernel
theorem dX3_bagsOfFlight__34 : decode cX3_bagsOfFlight_ 34 = .ok (.aaload, 1) := by decide +kernel
theorem dX3_bagsOfFlight__35 : decode cX3_bagsOfFlight_ 35 = .ok (.getfield 74, 3) := by decide +kernel
theorem dX3_bagsOfFlight__38 : decode cX3_bagsOfFlight_ 38 = .ok (.iload_n 2, 1) := by decide +kernel
theorem dX3_bagsOfFlight__39 : decode cX3_bagsOfFlight_ 39 = .ok (.if_icmp .ne 6, 3) := by decide +kernel
theorem dX3_bagsOfFlight__42 : decode cX3_bagsOfFlight_ 42 = .ok (.iinc 3 1, 3) := by decide +kernel
theorem dX3_bagsOfFlight__45 : decode cX3_bagsOfFlight_ 45 = .ok (.iinc 4 1, 3) := by decide +kernel
theorem dX3_bagsOfFlight__48 : decode cX3_bagsOfFlight_ 48 = .ok (.goto (-43), 3) := by decide +kernel
theorem dX3_bagsOfFlight__51 : decode cX3_bagsOfFlight_ 51 = .ok (.iload_n 3, 1) := by decide +kernel
theorem dX3_bagsOfFlight__52 : decode cX3_bagsOfFlight_ 52 = .ok (.ireturn, 1) := by decide +kernel
theorem dX3_fallenBelts_0 : decode cX3_fallenBelts 0 = .ok (.iconst 0, 1) := by decide +kernel
theorem dX3_fallenBelts_1 : decode cX3_fallenBelts 1 = .ok (.istore_n 1, 1) := by decide +kernel
theorem dX3_fallenBelts_2 : decode cX3_fallenBelts 2 = .ok (.iconst 0, 1) := by decide +kernel
theorem dX3_fallenBelts_3 : decode cX3_fallenBelts 3 = .ok (.istore_n 2, 1) := by decide +kernel
theorem dX3_fallenBelts_4 : decode cX3_fallenBelts 4 = .ok (.iload_n 2, 1) := by decide +kernel
theorem dX3_fallenBelts_5 : decode cX3_fallenBelts 5 = .ok (.aload_n 0, 1) := by decide +kernel
theorem dX3_fallenBelts_6 : decode cX3_fallenBelts 6 = .ok (.getfield 43, 3) := by decide +kernel
theorem dX3_fallenBelts_9 : decode cX3_fallenBelts 9 = .ok (.if_icmp .ge 24, 3) := by decide +kernel
theorem dX3_fallenBelts_12 : decode cX3_fallenBelts 12 = .ok (.aload_n 0, 1) := by decide +kernel
theorem dX3_fallenBelts_13 : decode cX3_fallenBelts 13 = .ok (.getfield 19, 3) := by decide +kernel
theorem dX3_fallenBelts_16 : decode cX3_fallenBelts 16 = .ok (.iload_n 2, 1) := by decide +kernel
theorem dX3_fallenBelts_17 : decode cX3_fallenBelts 17 = .ok (.aaload, 1) := by decide +kernel
theorem dX3_fallenBelts_18 : decode cX3_fallenBelts 18 = .ok (.getfield 93, 3) := by decide +kernel
theorem dX3_fallenBelts_21 : decode cX3_fallenBelts 21 = .ok (.ifCond .eq 6, 3) := by decide +kernel
theorem dX3_fallenBelts_24 : decode cX3_fallenBelts 24 = .ok (.iinc 1 1, 3) := by decide +kernel
theorem dX3_fallenBelts_27 : decode cX3_fallenBelts 27 = .ok (.iinc 2 1, 3) := by decide +kernel
theorem dX3_fallenBelts_30 : decode cX3_fallenBelts 30 = .ok (.goto (-26), 3) := by decide +kernel
theorem dX3_fallenBelts_33 : decode cX3_fallenBelts 33 = .ok (.iload_n 1, 1) := by decide +kernel
theorem dX3_fallenBelts_34 : decode cX3_fallenBelts 34 = .ok (.ireturn, 1) := by decide +kernel
theorem dX3_copyFrom_0 : decode cX3_copyFrom 0 = .ok (.iconst 0, 1) := by decide +kernel
theorem dX3_copyFrom_1 : decode cX3_copyFrom 1 = .ok (.istore_n 2, 1) := by decide +kernel
theorem dX3_copyFrom_2 : decode cX3_copyFrom 2 = .ok (.iload_n 2, 1) := by decide +kernel
theorem dX3_copyFrom_3 : decode cX3_copyFrom 3 = .ok (.bipush 12, 2) := by decide +kernel
theorem dX3_copyFrom_5 : decode cX3_copyFrom 5 = .ok (.if_icmp .ge 24, 3) := by decide +kernel
theorem dX3_copyFrom_8 : decode cX3_copyFrom 8 = .ok (.aload_n 0, 1) := by decide +kernel
theorem dX3_copyFrom_9 : decode cX3_copyFrom 9 = .ok (.getfield 11, 3) := by decide +kernel
theorem dX3_copyFrom_12 : decode cX3_copyFrom 12 = .ok (.iload_n 2, 1) := by decide +kernel
theorem dX3_copyFrom_13 : decode cX3_copyFrom 13 = .ok (.aaload, 1) := by decide +kernel
theorem dX3_copyFrom_14 : decode cX3_copyFrom 14 = .ok (.aload_n 1, 1) := by decide +kernel
theorem dX3_copyFrom_15 : decode cX3_copyFrom 15 = .ok (.getfield 11, 3) := by decide +kernel
theorem dX3_copyFrom_18 : decode cX3_copyFrom 18 = .ok (.iload_n 2, 1) := by decide +kernel
theorem dX3_copyFrom_19 : decode cX3_copyFrom 19 = .ok (.aaload, 1) := by decide +kernel
theorem dX3_copyFrom_20 : decode cX3_copyFrom 20 = .ok (.invokevirtual 99, 3) := by decide +kernel
theorem dX3_copyFrom_23 : decode cX3_copyFrom 23 = .ok (.iinc 2 1, 3) := by decide +kernel
theorem dX3_copyFrom_26 : decode cX3_copyFrom 26 = .ok (.goto (-24), 3) := by decide +kernel
theorem dX3_copyFrom_29 : decode cX3_copyFrom 29 = .ok (.iconst 0, 1) := by decide +kernel
theorem dX3_copyFrom_30 : decode cX3_copyFrom 30 = .ok (.istore_n 2, 1) := by decide +kernel
theorem dX3_copyFrom_31 : decode cX3_copyFrom 31 = .ok (.iload_n 2, 1) := by decide +kernel
theorem dX3_copyFrom_32 : decode cX3_copyFrom 32 = .ok (.bipush 16, 2) := by decide +kernel
theorem dX3_copyFrom_34 : decode cX3_copyFrom 34 = .ok (.if_icmp .ge 24, 3) := by decide +kernel
theorem dX3_copyFrom_37 : decode cX3_copyFrom 37 = .ok (.aload_n 0, 1) := by decide +kernel
theorem dX3_copyFrom_38 : decode cX3_copyFrom 38 = .ok (.getfield 19, 3) := by decide +kernel
theorem dX3_copyFrom_41 : decode cX3_copyFrom 41 = .ok (.iload_n 2, 1) := by decide +kernel
theorem dX3_copyFrom_42 : decode cX3_copyFrom 42 = .ok (.aaload, 1) := by decide +kernel
theorem dX3_copyFrom_43 : decode cX3_copyFrom 43 = .ok (.aload_n 1, 1) := by decide +kernel
theorem dX3_copyFrom_44 : decode cX3_copyFrom 44 = .ok (.getfield 19, 3) := by decide +kernel
theorem dX3_copyFrom_47 : decode cX3_copyFrom 47 = .ok (.iload_n 2, 1) := by decide +kernel
theorem dX3_copyFrom_48 : decode cX3_copyFrom 48 = .ok (.aaload, 1) := by decide +kernel
theorem dX3_copyFrom_49 : decode cX3_copyFrom 49 = .ok (.invokevirtual 103, 3) := by decide +kernel
theorem dX3_copyFrom_52 : decode cX3_copyFrom 52 = .ok (.iinc 2 1, 3) := by decide +kernel
theorem dX3_copyFrom_55 : decode cX3_copyFrom 55 = .ok (.goto (-24), 3) := by decide +kernel
theorem dX3_copyFrom_58 : decode cX3_copyFrom 58 = .ok (.iconst 0, 1) := by decide +kernel
theorem dX3_copyFrom_59 : decode cX3_copyFrom 59 = .ok (.istore_n 2, 1) := by decide +kernel
theorem dX3_copyFrom_60 : decode cX3_copyFrom 60 = .ok (.iload_n 2, 1) := by decide +kernel
theorem dX3_copyFrom_61 : decode cX3_copyFrom 61 = .ok (.bipush 8, 2) := by decide +kernel
theorem dX3_copyFrom_63 : decode cX3_copyFrom 63 = .ok (.if_icmp .ge 24, 3) := by decide +kernel
theorem dX3_copyFrom_66 : decode cX3_copyFrom 66 = .ok (.aload_n 0, 1) := by decide +kernel
theorem dX3_copyFrom_67 : decode cX3_copyFrom 67 = .ok (.getfield 25, 3) := by decide +kernel
theorem dX3_copyFrom_70 : decode cX3_copyFrom 70 = .ok (.iload_n 2, 1) := by decide +kernel
theorem dX3_copyFrom_71 : decode cX3_copyFrom 71 = .ok (.aaload, 1) := by decide +kernel
theorem dX3_copyFrom_72 : decode cX3_copyFrom 72 = .ok (.aload_n 1, 1) := by decide +kernel
theorem dX3_copyFrom_73 : decode cX3_copyFrom 73 = .ok (.getfield 25, 3) := by decide +kernel
theorem dX3_copyFrom_76 : decode cX3_copyFrom 76 = .ok (.iload_n 2, 1) := by decide +kernel
theorem dX3_copyFrom_77 : decode cX3_copyFrom 77 = .ok (.aaload, 1) := by decide +kernel
theorem dX3_copyFrom_78 : decode cX3_copyFrom 78 = .ok (.invokevirtual 106, 3) := by decide +kernel
theorem dX3_copyFrom_81 : decode cX3_copyFrom 81 = .ok (.iinc 2 1, 3) := by decide +kernel
theorem dX3_copyFrom_84 : decode cX3_copyFrom 84 = .ok (.goto (-24), 3) := by decide +kernel
theorem dX3_copyFrom_87 : decode cX3_copyFrom 87 = .ok (.iconst 0, 1) := by decide +kernel
theorem dX3_copyFrom_88 : decode cX3_copyFrom 88 = .ok (.istore_n 2, 1) := by decide +kernel
theorem dX3_copyFrom_89 : decode cX3_copyFrom 89 = .ok (.iload_n 2, 1) := by decide +kernel
theorem dX3_copyFrom_90 : decode cX3_copyFrom 90 = .ok (.bipush 60, 2) := by decide +kernel
theorem dX3_copyFrom_92 : decode cX3_copyFrom 92 = .ok (.if_icmp .ge 24, 3) := by decide +kernel
theorem dX3_copyFrom_95 : decode cX3_copyFrom 95 = .ok (.aload_n 0, 1) := by decide +kernel
theorem dX3_copyFrom_96 : decode cX3_copyFrom 96 = .ok (.getfield 31, 3) := by decide +kernel
theorem dX3_copyFrom_99 : decode cX3_copyFrom 99 = .ok (.iload_n 2, 1) := by decide +kernel
theorem dX3_copyFrom_100 : decode cX3_copyFrom 100 = .ok (.aaload, 1) := by decide +kernel
theorem dX3_copyFrom_101 : decode cX3_copyFrom 101 = .ok (.aload_n 1, 1) := by decide +kernel
theorem dX3_copyFrom_102 : decode cX3_copyFrom 102 = .ok (.getfield 31, 3) := by decide +kernel
theorem dX3_copyFrom_105 : decode cX3_copyFrom 105 = .ok (.iload_n 2, 1) := by decide +kernel
theorem dX3_copyFrom_106 : decode cX3_copyFrom 106 = .ok (.aaload, 1) := by decide +kernel
theorem dX3_copyFrom_107 : decode cX3_copyFrom 107 = .ok (.invokevirtual 109, 3) := by decide +kernel
theorem dX3_copyFrom_110 : decode cX3_copyFrom 110 = .ok (.iinc 2 1, 3) := by decide +kernel
theorem dX3_copyFrom_113 : decode cX3_copyFrom 113 = .ok (.goto (-24), 3) := by decide +kernel
theorem dX3_copyFrom_116 : decode cX3_copyFrom 116 = .ok (.aload_n 0, 1) := by decide +kernel
theorem dX3_copyFrom_117 : decode cX3_copyFrom 117 = .ok (.aload_n 1, 1) := by decide +kernel
theorem dX3_copyFrom_118 : decode cX3_copyFrom 118 = .ok (.getfield 39, 3) := by decide +kernel
theorem dX3_copyFrom_121 : decode cX3_copyFrom 121 = .ok (.putfield 39, 3) := by decide +kernel
theorem dX3_copyFrom_124 : decode cX3_copyFrom 124 = .ok (.aload_n 0, 1) := by decide +kernel
theorem dX3_copyFrom_125 : decode cX3_copyFrom 125 = .ok (.aload_n 1, 1) := by decide +kernel
theorem dX3_copyFrom_126 : decode cX3_copyFrom 126 = .ok (.getfield 43, 3) := by decide +kernel
theorem dX3_copyFrom_129 : decode cX3_copyFrom 129 = .ok (.putfield 43, 3) := by decide +kernel
theorem dX3_copyFrom_132 : decode cX3_copyFrom 132 = .ok (.aload_n 0, 1) := by decide +kernel
theorem dX3_copyFrom_133 : decode cX3_copyFrom 133 = .ok (.aload_n 1, 1) := by decide +kernel
theorem dX3_copyFrom_134 : decode cX3_copyFrom 134 = .ok (.getfield 46, 3) := by decide +kernel
theorem dX3_copyFrom_137 : decode cX3_copyFrom 137 = .ok (.putfield 46, 3) := by decide +kernel
theorem dX3_copyFrom_140 : decode cX3_copyFrom 140 = .ok (.aload_n 0, 1) := by decide +kernel
theorem dX3_copyFrom_141 : decode cX3_copyFrom 141 = .ok (.aload_n 1, 1) := by decide +kernel
theorem dX3_copyFrom_142 : decode cX3_copyFrom 142 = .ok (.getfield 49, 3) := by decide +kernel
theorem dX3_copyFrom_145 : decode cX3_copyFrom 145 = .ok (.putfield 49, 3) := by decide +kernel
theorem dX3_copyFrom_148 : decode cX3_copyFrom 148 = .ok (.aload_n 0, 1) := by decide +kernel
theorem dX3_copyFrom_149 : decode cX3_copyFrom 149 = .ok (.aload_n 1, 1) := by decide +kernel
theorem dX3_copyFrom_150 : decode cX3_copyFrom 150 = .ok (.getfield 112, 3) := by decide +kernel
theorem dX3_copyFrom_153 : decode cX3_copyFrom 153 = .ok (.putfield 112, 3) := by decide +kernel
theorem dX3_copyFrom_156 : decode cX3_copyFrom 156 = .ok (.return_, 1) := by decide +kernel
theorem dX4_init_0 : decode cX4_init 0 = .ok (.aload_n 0, 1) := by decide +kernel
theorem dX4_init_1 : decode cX4_init 1 = .ok (.invokespecial 3, 3) := by decide +kernel
theorem dX4_init_4 : decode cX4_init 4 = .ok (.aload_n 0, 1) := by decide +kernel
theorem dX4_init_5 : decode cX4_init 5 = .ok (.bipush 60, 2) := by decide +kernel
theorem dX4_init_7 : decode cX4_init 7 = .ok (.newarray .int, 2) := by decide +kernel
theorem dX4_init_9 : decode cX4_init 9 = .ok (.putfield 9, 3) := by decide +kernel
theorem dX4_init_12 : decode cX4_init 12 = .ok (.return_, 1) := by decide +kernel
theorem dX4_begin_0 : decode cX4_begin 0 = .ok (.aload_n 0, 1) := by decide +kernel
theorem dX4_begin_1 : decode cX4_begin 1 = .ok (.iload_n 1, 1) := by decide +kernel
theorem dX4_begin_2 : decode cX4_begin 2 = .ok (.putfield 15, 3) := by decide +kernel
theorem dX4_begin_5 : decode cX4_begin 5 = .ok (.aload_n 0, 1) := by decide +kernel
theorem dX4_begin_6 : decode cX4_begin 6 = .ok (.iload_n 2, 1) := by decide +kernel
theorem dX4_begin_7 : decode cX4_begin 7 = .ok (.putfield 19, 3) := by decide +kernel
theorem dX4_begin_10 : decode cX4_begin 10 = .ok (.aload_n 0, 1) := by decide +kernel
theorem dX4_begin_11 : decode cX4_begin 11 = .ok (.iconst (-1), 1) := by decide +kernel
theorem dX4_begin_12 : decode cX4_begin 12 = .ok (.putfield 22, 3) := by decide +kernel
theorem dX4_begin_15 : decode cX4_begin 15 = .ok (.aload_n 0, 1) := by decide +kernel
theorem dX4_begin_16 : decode cX4_begin 16 = .ok (.iconst 0, 1) := by decide +kernel
theorem dX4_begin_17 : decode cX4_begin 17 = .ok (.putfield 25, 3) := by decide +kernel
theorem dX4_begin_20 : decode cX4_begin 20 = .ok (.aload_n 0, 1) := by decide +kernel
theorem dX4_begin_21 : decode cX4_begin 21 = .ok (.iconst 0, 1) := by decide +kernel
theorem dX4_begin_22 : decode cX4_begin 22 = .ok (.putfield 28, 3) := by decide +kernel
theorem dX4_begin_25 : decode cX4_begin 25 = .ok (.return_, 1) := by decide +kernel
theorem dX4_meetInlet_0 : decode cX4_meetInlet 0 = .ok (.aload_n 0, 1) := by decide +kernel
theorem dX4_meetInlet_1 : decode cX4_meetInlet 1 = .ok (.getfield 22, 3) := by decide +kernel
theorem dX4_meetInlet_4 : decode cX4_meetInlet 4 = .ok (.iconst (-1), 1) := by decide +kernel
theorem dX4_meetInlet_5 : decode cX4_meetInlet 5 = .ok (.if_icmp .ne 9, 3) := by decide +kernel
theorem dX4_meetInlet_8 : decode cX4_meetInlet 8 = .ok (.aload_n 0, 1) := by decide +kernel
theorem dX4_meetInlet_9 : decode cX4_meetInlet 9 = .ok (.iload_n 1, 1) := by decide +kernel
theorem dX4_meetInlet_10 : decode cX4_meetInlet 10 = .ok (.iconst 1, 1) := by decide +kernel
theorem dX4_meetInlet_11 : decode cX4_meetInlet 11 = .ok (.invokevirtual 31, 3) := by decide +kernel
theorem dX4_meetInlet_14 : decode cX4_meetInlet 14 = .ok (.return_, 1) := by decide +kernel
theorem dX4_putAtHand_0 : decode cX4_putAtHand 0 = .ok (.aload_n 0, 1) := by decide +kernel
theorem dX4_putAtHand_1 : decode cX4_putAtHand 1 = .ok (.iload_n 1, 1) := by decide +kernel
theorem dX4_putAtHand_2 : decode cX4_putAtHand 2 = .ok (.putfield 22, 3) := by decide +kernel
theorem dX4_putAtHand_5 : decode cX4_putAtHand 5 = .ok (.aload_n 0, 1) := by decide +kernel
theorem dX4_putAtHand_6 : decode cX4_putAtHand 6 = .ok (.iload_n 2, 1) := by decide +kernel
theorem dX4_putAtHand_7 : decode cX4_putAtHand 7 = .ok (.putfield 25, 3) := by decide +kernel
theorem dX4_putAtHand_10 : decode cX4_putAtHand 10 = .ok (.return_, 1) := by decide +kernel
theorem dX4_limitLeft_0 : decode cX4_limitLeft 0 = .ok (.aload_n 0, 1) := by decide +kernel
theorem dX4_limitLeft_1 : decode cX4_limitLeft 1 = .ok (.getfield 22, 3) := by decide +kernel
theorem dX4_limitLeft_4 : decode cX4_limitLeft 4 = .ok (.iload_n 1, 1) := by decide +kernel
theorem dX4_limitLeft_5 : decode cX4_limitLeft 5 = .ok (.if_icmp .ne 15, 3) := by decide +kernel
theorem dX4_limitLeft_8 : decode cX4_limitLeft 8 = .ok (.aload_n 0, 1) := by decide +kernel
theorem dX4_limitLeft_9 : decode cX4_limitLeft 9 = .ok (.aload_n 0, 1) := by decide +kernel
theorem dX4_limitLeft_10 : decode cX4_limitLeft 10 = .ok (.getfield 25, 3) := by decide +kernel
theorem dX4_limitLeft_13 : decode cX4_limitLeft 13 = .ok (.iload_n 2, 1) := by decide +kernel
theorem dX4_limitLeft_14 : decode cX4_limitLeft 14 = .ok (.invokestatic 35, 3) := by decide +kernel
theorem dX4_limitLeft_17 : decode cX4_limitLeft 17 = .ok (.putfield 25, 3) := by decide +kernel
theorem dX4_limitLeft_20 : decode cX4_limitLeft 20 = .ok (.return_, 1) := by decide +kernel
theorem dX4_hasRoom_0 : decode cX4_hasRoom 0 = .ok (.aload_n 0, 1) := by decide +kernel
theorem dX4_hasRoom_1 : decode cX4_hasRoom 1 = .ok (.getfield 15, 3) := by decide +kernel
theorem dX4_hasRoom_4 : decode cX4_hasRoom 4 = .ok (.lookupswitch 57 #[(0, 36), (4, 38), (5, 55)], 36) := by decide +kernel
theorem dX4_hasRoom_40 : decode cX4_hasRoom 40 = .ok (.iconst 0, 1) := by decide +kernel
theorem dX4_hasRoom_41 : decode cX4_hasRoom 41 = .ok (.ireturn, 1) := by decide +kernel
theorem dX4_hasRoom_42 : decode cX4_hasRoom 42 = .ok (.aload_n 0, 1) := by decide +kernel
theorem dX4_hasRoom_43 : decode cX4_hasRoom 43 = .ok (.getfield 28, 3) := by decide +kernel
theorem dX4_hasRoom_46 : decode cX4_hasRoom 46 = .ok (.aload_n 0, 1) := by decide +kernel
theorem dX4_hasRoom_47 : decode cX4_hasRoom 47 = .ok (.getfield 19, 3) := by decide +kernel
theorem dX4_hasRoom_50 : decode cX4_hasRoom 50 = .ok (.if_icmp .ge 7, 3) := by decide +kernel
theorem dX4_hasRoom_53 : decode cX4_hasRoom 53 = .ok (.iconst 1, 1) := by decide +kernel
theorem dX4_hasRoom_54 : decode cX4_hasRoom 54 = .ok (.goto 4, 3) := by decide +kernel
theorem dX4_hasRoom_57 : decode cX4_hasRoom 57 = .ok (.iconst 0, 1) := by decide +kernel
theorem dX4_hasRoom_58 : decode cX4_hasRoom 58 = .ok (.ireturn, 1) := by decide +kernel
theorem dX4_hasRoom_59 : decode cX4_hasRoom 59 = .ok (.iconst 1, 1) := by decide +kernel
theorem dX4_hasRoom_60 : decode cX4_hasRoom 60 = .ok (.ireturn, 1) := by decide +kernel
theorem dX4_hasRoom_61 : decode cX4_hasRoom 61 = .ok (.aload_n 0, 1) := by decide +kernel
theorem dX4_hasRoom_62 : decode cX4_hasRoom 62 = .ok (.getfield 28, 3) := by decide +kernel
theorem dX4_hasRoom_65 : decode cX4_hasRoom 65 = .ok (.ifCond .ne 7, 3) := by decide +kernel
theorem dX4_hasRoom_68 : decode cX4_hasRoom 68 = .ok (.iconst 1, 1) := by decide +kernel
theorem dX4_hasRoom_69 : decode cX4_hasRoom 69 = .ok (.goto 4, 3) := by decide +kernel
theorem dX4_hasRoom_72 : decode cX4_hasRoom 72 = .ok (.iconst 0, 1) := by decide +kernel
theorem dX4_hasRoom_73 : decode cX4_hasRoom 73 = .ok (.ireturn, 1) := by decide +kernel
theorem dX4_first_0 : decode cX4_first 0 = .ok (.aload_n 0, 1) := by decide +kernel
theorem dX4_first_1 : decode cX4_first 1 = .ok (.getfield 28, 3) := by decide +kernel
theorem dX4_first_4 : decode cX4_first 4 = .ok (.ifCond .le 12, 3) := by decide +kernel
theorem dX4_first_7 : decode cX4_first 7 = .ok (.aload_n 0, 1) := by decide +kernel
theorem dX4_first_8 : decode cX4_first 8 = .ok (.getfield 9, 3) := by decide +kernel
theorem dX4_first_11 : decode cX4_first 11 = .ok (.iconst 0, 1) := by decide +kernel
theorem dX4_first_12 : decode cX4_first 12 = .ok (.iaload, 1) := by decide +kernel
theorem dX4_first_13 : decode cX4_first 13 = .ok (.goto 4, 3) := by decide +kernel
theorem dX4_first_16 : decode cX4_first 16 = .ok (.iconst (-1), 1) := by decide +kernel
theorem dX4_first_17 : decode cX4_first 17 = .ok (.ireturn, 1) := by decide +kernel
theorem dX4_indexOf_0 : decode cX4_indexOf 0 = .ok (.iconst 0, 1) := by decide +kernel
theorem dX4_indexOf_1 : decode cX4_indexOf 1 = .ok (.istore_n 2, 1) := by decide +kernel
theorem dX4_indexOf_2 : decode cX4_indexOf 2 = .ok (.iload_n 2, 1) := by decide +kernel
theorem dX4_indexOf_3 : decode cX4_indexOf 3 = .ok (.aload_n 0, 1) := by decide +kernel
theorem dX4_indexOf_4 : decode cX4_indexOf 4 = .ok (.getfield 28, 3) := by decide +kernel
theorem dX4_indexOf_7 : decode cX4_indexOf 7 = .ok (.if_icmp .ge 21, 3) := by decide +kernel
theorem dX4_indexOf_10 : decode cX4_indexOf 10 = .ok (.aload_n 0, 1) := by decide +kernel
theorem dX4_indexOf_11 : decode cX4_indexOf 11 = .ok (.getfield 9, 3) := by decide +kernel
theorem dX4_indexOf_14 : decode cX4_indexOf 14 = .ok (.iload_n 2, 1) := by decide +kernel
theorem dX4_indexOf_15 : decode cX4_indexOf 15 = .ok (.iaload, 1) := by decide +kernel
theorem dX4_indexOf_16 : decode cX4_indexOf 16 = .ok (.iload_n 1, 1) := by decide +kernel
theorem dX4_indexOf_17 : decode cX4_indexOf 17 = .ok (.if_icmp .ne 5, 3) := by decide +kernel
theorem dX4_indexOf_20 : decode cX4_indexOf 20 = .ok (.iload_n 2, 1) := by decide +kernel
theorem dX4_indexOf_21 : decode cX4_indexOf 21 = .ok (.ireturn, 1) := by decide +kernel
theorem dX4_indexOf_22 : decode cX4_indexOf 22 = .ok (.iinc 2 1, 3) := by decide +kernel
theorem dX4_indexOf_25 : decode cX4_indexOf 25 = .ok (.goto (-23), 3) := by decide +kernel
theorem dX4_indexOf_28 : decode cX4_indexOf 28 = .ok (.iconst (-1), 1) := by decide +kernel
theorem dX4_indexOf_29 : decode cX4_indexOf 29 = .ok (.ireturn, 1) := by decide +kernel
theorem dX4_join_0 : decode cX4_join 0 = .ok (.aload_n 0, 1) := by decide +kernel
theorem dX4_join_1 : decode cX4_join 1 = .ok (.getfield 28, 3) := by decide +kernel
theorem dX4_join_4 : decode cX4_join 4 = .ok (.aload_n 0, 1) := by decide +kernel
theorem dX4_join_5 : decode cX4_join 5 = .ok (.getfield 9, 3) := by decide +kernel
theorem dX4_join_8 : decode cX4_join 8 = .ok (.arraylength, 1) := by decide +kernel
theorem dX4_join_9 : decode cX4_join 9 = .ok (.if_icmp .ge 23, 3) := by decide +kernel
theorem dX4_join_12 : decode cX4_join 12 = .ok (.aload_n 0, 1) := by decide +kernel
theorem dX4_join_13 : decode cX4_join 13 = .ok (.getfield 9, 3) := by decide +kernel
theorem dX4_join_16 : decode cX4_join 16 = .ok (.aload_n 0, 1) := by decide +kernel
theorem dX4_join_17 : decode cX4_join 17 = .ok (.getfield 28, 3) := by decide +kernel
theorem dX4_join_20 : decode cX4_join 20 = .ok (.iload_n 1, 1) := by decide +kernel
theorem dX4_join_21 : decode cX4_join 21 = .ok (.iastore, 1) := by decide +kernel
theorem dX4_join_22 : decode cX4_join 22 = .ok (.aload_n 0, 1) := by decide +kernel
theorem dX4_join_23 : decode cX4_join 23 = .ok (.dup, 1) := by decide +kernel
theorem dX4_join_24 : decode cX4_join 24 = .ok (.getfield 28, 3) := by decide +kernel
theorem dX4_join_27 : decode cX4_join 27 = .ok (.iconst 1, 1) := by decide +kernel
theorem dX4_join_28 : decode cX4_join 28 = .ok (.iadd, 1) := by decide +kernel
theorem dX4_join_29 : decode cX4_join 29 = .ok (.putfield 28, 3) := by decide +kernel
theorem dX4_join_32 : decode cX4_join 32 = .ok (.return_, 1) := by decide +kernel
theorem dX4_leave_0 : decode cX4_leave 0 = .ok (.aload_n 0, 1) := by decide +kernel
theorem dX4_leave_1 : decode cX4_leave 1 = .ok (.iload_n 1, 1) := by decide +kernel
theorem dX4_leave_2 : decode cX4_leave 2 = .ok (.invokevirtual 41, 3) := by decide +kernel
theorem dX4_leave_5 : decode cX4_leave 5 = .ok (.istore_n 2, 1) := by decide +kernel
theorem dX4_leave_6 : decode cX4_leave 6 = .ok (.iload_n 2, 1) := by decide +kernel
theorem dX4_leave_7 : decode cX4_leave 7 = .ok (.iconst (-1), 1) := by decide +kernel
theorem dX4_leave_8 : decode cX4_leave 8 = .ok (.if_icmp .ne 4, 3) := by decide +kernel
theorem dX4_leave_11 : decode cX4_leave 11 = .ok (.return_, 1) := by decide +kernel
theorem dX4_leave_12 : decode cX4_leave 12 = .ok (.iload_n 2, 1) := by decide +kernel
theorem dX4_leave_13 : decode cX4_leave 13 = .ok (.iconst 1, 1) := by decide +kernel
theorem dX4_leave_14 : decode cX4_leave 14 = .ok (.iadd, 1) := by decide +kernel
theorem dX4_leave_15 : decode cX4_leave 15 = .ok (.istore_n 3, 1) := by decide +kernel
theorem dX4_leave_16 : decode cX4_leave 16 = .ok (.iload_n 3, 1) := by decide +kernel
theorem dX4_leave_17 : decode cX4_leave 17 = .ok (.aload_n 0, 1) := by decide +kernel
theorem dX4_leave_18 : decode cX4_leave 18 = .ok (.getfield 28, 3) := by decide +kernel
theorem dX4_leave_21 : decode cX4_leave 21 = .ok (.if_icmp .ge 23, 3) := by decide +kernel
theorem dX4_leave_24 : decode cX4_leave 24 = .ok (.aload_n 0, 1) := by decide +kernel
theorem dX4_leave_25 : decode cX4_leave 25 = .ok (.getfield 9, 3) := by decide +kernel
theorem dX4_leave_28 : decode cX4_leave 28 = .ok (.iload_n 3, 1) := by decide +kernel
theorem dX4_leave_29 : decode cX4_leave 29 = .ok (.iconst 1, 1) := by decide +kernel
theorem dX4_leave_30 : decode cX4_leave 30 = .ok (.isub, 1) := by decide +kernel
theorem dX4_leave_31 : decode cX4_leave 31 = .ok (.aload_n 0, 1) := by decide +kernel
theorem dX4_leave_32 : decode cX4_leave 32 = .ok (.getfield 9, 3) := by decide +kernel
theorem dX4_leave_35 : decode cX4_leave 35 = .ok (.iload_n 3, 1) := by decide +kernel
theorem dX4_leave_36 : decode cX4_leave 36 = .ok (.iaload, 1) := by decide +kernel
theorem dX4_leave_37 : decode cX4_leave 37 = .ok (.iastore, 1) := by decide +kernel
theorem dX4_leave_38 : decode cX4_leave 38 = .ok (.iinc 3 1, 3) := by decide +kernel
theorem dX4_leave_41 : decode cX4_leave 41 = .ok (.goto (-25), 3) := by decide +kernel
theorem dX4_leave_44 : decode cX4_leave 44 = .ok (.aload_n 0, 1) := by decide +kernel
theorem dX4_leave_45 : decode cX4_leave 45 = .ok (.dup, 1) := by decide +kernel
theorem dX4_leave_46 : decode cX4_leave 46 = .ok (.getfield 28, 3) := by decide +kernel
theorem dX4_leave_49 : decode cX4_leave 49 = .ok (.iconst 1, 1) := by decide +kernel
theorem dX4_leave_50 : decode cX4_leave 50 = .ok (.isub, 1) := by decide +kernel
theorem dX4_leave_51 : decode cX4_leave 51 = .ok (.putfield 28, 3) := by decide +kernel
theorem dX4_leave_54 : decode cX4_leave 54 = .ok (.return_, 1) := by decide +kernel
theorem dX4_copyFrom_0 : decode cX4_copyFrom 0 = .ok (.aload_n 0, 1) := by decide +kernel
theorem dX4_copyFrom_1 : decode cX4_copyFrom 1 = .ok (.aload_n 1, 1) := by decide +kernel
theorem dX4_copyFrom_2 : decode cX4_copyFrom 2 = .ok (.getfield 15, 3) := by decide +kernel
theorem dX4_copyFrom_5 : decode cX4_copyFrom 5 = .ok (.putfield 15, 3) := by decide +kernel
theorem dX4_copyFrom_8 : decode cX4_copyFrom 8 = .ok (.aload_n 0, 1) := by decide +kernel
theorem dX4_copyFrom_9 : decode cX4_copyFrom 9 = .ok (.aload_n 1, 1) := by decide +kernel
theorem dX4_copyFrom_10 : decode cX4_copyFrom 10 = .ok (.getfield 19, 3) := by decide +kernel
theorem dX4_copyFrom_13 : decode cX4_copyFrom 13 = .ok (.putfield 19, 3) := by decide +kernel
theorem dX4_copyFrom_16 : decode cX4_copyFrom 16 = .ok (.aload_n 0, 1) := by decide +kernel
theorem dX4_copyFrom_17 : decode cX4_copyFrom 17 = .ok (.aload_n 1, 1) := by decide +kernel
theorem dX4_copyFrom_18 : decode cX4_copyFrom 18 = .ok (.getfield 22, 3) := by decide +kernel
theorem dX4_copyFrom_21 : decode cX4_copyFrom 21 = .ok (.putfield 22, 3) := by decide +kernel
theorem dX4_copyFrom_24 : decode cX4_copyFrom 24 = .ok (.aload_n 0, 1) := by decide +kernel
theorem dX4_copyFrom_25 : decode cX4_copyFrom 25 = .ok (.aload_n 1, 1) := by decide +kernel
theorem dX4_copyFrom_26 : decode cX4_copyFrom 26 = .ok (.getfield 25, 3) := by decide +kernel
theorem dX4_copyFrom_29 : decode cX4_copyFrom 29 = .ok (.putfield 25, 3) := by decide +kernel
theorem dX4_copyFrom_32 : decode cX4_copyFrom 32 = .ok (.aload_n 0, 1) := by decide +kernel
theorem dX4_copyFrom_33 : decode cX4_copyFrom 33 = .ok (.aload_n 1, 1) := by decide +kernel
theorem dX4_copyFrom_34 : decode cX4_copyFrom 34 = .ok (.getfield 28, 3) := by decide +kernel
theorem dX4_copyFrom_37 : decode cX4_copyFrom 37 = .ok (.putfield 28, 3) := by decide +kernel
theorem dX4_copyFrom_40 : decode cX4_copyFrom 40 = .ok (.aload_n 1, 1) := by decide +kernel
theorem dX4_copyFrom_41 : decode cX4_copyFrom 41 = .ok (.getfield 9, 3) := by decide +kernel
theorem dX4_copyFrom_44 : decode cX4_copyFrom 44 = .ok (.iconst 0, 1) := by decide +kernel
theorem dX4_copyFrom_45 : decode cX4_copyFrom 45 = .ok (.aload_n 0, 1) := by decide +kernel
theorem dX4_copyFrom_46 : decode cX4_copyFrom 46 = .ok (.getfield 9, 3) := by decide +kernel
theorem dX4_copyFrom_49 : decode cX4_copyFrom 49 = .ok (.iconst 0, 1) := by decide +kernel
theorem dX4_copyFrom_50 : decode cX4_copyFrom 50 = .ok (.aload_n 0, 1) := by decide +kernel
theorem dX4_copyFrom_51 : decode cX4_copyFrom 51 = .ok (.getfield 9, 3) := by decide +kernel
theorem dX4_copyFrom_54 : decode cX4_copyFrom 54 = .ok (.arraylength, 1) := by decide +kernel
theorem dX4_copyFrom_55 : decode cX4_copyFrom 55 = .ok (.invokestatic 45, 3) := by decide +kernel
theorem dX4_copyFrom_58 : decode cX4_copyFrom 58 = .ok (.return_, 1) := by decide +kernel
theorem dX5_init_0 : decode cX5_init 0 = .ok (.aload_n 0, 1) := by decide +kernel
theorem dX5_init_1 : decode cX5_init 1 = .ok (.invokespecial 3, 3) := by decide +kernel
theorem dX5_init_4 : decode cX5_init 4 = .ok (.aload_n 0, 1) := by decide +kernel
theorem dX5_init_5 : decode cX5_init 5 = .ok (.bipush 12, 2) := by decide +kernel
theorem dX5_init_7 : decode cX5_init 7 = .ok (.bipush 12, 2) := by decide +kernel
theorem dX5_init_9 : decode cX5_init 9 = .ok (.multianewarray 9 2, 4) := by decide +kernel
theorem dX5_init_13 : decode cX5_init 13 = .ok (.putfield 11, 3) := by decide +kernel
theorem dX5_init_16 : decode cX5_init 16 = .ok (.return_, 1) := by decide +kernel
theorem dX5_measure_0 : decode cX5_measure 0 = .ok (.iconst 0, 1) := by decide +kernel
theorem dX5_measure_1 : decode cX5_measure 1 = .ok (.istore_n 2, 1) := by decide +kernel
theorem dX5_measure_2 : decode cX5_measure 2 = .ok (.iload_n 2, 1) := by decide +kernel
theorem dX5_measure_3 : decode cX5_measure 3 = .ok (.aload_n 1, 1) := by decide +kernel
theorem dX5_measure_4 : decode cX5_measure 4 = .ok (.getfield 16, 3) := by decide +kernel
theorem dX5_measure_7 : decode cX5_measure 7 = .ok (.if_icmp .ge 28, 3) := by decide +kernel
theorem dX5_measure_10 : decode cX5_measure 10 = .ok (.aload_n 1, 1) := by decide +kernel
theorem dX5_measure_11 : decode cX5_measure 11 = .ok (.getfield 22, 3) := by decide +kernel
theorem dX5_measure_14 : decode cX5_measure 14 = .ok (.iload_n 2, 1) := by decide +kernel
theorem dX5_measure_15 : decode cX5_measure 15 = .ok (.aaload, 1) := by decide +kernel
theorem dX5_measure_16 : decode cX5_measure 16 = .ok (.getfield 26, 3) := by decide +kernel
theorem dX5_measure_19 : decode cX5_measure 19 = .ok (.iconst 5, 1) := by decide +kernel
theorem dX5_measure_20 : decode cX5_measure 20 = .ok (.if_icmp .ne 9, 3) := by decide +kernel
theorem dX5_measure_23 : decode cX5_measure 23 = .ok (.aload_n 0, 1) := by decide +kernel
theorem dX5_measure_24 : decode cX5_measure 24 = .ok (.iload_n 2, 1) := by decide +kernel
theorem dX5_measure_25 : decode cX5_measure 25 = .ok (.aload_n 1, 1) := by decide +kernel
theorem dX5_measure_26 : decode cX5_measure 26 = .ok (.invokevirtual 31, 3) := by decide +kernel
theorem dX5_measure_29 : decode cX5_measure 29 = .ok (.iinc 2 1, 3) := by decide +kernel
theorem dX5_measure_32 : decode cX5_measure 32 = .ok (.goto (-30), 3) := by decide +kernel
theorem dX5_measure_35 : decode cX5_measure 35 = .ok (.return_, 1) := by decide +kernel
theorem dX5_measureTo_0 : decode cX5_measureTo 0 = .ok (.iconst 0, 1) := by decide +kernel
theorem dX5_measureTo_1 : decode cX5_measureTo 1 = .ok (.istore_n 3, 1) := by decide +kernel
theorem dX5_measureTo_2 : decode cX5_measureTo 2 = .ok (.iload_n 3, 1) := by decide +kernel
theorem dX5_measureTo_3 : decode cX5_measureTo 3 = .ok (.bipush 12, 2) := by decide +kernel
theorem dX5_measureTo_5 : decode cX5_measureTo 5 = .ok (.if_icmp .ge 27, 3) := by decide +kernel
theorem dX5_measureTo_8 : decode cX5_measureTo 8 = .ok (.aload_n 0, 1) := by decide +kernel
theorem dX5_measureTo_9 : decode cX5_measureTo 9 = .ok (.getfield 11, 3) := by decide +kernel
theorem dX5_measureTo_12 : decode cX5_measureTo 12 = .ok (.iload_n 1, 1) := by decide +kernel
theorem dX5_measureTo_13 : decode cX5_measureTo 13 = .ok (.aaload, 1) := by decide +kernel
theorem dX5_measureTo_14 : decode cX5_measureTo 14 = .ok (.iload_n 3, 1) := by decide +kernel
theorem dX5_measureTo_15 : decode cX5_measureTo 15 = .ok (.iload_n 3, 1) := by decide +kernel
theorem dX5_measureTo_16 : decode cX5_measureTo 16 = .ok (.iload_n 1, 1) := by decide +kernel
theorem dX5_measureTo_17 : decode cX5_measureTo 17 = .ok (.if_icmp .ne 7, 3) := by decide +kernel
theorem dX5_measureTo_20 : decode cX5_measureTo 20 = .ok (.iconst 0, 1) := by decide +kernel
theorem dX5_measureTo_21 : decode cX5_measureTo 21 = .ok (.goto 4, 3) := by decide +kernel
theorem dX5_measureTo_24 : decode cX5_measureTo 24 = .ok (.iconst (-1), 1) := by decide +kernel
theorem dX5_measureTo_25 : decode cX5_measureTo 25 = .ok (.iastore, 1) := by decide +kernel
theorem dX5_measureTo_26 : decode cX5_measureTo 26 = .ok (.iinc 3 1, 3) := by decide +kernel
theorem dX5_measureTo_29 : decode cX5_measureTo 29 = .ok (.goto (-27), 3) := by decide +kernel
theorem dX5_measureTo_32 : decode cX5_measureTo 32 = .ok (.iconst 1, 1) := by decide +kernel
theorem dX5_measureTo_33 : decode cX5_measureTo 33 = .ok (.istore_n 3, 1) := by decide +kernel
theorem dX5_measureTo_34 : decode cX5_measureTo 34 = .ok (.iconst 0, 1) := by decide +kernel
theorem dX5_measureTo_35 : decode cX5_measureTo 35 = .ok (.istore 4, 2) := by decide +kernel
theorem dX5_measureTo_37 : decode cX5_measureTo 37 = .ok (.iload 4, 2) := by decide +kernel
theorem dX5_measureTo_39 : decode cX5_measureTo 39 = .ok (.aload_n 2, 1) := by decide +kernel
theorem dX5_measureTo_40 : decode cX5_measureTo 40 = .ok (.getfield 16, 3) := by decide +kernel
theorem dX5_measureTo_43 : decode cX5_measureTo 43 = .ok (.if_icmp .ge 49, 3) := by decide +kernel
theorem dX5_measureTo_46 : decode cX5_measureTo 46 = .ok (.iload_n 3, 1) := by decide +kernel
theorem dX5_measureTo_47 : decode cX5_measureTo 47 = .ok (.ifCond .eq 45, 3) := by decide +kernel
theorem dX5_measureTo_50 : decode cX5_measureTo 50 = .ok (.iconst 0, 1) := by decide +kernel
theorem dX5_measureTo_51 : decode cX5_measureTo 51 = .ok (.istore_n 3, 1) := by decide +kernel
theorem dX5_measureTo_52 : decode cX5_measureTo 52 = .ok (.iconst 0, 1) := by decide +kernel
theorem dX5_measureTo_53 : decode cX5_measureTo 53 = .ok (.istore 5, 2) := by decide +kernel
theorem dX5_measureTo_55 : decode cX5_measureTo 55 = .ok (.iload 5, 2) := by decide +kernel
theorem dX5_measureTo_57 : decode cX5_measureTo 57 = .ok (.aload_n 2, 1) := by decide +kernel
theorem dX5_measureTo_58 : decode cX5_measureTo 58 = .ok (.getfield 35, 3) := by decide +kernel
theorem dX5_measureTo_61 : decode cX5_measureTo 61 = .ok (.if_icmp .ge 25, 3) := by decide +kernel
theorem dX5_measureTo_64 : decode cX5_measureTo 64 = .ok (.iload_n 3, 1) := by decide +kernel
theorem dX5_measureTo_65 : decode cX5_measureTo 65 = .ok (.aload_n 0, 1) := by decide +kernel
theorem dX5_measureTo_66 : decode cX5_measureTo 66 = .ok (.aload_n 2, 1) := by decide +kernel
theorem dX5_measureTo_67 : decode cX5_measureTo 67 = .ok (.getfield 38, 3) := by decide +kernel
theorem dX5_measureTo_70 : decode cX5_measureTo 70 = .ok (.iload 5, 2) := by decide +kernel
theorem dX5_measureTo_72 : decode cX5_measureTo 72 = .ok (.aaload, 1) := by decide +kernel
theorem dX5_measureTo_73 : decode cX5_measureTo 73 = .ok (.iload_n 1, 1) := by decide +kernel
theorem dX5_measureTo_74 : decode cX5_measureTo 74 = .ok (.aload_n 2, 1) := by decide +kernel
theorem dX5_measureTo_75 : decode cX5_measureTo 75 = .ok (.invokevirtual 42, 3) := by decide +kernel
theorem dX5_measureTo_78 : decode cX5_measureTo 78 = .ok (.ior, 1) := by decide +kernel
theorem dX5_measureTo_79 : decode cX5_measureTo 79 = .ok (.istore_n 3, 1) := by decide +kernel
theorem dX5_measureTo_80 : decode cX5_measureTo 80 = .ok (.iinc 5 1, 3) := by decide +kernel
theorem dX5_measureTo_83 : decode cX5_measureTo 83 = .ok (.goto (-28), 3) := by decide +kernel
theorem dX5_measureTo_86 : decode cX5_measureTo 86 = .ok (.iinc 4 1, 3) := by decide +kernel
theorem dX5_measureTo_89 : decode cX5_measureTo 89 = .ok (.goto (-52), 3) := by decide +kernel
theorem dX5_measureTo_92 : decode cX5_measureTo 92 = .ok (.return_, 1) := by decide +kernel
theorem dX5_shortenBy_0 : decode cX5_shortenBy 0 = .ok (.aload_n 1, 1) := by decide +kernel
theorem dX5_shortenBy_1 : decode cX5_shortenBy 1 = .ok (.getfield 46, 3) := by decide +kernel
theorem dX5_shortenBy_4 : decode cX5_shortenBy 4 = .ok (.ifCond .ne 25, 3) := by decide +kernel
theorem dX5_shortenBy_7 : decode cX5_shortenBy 7 = .ok (.aload_n 3, 1) := by decide +kernel
theorem dX5_shortenBy_8 : decode cX5_shortenBy 8 = .ok (.aload_n 1, 1) := by decide +kernel
theorem dX5_shortenBy_9 : decode cX5_shortenBy 9 = .ok (.getfield 52, 3) := by decide +kernel
theorem dX5_shortenBy_12 : decode cX5_shortenBy 12 = .ok (.invokevirtual 55, 3) := by decide +kernel
theorem dX5_shortenBy_15 : decode cX5_shortenBy 15 = .ok (.ifCond .eq 14, 3) := by decide +kernel
theorem dX5_shortenBy_18 : decode cX5_shortenBy 18 = .ok (.aload_n 3, 1) := by decide +kernel
theorem dX5_shortenBy_19 : decode cX5_shortenBy 19 = .ok (.aload_n 1, 1) := by decide +kernel
theorem dX5_shortenBy_20 : decode cX5_shortenBy 20 = .ok (.getfield 59, 3) := by decide +kernel
theorem dX5_shortenBy_23 : decode cX5_shortenBy 23 = .ok (.invokevirtual 55, 3) := by decide +kernel
theorem dX5_shortenBy_26 : decode cX5_shortenBy 26 = .ok (.ifCond .ne 5, 3) := by decide +kernel
theorem dX5_shortenBy_29 : decode cX5_shortenBy 29 = .ok (.iconst 0, 1) := by decide +kernel
theorem dX5_shortenBy_30 : decode cX5_shortenBy 30 = .ok (.ireturn, 1) := by decide +kernel
theorem dX5_shortenBy_31 : decode cX5_shortenBy 31 = .ok (.aload_n 0, 1) := by decide +kernel
theorem dX5_shortenBy_32 : decode cX5_shortenBy 32 = .ok (.getfield 11, 3) := by decide +kernel
theorem dX5_shortenBy_35 : decode cX5_shortenBy 35 = .ok (.iload_n 2, 1) := by decide +kernel
theorem dX5_shortenBy_36 : decode cX5_shortenBy 36 = .ok (.aaload, 1) := by decide +kernel
theorem dX5_shortenBy_37 : decode cX5_shortenBy 37 = .ok (.aload_n 1, 1) := by decide +kernel
theorem dX5_shortenBy_38 : decode cX5_shortenBy 38 = .ok (.getfield 59, 3) := by decide +kernel
theorem dX5_shortenBy_41 : decode cX5_shortenBy 41 = .ok (.iaload, 1) := by decide +kernel
theorem dX5_shortenBy_42 : decode cX5_shortenBy 42 = .ok (.istore 4, 2) := by decide +kernel
theorem dX5_shortenBy_44 : decode cX5_shortenBy 44 = .ok (.aload_n 0, 1) := by decide +kernel
theorem dX5_shortenBy_45 : decode cX5_shortenBy 45 = .ok (.getfield 11, 3) := by decide +kernel
theorem dX5_shortenBy_48 : decode cX5_shortenBy 48 = .ok (.iload_n 2, 1) := by decide +kernel
theorem dX5_shortenBy_49 : decode cX5_shortenBy 49 = .ok (.aaload, 1) := by decide +kernel
theorem dX5_shortenBy_50 : decode cX5_shortenBy 50 = .ok (.aload_n 1, 1) := by decide +kernel
theorem dX5_shortenBy_51 : decode cX5_shortenBy 51 = .ok (.getfield 52, 3) := by decide +kernel
theorem dX5_shortenBy_54 : decode cX5_shortenBy 54 = .ok (.iaload, 1) := by decide +kernel
theorem dX5_shortenBy_55 : decode cX5_shortenBy 55 = .ok (.istore 5, 2) := by decide +kernel
theorem dX5_shortenBy_57 : decode cX5_shortenBy 57 = .ok (.iload 4, 2) := by decide +kernel
theorem dX5_shortenBy_59 : decode cX5_shortenBy 59 = .ok (.iconst (-1), 1) := by decide +kernel
theorem dX5_shortenBy_60 : decode cX5_shortenBy 60 = .ok (.if_icmp .eq 21, 3) := by decide +kernel
theorem dX5_shortenBy_63 : decode cX5_shortenBy 63 = .ok (.iload 5, 2) := by decide +kernel
theorem dX5_shortenBy_65 : decode cX5_shortenBy 65 = .ok (.iconst (-1), 1) := by decide +kernel
theorem dX5_shortenBy_66 : decode cX5_shortenBy 66 = .ok (.if_icmp .eq 17, 3) := by decide +kernel
theorem dX5_shortenBy_69 : decode cX5_shortenBy 69 = .ok (.iload 5, 2) := by decide +kernel
theorem dX5_shortenBy_71 : decode cX5_shortenBy 71 = .ok (.aload_n 1, 1) := by decide +kernel
theorem dX5_shortenBy_72 : decode cX5_shortenBy 72 = .ok (.getfield 62, 3) := by decide +kernel
theorem dX5_shortenBy_75 : decode cX5_shortenBy 75 = .ok (.iload 4, 2) := by decide +kernel
theorem dX5_shortenBy_77 : decode cX5_shortenBy 77 = .ok (.iadd, 1) := by decide +kernel
theorem dX5_shortenBy_78 : decode cX5_shortenBy 78 = .ok (.if_icmp .gt 5, 3) := by decide +kernel
theorem dX5_shortenBy_81 : decode cX5_shortenBy 81 = .ok (.iconst 0, 1) := by decide +kernel
theorem dX5_shortenBy_82 : decode cX5_shortenBy 82 = .ok (.ireturn, 1) := by decide +kernel
theorem dX5_shortenBy_83 : decode cX5_shortenBy 83 = .ok (.aload_n 0, 1) := by decide +kernel
theorem dX5_shortenBy_84 : decode cX5_shortenBy 84 = .ok (.getfield 11, 3) := by decide +kernel
theorem dX5_shortenBy_87 : decode cX5_shortenBy 87 = .ok (.iload_n 2, 1) := by decide +kernel
theorem dX5_shortenBy_88 : decode cX5_shortenBy 88 = .ok (.aaload, 1) := by decide +kernel
theorem dX5_shortenBy_89 : decode cX5_shortenBy 89 = .ok (.aload_n 1, 1) := by decide +kernel
theorem dX5_shortenBy_90 : decode cX5_shortenBy 90 = .ok (.getfield 52, 3) := by decide +kernel
theorem dX5_shortenBy_93 : decode cX5_shortenBy 93 = .ok (.aload_n 1, 1) := by decide +kernel
theorem dX5_shortenBy_94 : decode cX5_shortenBy 94 = .ok (.getfield 62, 3) := by decide +kernel
theorem dX5_shortenBy_97 : decode cX5_shortenBy 97 = .ok (.iload 4, 2) := by decide +kernel
theorem dX5_shortenBy_99 : decode cX5_shortenBy 99 = .ok (.iadd, 1) := by decide +kernel
theorem dX5_shortenBy_100 : decode cX5_shortenBy 100 = .ok (.iastore, 1) := by decide +kernel
theorem dX5_shortenBy_101 : decode cX5_shortenBy 101 = .ok (.iconst 1, 1) := by decide +kernel
theorem dX5_shortenBy_102 : decode cX5_shortenBy 102 = .ok (.ireturn, 1) := by decide +kernel
theorem dX5_shortestOutlet_0 : decode cX5_shortestOutlet 0 = .ok (.aload_n 1, 1) := by decide +kernel
theorem dX5_shortestOutlet_1 : decode cX5_shortestOutlet 1 = .ok (.iload_n 3, 1) := by decide +kernel
theorem dX5_shortestOutlet_2 : decode cX5_shortestOutlet 2 = .ok (.invokevirtual 55, 3) := by decide +kernel
theorem dX5_shortestOutlet_5 : decode cX5_shortestOutlet 5 = .ok (.ifCond .ne 5, 3) := by decide +kernel
theorem dX5_shortestOutlet_8 : decode cX5_shortestOutlet 8 = .ok (.iconst (-1), 1) := by decide +kernel
theorem dX5_shortestOutlet_9 : decode cX5_shortestOutlet 9 = .ok (.ireturn, 1) := by decide +kernel
theorem dX5_shortestOutlet_10 : decode cX5_shortestOutlet 10 = .ok (.iconst (-1), 1) := by decide +kernel
theorem dX5_shortestOutlet_11 : decode cX5_shortestOutlet 11 = .ok (.istore 4, 2) := by decide +kernel
theorem dX5_shortestOutlet_13 : decode cX5_shortestOutlet 13 = .ok (.iconst 0, 1) := by decide +kernel
theorem dX5_shortestOutlet_14 : decode cX5_shortestOutlet 14 = .ok (.istore 5, 2) := by decide +kernel
theorem dX5_shortestOutlet_16 : decode cX5_shortestOutlet 16 = .ok (.iconst 0, 1) := by decide +kernel
theorem dX5_shortestOutlet_17 : decode cX5_shortestOutlet 17 = .ok (.istore 6, 2) := by decide +kernel
theorem dX5_shortestOutlet_19 : decode cX5_shortestOutlet 19 = .ok (.iload 6, 2) := by decide +kernel
theorem dX5_shortestOutlet_21 : decode cX5_shortestOutlet 21 = .ok (.aload_n 1, 1) := by decide +kernel
theorem dX5_shortestOutlet_22 : decode cX5_shortestOutlet 22 = .ok (.getfield 35, 3) := by decide +kernel
theorem dX5_shortestOutlet_25 : decode cX5_shortestOutlet 25 = .ok (.if_icmp .ge 100, 3) := by decide +kernel
theorem dX5_shortestOutlet_28 : decode cX5_shortestOutlet 28 = .ok (.aload_n 1, 1) := by decide +kernel
theorem dX5_shortestOutlet_29 : decode cX5_shortestOutlet 29 = .ok (.getfield 38, 3) := by decide +kernel
theorem dX5_shortestOutlet_32 : decode cX5_shortestOutlet 32 = .ok (.iload 6, 2) := by decide +kernel
theorem dX5_shortestOutlet_34 : decode cX5_shortestOutlet 34 = .ok (.aaload, 1) := by decide +kernel
theorem dX5_shortestOutlet_35 : decode cX5_shortestOutlet 35 = .ok (.astore 7, 2) := by decide +kernel
theorem dX5_shortestOutlet_37 : decode cX5_shortestOutlet 37 = .ok (.aload 7, 2) := by decide +kernel
theorem dX5_shortestOutlet_39 : decode cX5_shortestOutlet 39 = .ok (.getfield 52, 3) := by decide +kernel
theorem dX5_shortestOutlet_42 : decode cX5_shortestOutlet 42 = .ok (.iload_n 2, 1) := by decide +kernel
theorem dX5_shortestOutlet_43 : decode cX5_shortestOutlet 43 = .ok (.if_icmp .ne 76, 3) := by decide +kernel
theorem dX5_shortestOutlet_46 : decode cX5_shortestOutlet 46 = .ok (.aload 7, 2) := by decide +kernel
theorem dX5_shortestOutlet_48 : decode cX5_shortestOutlet 48 = .ok (.getfield 46, 3) := by decide +kernel
theorem dX5_shortestOutlet_51 : decode cX5_shortestOutlet 51 = .ok (.ifCond .ne 68, 3) := by decide +kernel
theorem dX5_shortestOutlet_54 : decode cX5_shortestOutlet 54 = .ok (.aload_n 1, 1) := by decide +kernel
theorem dX5_shortestOutlet_55 : decode cX5_shortestOutlet 55 = .ok (.aload 7, 2) := by decide +kernel
theorem dX5_shortestOutlet_57 : decode cX5_shortestOutlet 57 = .ok (.getfield 59, 3) := by decide +kernel
theorem dX5_shortestOutlet_60 : decode cX5_shortestOutlet 60 = .ok (.invokevirtual 55, 3) := by decide +kernel
theorem dX5_shortestOutlet_63 : decode cX5_shortestOutlet 63 = .ok (.ifCond .eq 56, 3) := by decide +kernel
theorem dX5_shortestOutlet_66 : decode cX5_shortestOutlet 66 = .ok (.aload_n 0, 1) := by decide +kernel
theorem dX5_shortestOutlet_67 : decode cX5_shortestOutlet 67 = .ok (.getfield 11, 3) := by decide +kernel
theorem dX5_shortestOutlet_70 : decode cX5_shortestOutlet 70 = .ok (.iload_n 3, 1) := by decide +kernel
theorem dX5_shortestOutlet_71 : decode cX5_shortestOutlet 71 = .ok (.aaload, 1) := by decide +kernel
theorem dX5_shortestOutlet_72 : decode cX5_shortestOutlet 72 = .ok (.aload 7, 2) := by decide +kernel
theorem dX5_shortestOutlet_74 : decode cX5_shortestOutlet 74 = .ok (.getfield 59, 3) := by decide +kernel
theorem dX5_shortestOutlet_77 : decode cX5_shortestOutlet 77 = .ok (.iaload, 1) := by decide +kernel
theorem dX5_shortestOutlet_78 : decode cX5_shortestOutlet 78 = .ok (.istore 8, 2) := by decide +kernel
theorem dX5_shortestOutlet_80 : decode cX5_shortestOutlet 80 = .ok (.iload 8, 2) := by decide +kernel
theorem dX5_shortestOutlet_82 : decode cX5_shortestOutlet 82 = .ok (.iconst (-1), 1) := by decide +kernel
theorem dX5_shortestOutlet_83 : decode cX5_shortestOutlet 83 = .ok (.if_icmp .eq 36, 3) := by decide +kernel
theorem dX5_shortestOutlet_86 : decode cX5_shortestOutlet 86 = .ok (.iload 4, 2) := by decide +kernel
theorem dX5_shortestOutlet_88 : decode cX5_shortestOutlet 88 = .ok (.iconst (-1), 1) := by decide +kernel
theorem dX5_shortestOutlet_89 : decode cX5_shortestOutlet 89 = .ok (.if_icmp .eq 16, 3) := by decide +kernel
theorem dX5_shortestOutlet_92 : decode cX5_shortestOutlet 92 = .ok (.aload 7, 2) := by decide +kernel
theorem dX5_shortestOutlet_94 : decode cX5_shortestOutlet 94 = .ok (.getfield 62, 3) := by decide +kernel
theorem dX5_shortestOutlet_97 : decode cX5_shortestOutlet 97 = .ok (.iload 8, 2) := by decide +kernel
theorem dX5_shortestOutlet_99 : decode cX5_shortestOutlet 99 = .ok (.iadd, 1) := by decide +kernel
theorem dX5_shortestOutlet_100 : decode cX5_shortestOutlet 100 = .ok (.iload 5, 2) := by decide +kernel
theorem dX5_shortestOutlet_102 : decode cX5_shortestOutlet 102 = .ok (.if_icmp .ge 17, 3) := by decide +kernel
theorem dX5_shortestOutlet_105 : decode cX5_shortestOutlet 105 = .ok (.iload 6, 2) := by decide +kernel
theorem dX5_shortestOutlet_107 : decode cX5_shortestOutlet 107 = .ok (.istore 4, 2) := by decide +kernel
theorem dX5_shortestOutlet_109 : decode cX5_shortestOutlet 109 = .ok (.aload 7, 2) := by decide +kernel
theorem dX5_shortestOutlet_111 : decode cX5_shortestOutlet 111 = .ok (.getfield 62, 3) := by decide +kernel
theorem dX5_shortestOutlet_114 : decode cX5_shortestOutlet 114 = .ok (.iload 8, 2) := by decide +kernel
theorem dX5_shortestOutlet_116 : decode cX5_shortestOutlet 116 = .ok (.iadd, 1) := by decide +kernel
theorem dX5_shortestOutlet_117 : decode cX5_shortestOutlet 117 = .ok (.istore 5, 2) := by decide +kernel
theorem dX5_shortestOutlet_119 : decode cX5_shortestOutlet 119 = .ok (.iinc 6 1, 3) := by decide +kernel
theorem dX5_shortestOutlet_122 : decode cX5_shortestOutlet 122 = .ok (.goto (-103), 3) := by decide +kernel
theorem dX5_shortestOutlet_125 : decode cX5_shortestOutlet 125 = .ok (.iload 4, 2) := by decide +kernel
theorem dX5_shortestOutlet_127 : decode cX5_shortestOutlet 127 = .ok (.ireturn, 1) := by decide +kernel
theorem dX6_init_0 : decode cX6_init 0 = .ok (.aload_n 0, 1) := by decide +kernel
theorem dX6_init_1 : decode cX6_init 1 = .ok (.invokespecial 1, 3) := by decide +kernel
theorem dX6_init_4 : decode cX6_init 4 = .ok (.aload_n 0, 1) := by decide +kernel
theorem dX6_init_5 : decode cX6_init 5 = .ok (.new 7, 3) := by decide +kernel
theorem dX6_init_8 : decode cX6_init 8 = .ok (.dup, 1) := by decide +kernel
theorem dX6_init_9 : decode cX6_init 9 = .ok (.invokespecial 9, 3) := by decide +kernel
theorem dX6_init_12 : decode cX6_init 12 = .ok (.putfield 10, 3) := by decide +kernel
theorem dX6_init_15 : decode cX6_init 15 = .ok (.aload_n 0, 1) := by decide +kernel
theorem dX6_init_16 : decode cX6_init 16 = .ok (.new 16, 3) := by decide +kernel
theorem dX6_init_19 : decode cX6_init 19 = .ok (.dup, 1) := by decide +kernel
theorem dX6_init_20 : decode cX6_init 20 = .ok (.invokespecial 18, 3) := by decide +kernel
theorem dX6_init_23 : decode cX6_init 23 = .ok (.putfield 19, 3) := by decide +kernel
theorem dX6_init_26 : decode cX6_init 26 = .ok (.aload_n 0, 1) := by decide +kernel
theorem dX6_init_27 : decode cX6_init 27 = .ok (.aconst_null, 1) := by decide +kernel
theorem dX6_init_28 : decode cX6_init 28 = .ok (.putfield 23, 3) := by decide +kernel
theorem dX6_init_31 : decode cX6_init 31 = .ok (.aload_n 0, 1) := by decide +kernel
theorem dX6_init_32 : decode cX6_init 32 = .ok (.iconst 0, 1) := by decide +kernel
theorem dX6_init_33 : decode cX6_init 33 = .ok (.putfield 26, 3) := by decide +kernel
theorem dX6_init_36 : decode cX6_init 36 = .ok (.return_, 1) := by decide +kernel
theorem dX6_point_0 : decode cX6_point 0 = .ok (.iload_n 1, 1) := by decide +kernel
theorem dX6_point_1 : decode cX6_point 1 = .ok (.invokestatic 30, 3) := by decide +kernel
theorem dX6_point_4 : decode cX6_point 4 = .ok (.ifCond .eq 11, 3) := by decide +kernel
theorem dX6_point_7 : decode cX6_point 7 = .ok (.iload_n 1, 1) := by decide +kernel
theorem dX6_point_8 : decode cX6_point 8 = .ok (.iload_n 2, 1) := by decide +kernel
theorem dX6_point_9 : decode cX6_point 9 = .ok (.invokestatic 34, 3) := by decide +kernel
theorem dX6_point_12 : decode cX6_point 12 = .ok (.ifCond .ne 9, 3) := by decide +kernel
theorem dX6_point_15 : decode cX6_point 15 = .ok (.aload_n 0, 1) := by decide +kernel
theorem dX6_point_16 : decode cX6_point 16 = .ok (.iconst (-1), 1) := by decide +kernel
theorem dX6_point_17 : decode cX6_point 17 = .ok (.invokevirtual 38, 3) := by decide +kernel
theorem dX6_point_20 : decode cX6_point 20 = .ok (.ireturn, 1) := by decide +kernel
theorem dX6_point_21 : decode cX6_point 21 = .ok (.aload_n 0, 1) := by decide +kernel
theorem dX6_point_22 : decode cX6_point 22 = .ok (.getfield 10, 3) := by decide +kernel
theorem dX6_point_25 : decode cX6_point 25 = .ok (.getfield 42, 3) := by decide +kernel
theorem dX6_point_28 : decode cX6_point 28 = .ok (.bipush 12, 2) := by decide +kernel
theorem dX6_point_30 : decode cX6_point 30 = .ok (.if_icmp .lt 10, 3) := by decide +kernel
theorem dX6_point_33 : decode cX6_point 33 = .ok (.aload_n 0, 1) := by decide +kernel
theorem dX6_point_34 : decode cX6_point 34 = .ok (.bipush (-3), 2) := by decide +kernel
theorem dX6_point_36 : decode cX6_point 36 = .ok (.invokevirtual 38, 3) := by decide +kernel
theorem dX6_point_39 : decode cX6_point 39 = .ok (.ireturn, 1) := by decide +kernel
theorem dX6_point_40 : decode cX6_point 40 = .ok (.aload_n 0, 1) := by decide +kernel
theorem dX6_point_41 : decode cX6_point 41 = .ok (.getfield 10, 3) := by decide +kernel
theorem dX6_point_44 : decode cX6_point 44 = .ok (.getfield 42, 3) := by decide +kernel
theorem dX6_point_47 : decode cX6_point 47 = .ok (.istore_n 3, 1) := by decide +kernel
theorem dX6_point_48 : decode cX6_point 48 = .ok (.aload_n 0, 1) := by decide +kernel
theorem dX6_point_49 : decode cX6_point 49 = .ok (.getfield 10, 3) := by decide +kernel
theorem dX6_point_52 : decode cX6_point 52 = .ok (.getfield 45, 3) := by decide +kernel
theorem dX6_point_55 : decode cX6_point 55 = .ok (.iload_n 3, 1) := by decide +kernel
theorem dX6_point_56 : decode cX6_point 56 = .ok (.aaload, 1) := by decide +kernel
theorem dX6_point_57 : decode cX6_point 57 = .ok (.iload_n 1, 1) := by decide +kernel
theorem dX6_point_58 : decode cX6_point 58 = .ok (.iload_n 2, 1) := by decide +kernel
theorem dX6_point_59 : decode cX6_point 59 = .ok (.invokevirtual 49, 3) := by decide +kernel
theorem dX6_point_62 : decode cX6_point 62 = .ok (.aload_n 0, 1) := by decide +kernel
theorem dX6_point_63 : decode cX6_point 63 = .ok (.getfield 10, 3) := by decide +kernel
theorem dX6_point_66 : decode cX6_point 66 = .ok (.dup, 1) := by decide +kernel
theorem dX6_point_67 : decode cX6_point 67 = .ok (.getfield 42, 3) := by decide +kernel
theorem dX6_point_70 : decode cX6_point 70 = .ok (.iconst 1, 1) := by decide +kernel
theorem dX6_point_71 : decode cX6_point 71 = .ok (.iadd, 1) := by decide +kernel
theorem dX6_point_72 : decode cX6_point 72 = .ok (.putfield 42, 3) := by decide +kernel
theorem dX6_point_75 : decode cX6_point 75 = .ok (.aload_n 0, 1) := by decide +kernel
theorem dX6_point_76 : decode cX6_point 76 = .ok (.getfield 19, 3) := by decide +kernel
theorem dX6_point_79 : decode cX6_point 79 = .ok (.aload_n 0, 1) := by decide +kernel
theorem dX6_point_80 : decode cX6_point 80 = .ok (.getfield 10, 3) := by decide +kernel
theorem dX6_point_83 : decode cX6_point 83 = .ok (.invokevirtual 55, 3) := by decide +kernel
theorem dX6_point_86 : decode cX6_point 86 = .ok (.iload_n 3, 1) := by decide +kernel
theorem dX6_point_87 : decode cX6_point 87 = .ok (.ireturn, 1) := by decide +kernel
theorem dX6_belt_0 : decode cX6_belt 0 = .ok (.aload_n 0, 1) := by decide +kernel
theorem dX6_belt_1 : decode cX6_belt 1 = .ok (.getfield 10, 3) := by decide +kernel
theorem dX6_belt_4 : decode cX6_belt 4 = .ok (.iload_n 1, 1) := by decide +kernel
theorem dX6_belt_5 : decode cX6_belt 5 = .ok (.invokevirtual 59, 3) := by decide +kernel
theorem dX6_belt_8 : decode cX6_belt 8 = .ok (.ifCond .eq 24, 3) := by decide +kernel
theorem dX6_belt_11 : decode cX6_belt 11 = .ok (.aload_n 0, 1) := by decide +kernel
theorem dX6_belt_12 : decode cX6_belt 12 = .ok (.getfield 10, 3) := by decide +kernel
theorem dX6_belt_15 : decode cX6_belt 15 = .ok (.iload_n 2, 1) := by decide +kernel
theorem dX6_belt_16 : decode cX6_belt 16 = .ok (.invokevirtual 59, 3) := by decide +kernel
theorem dX6_belt_19 : decode cX6_belt 19 = .ok (.ifCond .eq 13, 3) := by decide +kernel
theorem dX6_belt_22 : decode cX6_belt 22 = .ok (.iload_n 3, 1) := by decide +kernel
theorem dX6_belt_23 : decode cX6_belt 23 = .ok (.iconst 1, 1) := by decide +kernel
theorem dX6_belt_24 : decode cX6_belt 24 = .ok (.bipush 12, 2) := by decide +kernel
theorem dX6_belt_26 : decode cX6_belt 26 = .ok (.invokestatic 62, 3) := by decide +kernel
theorem dX6_belt_29 : decode cX6_belt 29 = .ok (.ifCond .ne 9, 3) := by decide +kernel
theorem dX6_belt_32 : decode cX6_belt 32 = .ok (.aload_n 0, 1) := by decide +kernel
theorem dX6_belt_33 : decode cX6_belt 33 = .ok (.iconst (-1), 1) := by decide +kernel
theorem dX6_belt_34 : decode cX6_belt 34 = .ok (.invokevirtual 38, 3) := by decide +kernel
theorem dX6_belt_37 : decode cX6_belt 37 = .ok (.ireturn, 1) := by decide +kernel
theorem dX6_belt_38 : decode cX6_belt 38 = .ok (.iload_n 1, 1) := by decide +kernel
theorem dX6_belt_39 : decode cX6_belt 39 = .ok (.iload_n 2, 1) := by decide +kernel
theorem dX6_belt_40 : decode cX6_belt 40 = .ok (.if_icmp .ne 10, 3) := by decide +kernel
theorem dX6_belt_43 : decode cX6_belt 43 = .ok (.aload_n 0, 1) := by decide +kernel
theorem dX6_belt_44 : decode cX6_belt 44 = .ok (.bipush (-5), 2) := by decide +kernel
theorem dX6_belt_46 : decode cX6_belt 46 = .ok (.invokevirtual 38, 3) := by decide +kernel
theorem dX6_belt_49 : decode cX6_belt 49 = .ok (.ireturn, 1) := by decide +kernel
theorem dX6_belt_50 : decode cX6_belt 50 = .ok (.aload_n 0, 1) := by decide +kernel
theorem dX6_belt_51 : decode cX6_belt 51 = .ok (.getfield 10, 3) := by decide +kernel
theorem dX6_belt_54 : decode cX6_belt 54 = .ok (.getfield 45, 3) := by decide +kernel
theorem dX6_belt_57 : decode cX6_belt 57 = .ok (.iload_n 1, 1) := by decide +kernel
theorem dX6_belt_58 : decode cX6_belt 58 = .ok (.aaload, 1) := by decide +kernel
theorem dX6_belt_59 : decode cX6_belt 59 = .ok (.getfield 66, 3) := by decide +kernel
theorem dX6_belt_62 : decode cX6_belt 62 = .ok (.iconst 5, 1) := by decide +kernel
theorem dX6_belt_63 : decode cX6_belt 63 = .ok (.if_icmp .eq 18, 3) := by decide +kernel
theorem dX6_belt_66 : decode cX6_belt 66 = .ok (.aload_n 0, 1) := by decide +kernel
theorem dX6_belt_67 : decode cX6_belt 67 = .ok (.getfield 10, 3) := by decide +kernel
theorem dX6_belt_70 : decode cX6_belt 70 = .ok (.getfield 45, 3) := by decide +kernel
theorem dX6_belt_73 : decode cX6_belt 73 = .ok (.iload_n 2, 1) := by decide +kernel
theorem dX6_belt_74 : decode cX6_belt 74 = .ok (.aaload, 1) := by decide +kernel
theorem dX6_belt_75 : decode cX6_belt 75 = .ok (.getfield 66, 3) := by decide +kernel
theorem dX6_belt_78 : decode cX6_belt 78 = .ok (.ifCond .ne 10, 3) := by decide +kernel
theorem dX6_belt_81 : decode cX6_belt 81 = .ok (.aload_n 0, 1) := by decide +kernel
theorem dX6_belt_82 : decode cX6_belt 82 = .ok (.bipush (-4), 2) := by decide +kernel
theorem dX6_belt_84 : decode cX6_belt 84 = .ok (.invokevirtual 38, 3) := by decide +kernel
theorem dX6_belt_87 : decode cX6_belt 87 = .ok (.ireturn, 1) := by decide +kernel
theorem dX6_belt_88 : decode cX6_belt 88 = .ok (.aload_n 0, 1) := by decide +kernel
theorem dX6_belt_89 : decode cX6_belt 89 = .ok (.getfield 10, 3) := by decide +kernel
theorem dX6_belt_92 : decode cX6_belt 92 = .ok (.getfield 69, 3) := by decide +kernel
theorem dX6_belt_95 : decode cX6_belt 95 = .ok (.bipush 16, 2) := by decide +kernel
theorem dX6_belt_97 : decode cX6_belt 97 = .ok (.if_icmp .lt 10, 3) := by decide +kernel
theorem dX6_belt_100 : decode cX6_belt 100 = .ok (.aload_n 0, 1) := by decide +kernel
theorem dX6_belt_101 : decode cX6_belt 101 = .ok (.bipush (-3), 2) := by decide +kernel
theorem dX6_belt_103 : decode cX6_belt 103 = .ok (.invokevirtual 38, 3) := by decide +kernel
theorem dX6_belt_106 : decode cX6_belt 106 = .ok (.ireturn, 1) := by decide +kernel
theorem dX6_belt_107 : decode cX6_belt 107 = .ok (.aload_n 0, 1) := by decide +kernel
theorem dX6_belt_108 : decode cX6_belt 108 = .ok (.getfield 10, 3) := by decide +kernel
theorem dX6_belt_111 : decode cX6_belt 111 = .ok (.getfield 69, 3) := by decide +kernel
theorem dX6_belt_114 : decode cX6_belt 114 = .ok (.istore 4, 2) := by decide +kernel
theorem dX6_belt_116 : decode cX6_belt 116 = .ok (.aload_n 0, 1) := by decide +kernel
theorem dX6_belt_117 : decode cX6_belt 117 = .ok (.getfield 10, 3) := by decide +kernel
theorem dX6_belt_120 : decode cX6_belt 120 = .ok (.getfield 72, 3) := by decide +kernel
theorem dX6_belt_123 : decode cX6_belt 123 = .ok (.iload 4, 2) := by decide +kernel
theorem dX6_belt_125 : decode cX6_belt 125 = .ok (.aaload, 1) := by decide +kernel
theorem dX6_belt_126 : decode cX6_belt 126 = .ok (.iload_n 1, 1) := by decide +kernel
theorem dX6_belt_127 : decode cX6_belt 127 = .ok (.iload_n 2, 1) := by decide +kernel
theorem dX6_belt_128 : decode cX6_belt 128 = .ok (.iload_n 3, 1) := by decide +kernel
theorem dX6_belt_129 : decode cX6_belt 129 = .ok (.invokevirtual 76, 3) := by decide +kernel
theorem dX6_belt_132 : decode cX6_belt 132 = .ok (.aload_n 0, 1) := by decide +kernel
theorem dX6_belt_133 : decode cX6_belt 133 = .ok (.getfield 10, 3) := by decide +kernel
theorem dX6_belt_136 : decode cX6_belt 136 = .ok (.getfield 45, 3) := by decide +kernel
theorem dX6_belt_139 : decode cX6_belt 139 = .ok (.iload_n 2, 1) := by decide +kernel
theorem dX6_belt_140 : decode cX6_belt 140 = .ok (.aaload, 1) := by decide +kernel
theorem dX6_belt_141 : decode cX6_belt 141 = .ok (.iload 4, 2) := by decide +kernel
theorem dX6_belt_143 : decode cX6_belt 143 = .ok (.invokevirtual 81, 3) := by decide +kernel
theorem dX6_belt_146 : decode cX6_belt 146 = .ok (.aload_n 0, 1) := by decide +kernel
theorem dX6_belt_147 : decode cX6_belt 147 = .ok (.getfield 10, 3) := by decide +kernel
theorem dX6_belt_150 : decode cX6_belt 150 = .ok (.dup, 1) := by decide +kernel
theorem dX6_belt_151 : decode cX6_belt 151 = .ok (.getfield 69, 3) := by decide +kernel
theorem dX6_belt_154 : decode cX6_belt 154 = .ok (.iconst 1, 1) := by decide +kernel
theorem dX6_belt_155 : decode cX6_belt 155 = .ok (.iadd, 1) := by decide +kernel
theorem dX6_belt_156 : decode cX6_belt 156 = .ok (.putfield 69, 3) := by decide +kernel
theorem dX6_belt_159 : decode cX6_belt 159 = .ok (.aload_n 0, 1) := by decide +kernel
theorem dX6_belt_160 : decode cX6_belt 160 = .ok (.getfield 19, 3) := by decide +kernel
theorem dX6_belt_163 : decode cX6_belt 163 = .ok (.aload_n 0, 1) := by decide +kernel
theorem dX6_belt_164 : decode cX6_belt 164 = .ok (.getfield 10, 3) := by decide +kernel
theorem dX6_belt_167 : decode cX6_belt 167 = .ok (.invokevirtual 55, 3) := by decide +kernel
theorem dX6_belt_170 : decode cX6_belt 170 = .ok (.iload 4, 2) := by decide +kernel
theorem dX6_belt_172 : decode cX6_belt 172 = .ok (.ireturn, 1) := by decide +kernel
theorem dX6_as_0 : decode cX6_as 0 = .ok (.aload_n 0, 1) := by decide +kernel
theorem dX6_as_1 : decode cX6_as 1 = .ok (.getfield 10, 3) := by decide +kernel
theorem dX6_as_4 : decode cX6_as 4 = .ok (.iload_n 1, 1) := by decide +kernel
theorem dX6_as_5 : decode cX6_as 5 = .ok (.invokevirtual 59, 3) := by decide +kernel
theorem dX6_as_8 : decode cX6_as 8 = .ok (.ifCond .eq 10, 3) := by decide +kernel
theorem dX6_as_11 : decode cX6_as 11 = .ok (.iload_n 2, 1) := by decide +kernel
theorem dX6_as_12 : decode cX6_as 12 = .ok (.invokestatic 30, 3) := by decide +kernel
theorem dX6_as_15 : decode cX6_as 15 = .ok (.ifCond .ne 9, 3) := by decide +kernel
theorem dX6_as_18 : decode cX6_as 18 = .ok (.aload_n 0, 1) := by decide +kernel
theorem dX6_as_19 : decode cX6_as 19 = .ok (.iconst (-1), 1) := by decide +kernel
theorem dX6_as_20 : decode cX6_as 20 = .ok (.invokevirtual 38, 3) := by decide +kernel
theorem dX6_as_23 : decode cX6_as 23 = .ok (.ireturn, 1) := by decide +kernel
theorem dX6_as_24 : decode cX6_as 24 = .ok (.aload_n 0, 1) := by decide +kernel
theorem dX6_as_25 : decode cX6_as 25 = .ok (.getfield 10, 3) := by decide +kernel
theorem dX6_as_28 : decode cX6_as 28 = .ok (.getfield 45, 3) := by decide +kernel
theorem dX6_as_31 : decode cX6_as 31 = .ok (.iload_n 1, 1) := by decide +kernel
theorem dX6_as_32 : decode cX6_as 32 = .ok (.aaload, 1) := by decide +kernel
theorem dX6_as_33 : decode cX6_as 33 = .ok (.getfield 66, 3) := by decide +kernel
theorem dX6_as_36 : decode cX6_as 36 = .ok (.iload_n 2, 1) := by decide +kernel
theorem dX6_as_37 : decode cX6_as 37 = .ok (.if_icmp .ne 7, 3) := by decide +kernel
theorem dX6_as_40 : decode cX6_as 40 = .ok (.iload_n 1, 1) := by decide +kernel
theorem dX6_as_41 : decode cX6_as 41 = .ok (.goto 9, 3) := by decide +kernel
theorem dX6_as_44 : decode cX6_as 44 = .ok (.aload_n 0, 1) := by decide +kernel
theorem dX6_as_45 : decode cX6_as 45 = .ok (.bipush (-4), 2) := by decide +kernel
theorem dX6_as_47 : decode cX6_as 47 = .ok (.invokevirtual 38, 3) := by decide +kernel
theorem dX6_as_50 : decode cX6_as 50 = .ok (.ireturn, 1) := by decide +kernel
theorem dX6_turns_0 : decode cX6_turns 0 = .ok (.aload_n 0, 1) := by decide +kernel
theorem dX6_turns_1 : decode cX6_turns 1 = .ok (.getfield 10, 3) := by decide +kernel
theorem dX6_turns_4 : decode cX6_turns 4 = .ok (.iload_n 1, 1) := by decide +kernel
theorem dX6_turns_5 : decode cX6_turns 5 = .ok (.invokevirtual 85, 3) := by decide +kernel
theorem dX6_turns_8 : decode cX6_turns 8 = .ok (.ifCond .eq 13, 3) := by decide +kernel
theorem dX6_turns_11 : decode cX6_turns 11 = .ok (.iload_n 2, 1) := by decide +kernel
theorem dX6_turns_12 : decode cX6_turns 12 = .ok (.iconst 0, 1) := by decide +kernel
theorem dX6_turns_13 : decode cX6_turns 13 = .ok (.bipush 9, 2) := by decide +kernel
theorem dX6_turns_15 : decode cX6_turns 15 = .ok (.invokestatic 62, 3) := by decide +kernel
theorem dX6_turns_18 : decode cX6_turns 18 = .ok (.ifCond .ne 9, 3) := by decide +kernel
theorem dX6_turns_21 : decode cX6_turns 21 = .ok (.aload_n 0, 1) := by decide +kernel
theorem dX6_turns_22 : decode cX6_turns 22 = .ok (.iconst (-1), 1) := by decide +kernel
theorem dX6_turns_23 : decode cX6_turns 23 = .ok (.invokevirtual 38, 3) := by decide +kernel
theorem dX6_turns_26 : decode cX6_turns 26 = .ok (.ireturn, 1) := by decide +kernel
theorem dX6_turns_27 : decode cX6_turns 27 = .ok (.aload_n 0, 1) := by decide +kernel
theorem dX6_turns_28 : decode cX6_turns 28 = .ok (.getfield 10, 3) := by decide +kernel
theorem dX6_turns_31 : decode cX6_turns 31 = .ok (.getfield 72, 3) := by decide +kernel
theorem dX6_turns_34 : decode cX6_turns 34 = .ok (.iload_n 1, 1) := by decide +kernel
theorem dX6_turns_35 : decode cX6_turns 35 = .ok (.aaload, 1) := by decide +kernel
theorem dX6_turns_36 : decode cX6_turns 36 = .ok (.astore_n 3, 1) := by decide +kernel
theorem dX6_turns_37 : decode cX6_turns 37 = .ok (.aload_n 0, 1) := by decide +kernel
theorem dX6_turns_38 : decode cX6_turns 38 = .ok (.getfield 10, 3) := by decide +kernel
theorem dX6_turns_41 : decode cX6_turns 41 = .ok (.aload_n 3, 1) := by decide +kernel
theorem dX6_turns_42 : decode cX6_turns 42 = .ok (.getfield 88, 3) := by decide +kernel
theorem dX6_turns_45 : decode cX6_turns 45 = .ok (.iconst 1, 1) := by decide +kernel
theorem dX6_turns_46 : decode cX6_turns 46 = .ok (.invokevirtual 91, 3) := by decide +kernel
theorem dX6_turns_49 : decode cX6_turns 49 = .ok (.ifCond .ne 10, 3) := by decide +kernel
theorem dX6_turns_52 : decode cX6_turns 52 = .ok (.aload_n 0, 1) := by decide +kernel
theorem dX6_turns_53 : decode cX6_turns 53 = .ok (.bipush (-4), 2) := by decide +kernel
theorem dX6_turns_55 : decode cX6_turns 55 = .ok (.invokevirtual 38, 3) := by decide +kernel
theorem dX6_turns_58 : decode cX6_turns 58 = .ok (.ireturn, 1) := by decide +kernel
theorem dX6_turns_59 : decode cX6_turns 59 = .ok (.aload_n 3, 1) := by decide +kernel
theorem dX6_turns_60 : decode cX6_turns 60 = .ok (.getfield 94, 3) := by decide +kernel
theorem dX6_turns_63 : decode cX6_turns 63 = .ok (.istore 4, 2) := by decide +kernel
theorem dX6_turns_65 : decode cX6_turns 65 = .ok (.aload_n 3, 1) := by decide +kernel
theorem dX6_turns_66 : decode cX6_turns 66 = .ok (.iload_n 2, 1) := by decide +kernel
theorem dX6_turns_67 : decode cX6_turns 67 = .ok (.putfield 94, 3) := by decide +kernel
theorem dX6_turns_70 : decode cX6_turns 70 = .ok (.aload_n 0, 1) := by decide +kernel
theorem dX6_turns_71 : decode cX6_turns 71 = .ok (.getfield 10, 3) := by decide +kernel
theorem dX6_turns_74 : decode cX6_turns 74 = .ok (.getfield 45, 3) := by decide +kernel
theorem dX6_turns_77 : decode cX6_turns 77 = .ok (.aload_n 3, 1) := by decide +kernel
theorem dX6_turns_78 : decode cX6_turns 78 = .ok (.getfield 88, 3) := by decide +kernel
theorem dX6_turns_81 : decode cX6_turns 81 = .ok (.aaload, 1) := by decide +kernel
theorem dX6_turns_82 : decode cX6_turns 82 = .ok (.iload_n 1, 1) := by decide +kernel
theorem dX6_turns_83 : decode cX6_turns 83 = .ok (.iload_n 2, 1) := by decide +kernel
theorem dX6_turns_84 : decode cX6_turns 84 = .ok (.invokevirtual 97, 3) := by decide +kernel
theorem dX6_turns_87 : decode cX6_turns 87 = .ok (.iload 4, 2) := by decide +kernel
theorem dX6_turns_89 : decode cX6_turns 89 = .ok (.ireturn, 1) := by decide +kernel
theorem dX6_flight_0 : decode cX6_flight 0 = .ok (.aload_n 0, 1) := by decide +kernel
theorem dX6_flight_1 : decode cX6_flight 1 = .ok (.getfield 10, 3) := by decide +kernel
theorem dX6_flight_4 : decode cX6_flight 4 = .ok (.iload_n 1, 1) := by decide +kernel
theorem dX6_flight_5 : decode cX6_flight 5 = .ok (.invokevirtual 59, 3) := by decide +kernel
theorem dX6_flight_8 : decode cX6_flight 8 = .ok (.ifCond .eq 25, 3) := by decide +kernel
theorem dX6_flight_11 : decode cX6_flight 11 = .ok (.iload_n 2, 1) := by decide +kernel
theorem dX6_flight_12 : decode cX6_flight 12 = .ok (.iconst 0, 1) := by decide +kernel
theorem dX6_flight_13 : decode cX6_flight 13 = .ok (.sipush 5000, 3) := by decide +kernel
theorem dX6_flight_16 : decode cX6_flight 16 = .ok (.invokestatic 62, 3) := by decide +kernel
theorem dX6_flight_19 : decode cX6_flight 19 = .ok (.ifCond .eq 14, 3) := by decide +kernel
theorem dX6_flight_22 : decode cX6_flight 22 = .ok (.iload_n 3, 1) := by decide +kernel
theorem dX6_flight_23 : decode cX6_flight 23 = .ok (.iload_n 2, 1) := by decide +kernel
theorem dX6_flight_24 : decode cX6_flight 24 = .ok (.sipush 5000, 3) := by decide +kernel
theorem dX6_flight_27 : decode cX6_flight 27 = .ok (.invokestatic 62, 3) := by decide +kernel
theorem dX6_flight_30 : decode cX6_flight 30 = .ok (.ifCond .ne 9, 3) := by decide +kernel
theorem dX6_flight_33 : decode cX6_flight 33 = .ok (.aload_n 0, 1) := by decide +kernel
theorem dX6_flight_34 : decode cX6_flight 34 = .ok (.iconst (-1), 1) := by decide +kernel
theorem dX6_flight_35 : decode cX6_flight 35 = .ok (.invokevirtual 38, 3) := by decide +kernel
theorem dX6_flight_38 : decode cX6_flight 38 = .ok (.ireturn, 1) := by decide +kernel
theorem dX6_flight_39 : decode cX6_flight 39 = .ok (.aload_n 0, 1) := by decide +kernel
theorem dX6_flight_40 : decode cX6_flight 40 = .ok (.getfield 10, 3) := by decide +kernel
theorem dX6_flight_43 : decode cX6_flight 43 = .ok (.getfield 45, 3) := by decide +kernel
theorem dX6_flight_46 : decode cX6_flight 46 = .ok (.iload_n 1, 1) := by decide +kernel
theorem dX6_flight_47 : decode cX6_flight 47 = .ok (.aaload, 1) := by decide +kernel
theorem dX6_flight_48 : decode cX6_flight 48 = .ok (.getfield 66, 3) := by decide +kernel
theorem dX6_flight_51 : decode cX6_flight 51 = .ok (.iconst 5, 1) := by decide +kernel
theorem dX6_flight_52 : decode cX6_flight 52 = .ok (.if_icmp .eq 10, 3) := by decide +kernel
theorem dX6_flight_55 : decode cX6_flight 55 = .ok (.aload_n 0, 1) := by decide +kernel
theorem dX6_flight_56 : decode cX6_flight 56 = .ok (.bipush (-4), 2) := by decide +kernel
theorem dX6_flight_58 : decode cX6_flight 58 = .ok (.invokevirtual 38, 3) := by decide +kernel
theorem dX6_flight_61 : decode cX6_flight 61 = .ok (.ireturn, 1) := by decide +kernel
theorem dX6_flight_62 : decode cX6_flight 62 = .ok (.aload_n 0, 1) := by decide +kernel
theorem dX6_flight_63 : decode cX6_flight 63 = .ok (.getfield 10, 3) := by decide +kernel
theorem dX6_flight_66 : decode cX6_flight 66 = .ok (.getfield 100, 3) := by decide +kernel
theorem dX6_flight_69 : decode cX6_flight 69 = .ok (.bipush 8, 2) := by decide +kernel
theorem dX6_flight_71 : decode cX6_flight 71 = .ok (.if_icmp .lt 10, 3) := by decide +kernel
theorem dX6_flight_74 : decode cX6_flight 74 = .ok (.aload_n 0, 1) := by decide +kernel
theorem dX6_flight_75 : decode cX6_flight 75 = .ok (.bipush (-3), 2) := by decide +kernel
theorem dX6_flight_77 : decode cX6_flight 77 = .ok (.invokevirtual 38, 3) := by decide +kernel
theorem dX6_flight_80 : decode cX6_flight 80 = .ok (.ireturn, 1) := by decide +kernel
theorem dX6_flight_81 : decode cX6_flight 81 = .ok (.aload_n 0, 1) := by decide +kernel
theorem dX6_flight_82 : decode cX6_flight 82 = .ok (.getfield 10, 3) := by decide +kernel
theorem dX6_flight_85 : decode cX6_flight 85 = .ok (.getfield 100, 3) := by decide +kernel
theorem dX6_flight_88 : decode cX6_flight 88 = .ok (.istore 4, 2) := by decide +kernel
theorem dX6_flight_90 : decode cX6_flight 90 = .ok (.aload_n 0, 1) := by decide +kernel
theorem dX6_flight_91 : decode cX6_flight 91 = .ok (.getfield 10, 3) := by decide +kernel
theorem dX6_flight_94 : decode cX6_flight 94 = .ok (.getfield 103, 3) := by decide +kernel
theorem dX6_flight_97 : decode cX6_flight 97 = .ok (.iload 4, 2) := by decide +kernel
theorem dX6_flight_99 : decode cX6_flight 99 = .ok (.aaload, 1) := by decide +kernel
theorem dX6_flight_100 : decode cX6_flight 100 = .ok (.iload_n 1, 1) := by decide +kernel
theorem dX6_flight_101 : decode cX6_flight 101 = .ok (.iload_n 2, 1) := by decide +kernel
theorem dX6_flight_102 : decode cX6_flight 102 = .ok (.iload_n 3, 1) := by decide +kernel
theorem dX6_flight_103 : decode cX6_flight 103 = .ok (.invokevirtual 107, 3) := by decide +kernel
theorem dX6_flight_106 : decode cX6_flight 106 = .ok (.aload_n 0, 1) := by decide +kernel
theorem dX6_flight_107 : decode cX6_flight 107 = .ok (.getfield 10, 3) := by decide +kernel
theorem dX6_flight_110 : decode cX6_flight 110 = .ok (.dup, 1) := by decide +kernel
theorem dX6_flight_111 : decode cX6_flight 111 = .ok (.getfield 100, 3) := by decide +kernel
theorem dX6_flight_114 : decode cX6_flight 114 = .ok (.iconst 1, 1) := by decide +kernel
theorem dX6_flight_115 : decode cX6_flight 115 = .ok (.iadd, 1) := by decide +kernel
theorem dX6_flight_116 : decode cX6_flight 116 = .ok (.putfield 100, 3) := by decide +kernel
theorem dX6_flight_119 : decode cX6_flight 119 = .ok (.iload 4, 2) := by decide +kernel
theorem dX6_flight_121 : decode cX6_flight 121 = .ok (.ireturn, 1) := by decide +kernel
theorem dX6_fall_0 : decode cX6_fall 0 = .ok (.aload_n 0, 1) := by decide +kernel
theorem dX6_fall_1 : decode cX6_fall 1 = .ok (.getfield 10, 3) := by decide +kernel
theorem dX6_fall_4 : decode cX6_fall 4 = .ok (.iload_n 1, 1) := by decide +kernel
theorem dX6_fall_5 : decode cX6_fall 5 = .ok (.invokevirtual 85, 3) := by decide +kernel
theorem dX6_fall_8 : decode cX6_fall 8 = .ok (.ifCond .ne 9, 3) := by decide +kernel
theorem dX6_fall_11 : decode cX6_fall 11 = .ok (.aload_n 0, 1) := by decide +kernel
theorem dX6_fall_12 : decode cX6_fall 12 = .ok (.iconst (-1), 1) := by decide +kernel
theorem dX6_fall_13 : decode cX6_fall 13 = .ok (.invokevirtual 38, 3) := by decide +kernel
theorem dX6_fall_16 : decode cX6_fall 16 = .ok (.ireturn, 1) := by decide +kernel
theorem dX6_fall_17 : decode cX6_fall 17 = .ok (.aload_n 0, 1) := by decide +kernel
theorem dX6_fall_18 : decode cX6_fall 18 = .ok (.getfield 10, 3) := by decide +kernel
theorem dX6_fall_21 : decode cX6_fall 21 = .ok (.getfield 72, 3) := by decide +kernel
theorem dX6_fall_24 : decode cX6_fall 24 = .ok (.iload_n 1, 1) := by decide +kernel
theorem dX6_fall_25 : decode cX6_fall 25 = .ok (.aaload, 1) := by decide +kernel
theorem dX6_fall_26 : decode cX6_fall 26 = .ok (.getfield 110, 3) := by decide +kernel
theorem dX6_fall_29 : decode cX6_fall 29 = .ok (.iload_n 2, 1) := by decide +kernel
theorem dX6_fall_30 : decode cX6_fall 30 = .ok (.if_icmp .ne 5, 3) := by decide +kernel
theorem dX6_fall_33 : decode cX6_fall 33 = .ok (.iconst 0, 1) := by decide +kernel
theorem dX6_fall_34 : decode cX6_fall 34 = .ok (.ireturn, 1) := by decide +kernel
theorem dX6_fall_35 : decode cX6_fall 35 = .ok (.aload_n 0, 1) := by decide +kernel
theorem dX6_fall_36 : decode cX6_fall 36 = .ok (.getfield 10, 3) := by decide +kernel
theorem dX6_fall_39 : decode cX6_fall 39 = .ok (.getfield 72, 3) := by decide +kernel
theorem dX6_fall_42 : decode cX6_fall 42 = .ok (.iload_n 1, 1) := by decide +kernel
theorem dX6_fall_43 : decode cX6_fall 43 = .ok (.aaload, 1) := by decide +kernel
theorem dX6_fall_44 : decode cX6_fall 44 = .ok (.iload_n 2, 1) := by decide +kernel
theorem dX6_fall_45 : decode cX6_fall 45 = .ok (.putfield 110, 3) := by decide +kernel
theorem dX6_fall_48 : decode cX6_fall 48 = .ok (.aload_n 0, 1) := by decide +kernel
theorem dX6_fall_49 : decode cX6_fall 49 = .ok (.getfield 19, 3) := by decide +kernel
theorem dX6_fall_52 : decode cX6_fall 52 = .ok (.aload_n 0, 1) := by decide +kernel
theorem dX6_fall_53 : decode cX6_fall 53 = .ok (.getfield 10, 3) := by decide +kernel
theorem dX6_fall_56 : decode cX6_fall 56 = .ok (.invokevirtual 55, 3) := by decide +kernel
theorem dX6_fall_59 : decode cX6_fall 59 = .ok (.iconst 1, 1) := by decide +kernel
theorem dX6_fall_60 : decode cX6_fall 60 = .ok (.ireturn, 1) := by decide +kernel
theorem dX6_bag_0 : decode cX6_bag 0 = .ok (.aload_n 0, 1) := by decide +kernel
theorem dX6_bag_1 : decode cX6_bag 1 = .ok (.getfield 10, 3) := by decide +kernel
theorem dX6_bag_4 : decode cX6_bag 4 = .ok (.iload_n 1, 1) := by decide +kernel
theorem dX6_bag_5 : decode cX6_bag 5 = .ok (.invokevirtual 59, 3) := by decide +kernel
theorem dX6_bag_8 : decode cX6_bag 8 = .ok (.ifCond .eq 14, 3) := by decide +kernel
theorem dX6_bag_11 : decode cX6_bag 11 = .ok (.aload_n 0, 1) := by decide +kernel
theorem dX6_bag_12 : decode cX6_bag 12 = .ok (.getfield 10, 3) := by decide +kernel
theorem dX6_bag_15 : decode cX6_bag 15 = .ok (.iload_n 2, 1) := by decide +kernel
theorem dX6_bag_16 : decode cX6_bag 16 = .ok (.invokevirtual 114, 3) := by decide +kernel
theorem dX6_bag_19 : decode cX6_bag 19 = .ok (.ifCond .ne 9, 3) := by decide +kernel
theorem dX6_bag_22 : decode cX6_bag 22 = .ok (.aload_n 0, 1) := by decide +kernel
theorem dX6_bag_23 : decode cX6_bag 23 = .ok (.iconst (-1), 1) := by decide +kernel
theorem dX6_bag_24 : decode cX6_bag 24 = .ok (.invokevirtual 38, 3) := by decide +kernel
theorem dX6_bag_27 : decode cX6_bag 27 = .ok (.ireturn, 1) := by decide +kernel
theorem dX6_bag_28 : decode cX6_bag 28 = .ok (.aload_n 0, 1) := by decide +kernel
theorem dX6_bag_29 : decode cX6_bag 29 = .ok (.getfield 10, 3) := by decide +kernel
theorem dX6_bag_32 : decode cX6_bag 32 = .ok (.getfield 45, 3) := by decide +kernel
theorem dX6_bag_35 : decode cX6_bag 35 = .ok (.iload_n 1, 1) := by decide +kernel
theorem dX6_bag_36 : decode cX6_bag 36 = .ok (.aaload, 1) := by decide +kernel
theorem dX6_bag_37 : decode cX6_bag 37 = .ok (.getfield 66, 3) := by decide +kernel
theorem dX6_bag_40 : decode cX6_bag 40 = .ok (.ifCond .eq 10, 3) := by decide +kernel
theorem dX6_bag_43 : decode cX6_bag 43 = .ok (.aload_n 0, 1) := by decide +kernel
theorem dX6_bag_44 : decode cX6_bag 44 = .ok (.bipush (-4), 2) := by decide +kernel
theorem dX6_bag_46 : decode cX6_bag 46 = .ok (.invokevirtual 38, 3) := by decide +kernel
theorem dX6_bag_49 : decode cX6_bag 49 = .ok (.ireturn, 1) := by decide +kernel
theorem dX6_bag_50 : decode cX6_bag 50 = .ok (.aload_n 0, 1) := by decide +kernel
theorem dX6_bag_51 : decode cX6_bag 51 = .ok (.getfield 10, 3) := by decide +kernel
theorem dX6_bag_54 : decode cX6_bag 54 = .ok (.getfield 117, 3) := by decide +kernel
theorem dX6_bag_57 : decode cX6_bag 57 = .ok (.bipush 60, 2) := by decide +kernel
theorem dX6_bag_59 : decode cX6_bag 59 = .ok (.if_icmp .lt 10, 3) := by decide +kernel
theorem dX6_bag_62 : decode cX6_bag 62 = .ok (.aload_n 0, 1) := by decide +kernel
theorem dX6_bag_63 : decode cX6_bag 63 = .ok (.bipush (-3), 2) := by decide +kernel
theorem dX6_bag_65 : decode cX6_bag 65 = .ok (.invokevirtual 38, 3) := by decide +kernel
theorem dX6_bag_68 : decode cX6_bag 68 = .ok (.ireturn, 1) := by decide +kernel
theorem dX6_bag_69 : decode cX6_bag 69 = .ok (.aload_n 0, 1) := by decide +kernel
theorem dX6_bag_70 : decode cX6_bag 70 = .ok (.getfield 10, 3) := by decide +kernel
theorem dX6_bag_73 : decode cX6_bag 73 = .ok (.getfield 117, 3) := by decide +kernel
theorem dX6_bag_76 : decode cX6_bag 76 = .ok (.istore 4, 2) := by decide +kernel
theorem dX6_bag_78 : decode cX6_bag 78 = .ok (.aload_n 0, 1) := by decide +kernel
theorem dX6_bag_79 : decode cX6_bag 79 = .ok (.getfield 10, 3) := by decide +kernel
theorem dX6_bag_82 : decode cX6_bag 82 = .ok (.getfield 120, 3) := by decide +kernel
theorem dX6_bag_85 : decode cX6_bag 85 = .ok (.iload 4, 2) := by decide +kernel
theorem dX6_bag_87 : decode cX6_bag 87 = .ok (.aaload, 1) := by decide +kernel
theorem dX6_bag_88 : decode cX6_bag 88 = .ok (.iload_n 2, 1) := by decide +kernel
theorem dX6_bag_89 : decode cX6_bag 89 = .ok (.invokevirtual 124, 3) := by decide +kernel
theorem dX6_bag_92 : decode cX6_bag 92 = .ok (.aload_n 0, 1) := by decide +kernel
theorem dX6_bag_93 : decode cX6_bag 93 = .ok (.getfield 10, 3) := by decide +kernel
theorem dX6_bag_96 : decode cX6_bag 96 = .ok (.dup, 1) := by decide +kernel
theorem dX6_bag_97 : decode cX6_bag 97 = .ok (.getfield 117, 3) := by decide +kernel
theorem dX6_bag_100 : decode cX6_bag 100 = .ok (.iconst 1, 1) := by decide +kernel
theorem dX6_bag_101 : decode cX6_bag 101 = .ok (.iadd, 1) := by decide +kernel
theorem dX6_bag_102 : decode cX6_bag 102 = .ok (.putfield 117, 3) := by decide +kernel
theorem dX6_bag_105 : decode cX6_bag 105 = .ok (.aload_n 0, 1) := by decide +kernel
theorem dX6_bag_106 : decode cX6_bag 106 = .ok (.getfield 10, 3) := by decide +kernel
theorem dX6_bag_109 : decode cX6_bag 109 = .ok (.iload 4, 2) := by decide +kernel
theorem dX6_bag_111 : decode cX6_bag 111 = .ok (.iload_n 1, 1) := by decide +kernel
theorem dX6_bag_112 : decode cX6_bag 112 = .ok (.iload_n 3, 1) := by decide +kernel
theorem dX6_bag_113 : decode cX6_bag 113 = .ok (.invokevirtual 128, 3) := by decide +kernel
theorem dX6_bag_116 : decode cX6_bag 116 = .ok (.iload 4, 2) := by decide +kernel
theorem dX6_bag_118 : decode cX6_bag 118 = .ok (.ireturn, 1) := by decide +kernel
theorem dX6_take_0 : decode cX6_take 0 = .ok (.aload_n 0, 1) := by decide +kernel
theorem dX6_take_1 : decode cX6_take 1 = .ok (.getfield 10, 3) := by decide +kernel
theorem dX6_take_4 : decode cX6_take 4 = .ok (.iload_n 1, 1) := by decide +kernel
theorem dX6_take_5 : decode cX6_take 5 = .ok (.invokevirtual 132, 3) := by decide +kernel
theorem dX6_take_8 : decode cX6_take 8 = .ok (.ifCond .ne 9, 3) := by decide +kernel
theorem dX6_take_11 : decode cX6_take 11 = .ok (.aload_n 0, 1) := by decide +kernel
theorem dX6_take_12 : decode cX6_take 12 = .ok (.iconst (-1), 1) := by decide +kernel
theorem dX6_take_13 : decode cX6_take 13 = .ok (.invokevirtual 38, 3) := by decide +kernel
theorem dX6_take_16 : decode cX6_take 16 = .ok (.ireturn, 1) := by decide +kernel
theorem dX6_take_17 : decode cX6_take 17 = .ok (.aload_n 0, 1) := by decide +kernel
theorem dX6_take_18 : decode cX6_take 18 = .ok (.getfield 10, 3) := by decide +kernel
theorem dX6_take_21 : decode cX6_take 21 = .ok (.getfield 120, 3) := by decide +kernel
theorem dX6_take_24 : decode cX6_take 24 = .ok (.iload_n 1, 1) := by decide +kernel
theorem dX6_take_25 : decode cX6_take 25 = .ok (.aaload, 1) := by decide +kernel
theorem dX6_take_26 : decode cX6_take 26 = .ok (.getfield 135, 3) := by decide +kernel
theorem dX6_take_29 : decode cX6_take 29 = .ok (.iconst 4, 1) := by decide +kernel
theorem dX6_take_30 : decode cX6_take 30 = .ok (.if_icmp .lt 10, 3) := by decide +kernel
theorem dX6_take_33 : decode cX6_take 33 = .ok (.aload_n 0, 1) := by decide +kernel
theorem dX6_take_34 : decode cX6_take 34 = .ok (.bipush (-6), 2) := by decide +kernel
theorem dX6_take_36 : decode cX6_take 36 = .ok (.invokevirtual 38, 3) := by decide +kernel
theorem dX6_take_39 : decode cX6_take 39 = .ok (.ireturn, 1) := by decide +kernel
theorem dX6_take_40 : decode cX6_take 40 = .ok (.aload_n 0, 1) := by decide +kernel
theorem dX6_take_41 : decode cX6_take 41 = .ok (.getfield 10, 3) := by decide +kernel
theorem dX6_take_44 : decode cX6_take 44 = .ok (.iload_n 1, 1) := by decide +kernel
theorem dX6_take_45 : decode cX6_take 45 = .ok (.invokevirtual 138, 3) := by decide +kernel
theorem dX6_take_48 : decode cX6_take 48 = .ok (.iconst 1, 1) := by decide +kernel
theorem dX6_take_49 : decode cX6_take 49 = .ok (.ireturn, 1) := by decide +kernel
theorem dX6_give_0 : decode cX6_give 0 = .ok (.aload_n 0, 1) := by decide +kernel
theorem dX6_give_1 : decode cX6_give 1 = .ok (.getfield 10, 3) := by decide +kernel
theorem dX6_give_4 : decode cX6_give 4 = .ok (.iload_n 1, 1) := by decide +kernel
theorem dX6_give_5 : decode cX6_give 5 = .ok (.invokevirtual 132, 3) := by decide +kernel
theorem dX6_give_8 : decode cX6_give 8 = .ok (.ifCond .eq 14, 3) := by decide +kernel
theorem dX6_give_11 : decode cX6_give 11 = .ok (.aload_n 0, 1) := by decide +kernel
theorem dX6_give_12 : decode cX6_give 12 = .ok (.getfield 10, 3) := by decide +kernel
theorem dX6_give_15 : decode cX6_give 15 = .ok (.iload_n 2, 1) := by decide +kernel
theorem dX6_give_16 : decode cX6_give 16 = .ok (.invokevirtual 59, 3) := by decide +kernel
theorem dX6_give_19 : decode cX6_give 19 = .ok (.ifCond .ne 9, 3) := by decide +kernel
theorem dX6_give_22 : decode cX6_give 22 = .ok (.aload_n 0, 1) := by decide +kernel
theorem dX6_give_23 : decode cX6_give 23 = .ok (.iconst (-1), 1) := by decide +kernel
theorem dX6_give_24 : decode cX6_give 24 = .ok (.invokevirtual 38, 3) := by decide +kernel
theorem dX6_give_27 : decode cX6_give 27 = .ok (.ireturn, 1) := by decide +kernel
theorem dX6_give_28 : decode cX6_give 28 = .ok (.aload_n 0, 1) := by decide +kernel
theorem dX6_give_29 : decode cX6_give 29 = .ok (.getfield 10, 3) := by decide +kernel
theorem dX6_give_32 : decode cX6_give 32 = .ok (.getfield 45, 3) := by decide +kernel
theorem dX6_give_35 : decode cX6_give 35 = .ok (.iload_n 2, 1) := by decide +kernel
theorem dX6_give_36 : decode cX6_give 36 = .ok (.aaload, 1) := by decide +kernel
theorem dX6_give_37 : decode cX6_give 37 = .ok (.getfield 66, 3) := by decide +kernel
theorem dX6_give_40 : decode cX6_give 40 = .ok (.ifCond .eq 10, 3) := by decide +kernel
theorem dX6_give_43 : decode cX6_give 43 = .ok (.aload_n 0, 1) := by decide +kernel
theorem dX6_give_44 : decode cX6_give 44 = .ok (.bipush (-4), 2) := by decide +kernel
theorem dX6_give_46 : decode cX6_give 46 = .ok (.invokevirtual 38, 3) := by decide +kernel
theorem dX6_give_49 : decode cX6_give 49 = .ok (.ireturn, 1) := by decide +kernel
theorem dX6_give_50 : decode cX6_give 50 = .ok (.aload_n 0, 1) := by decide +kernel
theorem dX6_give_51 : decode cX6_give 51 = .ok (.getfield 10, 3) := by decide +kernel
theorem dX6_give_54 : decode cX6_give 54 = .ok (.getfield 120, 3) := by decide +kernel
theorem dX6_give_57 : decode cX6_give 57 = .ok (.iload_n 1, 1) := by decide +kernel
theorem dX6_give_58 : decode cX6_give 58 = .ok (.aaload, 1) := by decide +kernel
theorem dX6_give_59 : decode cX6_give 59 = .ok (.getfield 135, 3) := by decide +kernel
theorem dX6_give_62 : decode cX6_give 62 = .ok (.iconst 4, 1) := by decide +kernel
theorem dX6_give_63 : decode cX6_give 63 = .ok (.if_icmp .eq 10, 3) := by decide +kernel
theorem dX6_give_66 : decode cX6_give 66 = .ok (.aload_n 0, 1) := by decide +kernel
theorem dX6_give_67 : decode cX6_give 67 = .ok (.bipush (-2), 2) := by decide +kernel
theorem dX6_give_69 : decode cX6_give 69 = .ok (.invokevirtual 38, 3) := by decide +kernel
theorem dX6_give_72 : decode cX6_give 72 = .ok (.ireturn, 1) := by decide +kernel
theorem dX6_give_73 : decode cX6_give 73 = .ok (.aload_n 0, 1) := by decide +kernel
theorem dX6_give_74 : decode cX6_give 74 = .ok (.getfield 10, 3) := by decide +kernel
theorem dX6_give_77 : decode cX6_give 77 = .ok (.iload_n 1, 1) := by decide +kernel
theorem dX6_give_78 : decode cX6_give 78 = .ok (.iload_n 2, 1) := by decide +kernel
theorem dX6_give_79 : decode cX6_give 79 = .ok (.iload_n 3, 1) := by decide +kernel
theorem dX6_give_80 : decode cX6_give 80 = .ok (.invokevirtual 128, 3) := by decide +kernel
theorem dX6_give_83 : decode cX6_give 83 = .ok (.aload_n 0, 1) := by decide +kernel
theorem dX6_give_84 : decode cX6_give 84 = .ok (.getfield 10, 3) := by decide +kernel
theorem dX6_give_87 : decode cX6_give 87 = .ok (.getfield 45, 3) := by decide +kernel
theorem dX6_give_90 : decode cX6_give 90 = .ok (.iload_n 2, 1) := by decide +kernel
theorem dX6_give_91 : decode cX6_give 91 = .ok (.aaload, 1) := by decide +kernel
theorem dX6_give_92 : decode cX6_give 92 = .ok (.getfield 141, 3) := by decide +kernel
theorem dX6_give_95 : decode cX6_give 95 = .ok (.ireturn, 1) := by decide +kernel
theorem dX6_where_0 : decode cX6_where 0 = .ok (.aload_n 0, 1) := by decide +kernel
theorem dX6_where_1 : decode cX6_where 1 = .ok (.getfield 10, 3) := by decide +kernel
theorem dX6_where_4 : decode cX6_where 4 = .ok (.iload_n 1, 1) := by decide +kernel
theorem dX6_where_5 : decode cX6_where 5 = .ok (.invokevirtual 132, 3) := by decide +kernel
theorem dX6_where_8 : decode cX6_where 8 = .ok (.ifCond .eq 18, 3) := by decide +kernel
theorem dX6_where_11 : decode cX6_where 11 = .ok (.aload_n 0, 1) := by decide +kernel
theorem dX6_where_12 : decode cX6_where 12 = .ok (.getfield 10, 3) := by decide +kernel
theorem dX6_where_15 : decode cX6_where 15 = .ok (.getfield 120, 3) := by decide +kernel
theorem dX6_where_18 : decode cX6_where 18 = .ok (.iload_n 1, 1) := by decide +kernel
theorem dX6_where_19 : decode cX6_where 19 = .ok (.aaload, 1) := by decide +kernel
theorem dX6_where_20 : decode cX6_where 20 = .ok (.getfield 135, 3) := by decide +kernel
theorem dX6_where_23 : decode cX6_where 23 = .ok (.goto 8, 3) := by decide +kernel
theorem dX6_where_26 : decode cX6_where 26 = .ok (.aload_n 0, 1) := by decide +kernel
theorem dX6_where_27 : decode cX6_where 27 = .ok (.iconst (-1), 1) := by decide +kernel
theorem dX6_where_28 : decode cX6_where 28 = .ok (.invokevirtual 38, 3) := by decide +kernel
theorem dX6_where_31 : decode cX6_where 31 = .ok (.ireturn, 1) := by decide +kernel
theorem dX6_place_0 : decode cX6_place 0 = .ok (.aload_n 0, 1) := by decide +kernel
theorem dX6_place_1 : decode cX6_place 1 = .ok (.getfield 10, 3) := by decide +kernel
theorem dX6_place_4 : decode cX6_place 4 = .ok (.iload_n 1, 1) := by decide +kernel
theorem dX6_place_5 : decode cX6_place 5 = .ok (.invokevirtual 132, 3) := by decide +kernel
theorem dX6_place_8 : decode cX6_place 8 = .ok (.ifCond .eq 18, 3) := by decide +kernel
theorem dX6_place_11 : decode cX6_place 11 = .ok (.aload_n 0, 1) := by decide +kernel
theorem dX6_place_12 : decode cX6_place 12 = .ok (.getfield 10, 3) := by decide +kernel
theorem dX6_place_15 : decode cX6_place 15 = .ok (.getfield 120, 3) := by decide +kernel
theorem dX6_place_18 : decode cX6_place 18 = .ok (.iload_n 1, 1) := by decide +kernel
theorem dX6_place_19 : decode cX6_place 19 = .ok (.aaload, 1) := by decide +kernel
theorem dX6_place_20 : decode cX6_place 20 = .ok (.getfield 144, 3) := by decide +kernel
theorem dX6_place_23 : decode cX6_place 23 = .ok (.goto 8, 3) := by decide +kernel
theorem dX6_place_26 : decode cX6_place 26 = .ok (.aload_n 0, 1) := by decide +kernel
theorem dX6_place_27 : decode cX6_place 27 = .ok (.iconst (-1), 1) := by decide +kernel
theorem dX6_place_28 : decode cX6_place 28 = .ok (.invokevirtual 38, 3) := by decide +kernel
theorem dX6_place_31 : decode cX6_place 31 = .ok (.ireturn, 1) := by decide +kernel
theorem dX6_detail_0 : decode cX6_detail 0 = .ok (.aload_n 0, 1) := by decide +kernel
theorem dX6_detail_1 : decode cX6_detail 1 = .ok (.getfield 10, 3) := by decide +kernel
theorem dX6_detail_4 : decode cX6_detail 4 = .ok (.iload_n 1, 1) := by decide +kernel
theorem dX6_detail_5 : decode cX6_detail 5 = .ok (.invokevirtual 132, 3) := by decide +kernel
theorem dX6_detail_8 : decode cX6_detail 8 = .ok (.ifCond .ne 9, 3) := by decide +kernel
theorem dX6_detail_11 : decode cX6_detail 11 = .ok (.aload_n 0, 1) := by decide +kernel
theorem dX6_detail_12 : decode cX6_detail 12 = .ok (.iconst (-1), 1) := by decide +kernel
theorem dX6_detail_13 : decode cX6_detail 13 = .ok (.invokevirtual 38, 3) := by decide +kernel
theorem dX6_detail_16 : decode cX6_detail 16 = .ok (.ireturn, 1) := by decide +kernel
theorem dX6_detail_17 : decode cX6_detail 17 = .ok (.aload_n 0, 1) := by decide +kernel
theorem dX6_detail_18 : decode cX6_detail 18 = .ok (.getfield 10, 3) := by decide +kernel
theorem dX6_detail_21 : decode cX6_detail 21 = .ok (.getfield 120, 3) := by decide +kernel
theorem dX6_detail_24 : decode cX6_detail 24 = .ok (.iload_n 1, 1) := by decide +kernel
theorem dX6_detail_25 : decode cX6_detail 25 = .ok (.aaload, 1) := by decide +kernel
theorem dX6_detail_26 : decode cX6_detail 26 = .ok (.astore_n 2, 1) := by decide +kernel
theorem dX6_detail_27 : decode cX6_detail 27 = .ok (.aload_n 2, 1) := by decide +kernel
theorem dX6_detail_28 : decode cX6_detail 28 = .ok (.getfield 135, 3) := by decide +kernel
theorem dX6_detail_31 : decode cX6_detail 31 = .ok (.iconst 4, 1) := by decide +kernel
theorem dX6_detail_32 : decode cX6_detail 32 = .ok (.if_icmp .ne 10, 3) := by decide +kernel
theorem dX6_detail_35 : decode cX6_detail 35 = .ok (.aload_n 0, 1) := by decide +kernel
theorem dX6_detail_36 : decode cX6_detail 36 = .ok (.bipush (-2), 2) := by decide +kernel
theorem dX6_detail_38 : decode cX6_detail 38 = .ok (.invokevirtual 38, 3) := by decide +kernel
theorem dX6_detail_41 : decode cX6_detail 41 = .ok (.ireturn, 1) := by decide +kernel
theorem dX6_detail_42 : decode cX6_detail 42 = .ok (.aload_n 2, 1) := by decide +kernel
theorem dX6_detail_43 : decode cX6_detail 43 = .ok (.getfield 135, 3) := by decide +kernel
theorem dX6_detail_46 : decode cX6_detail 46 = .ok (.iconst 1, 1) := by decide +kernel
theorem dX6_detail_47 : decode cX6_detail 47 = .ok (.if_icmp .ne 34, 3) := by decide +kernel
theorem dX6_detail_50 : decode cX6_detail 50 = .ok (.aload_n 0, 1) := by decide +kernel
theorem dX6_detail_51 : decode cX6_detail 51 = .ok (.getfield 10, 3) := by decide +kernel
theorem dX6_detail_54 : decode cX6_detail 54 = .ok (.aload_n 2, 1) := by decide +kernel
theorem dX6_detail_55 : decode cX6_detail 55 = .ok (.getfield 144, 3) := by decide +kernel
theorem dX6_detail_58 : decode cX6_detail 58 = .ok (.invokevirtual 85, 3) := by decide +kernel
theorem dX6_detail_61 : decode cX6_detail 61 = .ok (.ifCond .eq 20, 3) := by decide +kernel
theorem dX6_detail_64 : decode cX6_detail 64 = .ok (.aload_n 0, 1) := by decide +kernel
theorem dX6_detail_65 : decode cX6_detail 65 = .ok (.getfield 10, 3) := by decide +kernel
theorem dX6_detail_68 : decode cX6_detail 68 = .ok (.getfield 72, 3) := by decide +kernel
theorem dX6_detail_71 : decode cX6_detail 71 = .ok (.aload_n 2, 1) := by decide +kernel
theorem dX6_detail_72 : decode cX6_detail 72 = .ok (.getfield 144, 3) := by decide +kernel
theorem dX6_detail_75 : decode cX6_detail 75 = .ok (.aaload, 1) := by decide +kernel
theorem dX6_detail_76 : decode cX6_detail 76 = .ok (.iload_n 1, 1) := by decide +kernel
theorem dX6_detail_77 : decode cX6_detail 77 = .ok (.invokevirtual 147, 3) := by decide +kernel
theorem dX6_detail_80 : decode cX6_detail 80 = .ok (.ireturn, 1) := by decide +kernel
theorem dX6_detail_81 : decode cX6_detail 81 = .ok (.aload_n 2, 1) := by decide +kernel
theorem dX6_detail_82 : decode cX6_detail 82 = .ok (.getfield 135, 3) := by decide +kernel
theorem dX6_detail_85 : decode cX6_detail 85 = .ok (.ifCond .ne 34, 3) := by decide +kernel
theorem dX6_detail_88 : decode cX6_detail 88 = .ok (.aload_n 0, 1) := by decide +kernel
theorem dX6_detail_89 : decode cX6_detail 89 = .ok (.getfield 10, 3) := by decide +kernel
theorem dX6_detail_92 : decode cX6_detail 92 = .ok (.aload_n 2, 1) := by decide +kernel
theorem dX6_detail_93 : decode cX6_detail 93 = .ok (.getfield 144, 3) := by decide +kernel
theorem dX6_detail_96 : decode cX6_detail 96 = .ok (.invokevirtual 59, 3) := by decide +kernel
theorem dX6_detail_99 : decode cX6_detail 99 = .ok (.ifCond .eq 20, 3) := by decide +kernel
theorem dX6_detail_102 : decode cX6_detail 102 = .ok (.aload_n 0, 1) := by decide +kernel
theorem dX6_detail_103 : decode cX6_detail 103 = .ok (.getfield 10, 3) := by decide +kernel
theorem dX6_detail_106 : decode cX6_detail 106 = .ok (.getfield 45, 3) := by decide +kernel
theorem dX6_detail_109 : decode cX6_detail 109 = .ok (.aload_n 2, 1) := by decide +kernel
theorem dX6_detail_110 : decode cX6_detail 110 = .ok (.getfield 144, 3) := by decide +kernel
theorem dX6_detail_113 : decode cX6_detail 113 = .ok (.aaload, 1) := by decide +kernel
theorem dX6_detail_114 : decode cX6_detail 114 = .ok (.iload_n 1, 1) := by decide +kernel
theorem dX6_detail_115 : decode cX6_detail 115 = .ok (.invokevirtual 150, 3) := by decide +kernel
theorem dX6_detail_118 : decode cX6_detail 118 = .ok (.ireturn, 1) := by decide +kernel
theorem dX6_detail_119 : decode cX6_detail 119 = .ok (.aload_n 2, 1) := by decide +kernel
theorem dX6_detail_120 : decode cX6_detail 120 = .ok (.getfield 153, 3) := by decide +kernel
theorem dX6_detail_123 : decode cX6_detail 123 = .ok (.ireturn, 1) := by decide +kernel
theorem dX6_steps_0 : decode cX6_steps 0 = .ok (.aload_n 0, 1) := by decide +kernel
theorem dX6_steps_1 : decode cX6_steps 1 = .ok (.getfield 10, 3) := by decide +kernel
theorem dX6_steps_4 : decode cX6_steps 4 = .ok (.iload_n 1, 1) := by decide +kernel
theorem dX6_steps_5 : decode cX6_steps 5 = .ok (.invokevirtual 132, 3) := by decide +kernel
theorem dX6_steps_8 : decode cX6_steps 8 = .ok (.ifCond .eq 18, 3) := by decide +kernel
theorem dX6_steps_11 : decode cX6_steps 11 = .ok (.aload_n 0, 1) := by decide +kernel
theorem dX6_steps_12 : decode cX6_steps 12 = .ok (.getfield 10, 3) := by decide +kernel
theorem dX6_steps_15 : decode cX6_steps 15 = .ok (.getfield 120, 3) := by decide +kernel
theorem dX6_steps_18 : decode cX6_steps 18 = .ok (.iload_n 1, 1) := by decide +kernel
theorem dX6_steps_19 : decode cX6_steps 19 = .ok (.aaload, 1) := by decide +kernel
theorem dX6_steps_20 : decode cX6_steps 20 = .ok (.getfield 156, 3) := by decide +kernel
theorem dX6_steps_23 : decode cX6_steps 23 = .ok (.goto 8, 3) := by decide +kernel
theorem dX6_steps_26 : decode cX6_steps 26 = .ok (.aload_n 0, 1) := by decide +kernel
theorem dX6_steps_27 : decode cX6_steps 27 = .ok (.iconst (-1), 1) := by decide +kernel
theorem dX6_steps_28 : decode cX6_steps 28 = .ok (.invokevirtual 38, 3) := by decide +kernel
theorem dX6_steps_31 : decode cX6_steps 31 = .ok (.ireturn, 1) := by decide +kernel
theorem dX6_step_0 : decode cX6_step 0 = .ok (.aload_n 0, 1) := by decide +kernel
theorem dX6_step_1 : decode cX6_step 1 = .ok (.getfield 10, 3) := by decide +kernel
theorem dX6_step_4 : decode cX6_step 4 = .ok (.iload_n 1, 1) := by decide +kernel
theorem dX6_step_5 : decode cX6_step 5 = .ok (.invokevirtual 132, 3) := by decide +kernel
theorem dX6_step_8 : decode cX6_step 8 = .ok (.ifCond .eq 19, 3) := by decide +kernel
theorem dX6_step_11 : decode cX6_step 11 = .ok (.aload_n 0, 1) := by decide +kernel
theorem dX6_step_12 : decode cX6_step 12 = .ok (.getfield 10, 3) := by decide +kernel
theorem dX6_step_15 : decode cX6_step 15 = .ok (.getfield 120, 3) := by decide +kernel
theorem dX6_step_18 : decode cX6_step 18 = .ok (.iload_n 1, 1) := by decide +kernel
theorem dX6_step_19 : decode cX6_step 19 = .ok (.aaload, 1) := by decide +kernel
theorem dX6_step_20 : decode cX6_step 20 = .ok (.iload_n 2, 1) := by decide +kernel
theorem dX6_step_21 : decode cX6_step 21 = .ok (.invokevirtual 159, 3) := by decide +kernel
theorem dX6_step_24 : decode cX6_step 24 = .ok (.ifCond .ne 9, 3) := by decide +kernel
theorem dX6_step_27 : decode cX6_step 27 = .ok (.aload_n 0, 1) := by decide +kernel
theorem dX6_step_28 : decode cX6_step 28 = .ok (.iconst (-1), 1) := by decide +kernel
theorem dX6_step_29 : decode cX6_step 29 = .ok (.invokevirtual 38, 3) := by decide +kernel
theorem dX6_step_32 : decode cX6_step 32 = .ok (.ireturn, 1) := by decide +kernel
theorem dX6_step_33 : decode cX6_step 33 = .ok (.iload_n 3, 1) := by decide +kernel
theorem dX6_step_34 : decode cX6_step 34 = .ok (.ifCond .eq 19, 3) := by decide +kernel
theorem dX6_step_37 : decode cX6_step 37 = .ok (.aload_n 0, 1) := by decide +kernel
theorem dX6_step_38 : decode cX6_step 38 = .ok (.getfield 10, 3) := by decide +kernel
theorem dX6_step_41 : decode cX6_step 41 = .ok (.getfield 120, 3) := by decide +kernel
theorem dX6_step_44 : decode cX6_step 44 = .ok (.iload_n 1, 1) := by decide +kernel
theorem dX6_step_45 : decode cX6_step 45 = .ok (.aaload, 1) := by decide +kernel
theorem dX6_step_46 : decode cX6_step 46 = .ok (.iload_n 2, 1) := by decide +kernel
theorem dX6_step_47 : decode cX6_step 47 = .ok (.invokevirtual 162, 3) := by decide +kernel
theorem dX6_step_50 : decode cX6_step 50 = .ok (.goto 16, 3) := by decide +kernel
theorem dX6_step_53 : decode cX6_step 53 = .ok (.aload_n 0, 1) := by decide +kernel
theorem dX6_step_54 : decode cX6_step 54 = .ok (.getfield 10, 3) := by decide +kernel
theorem dX6_step_57 : decode cX6_step 57 = .ok (.getfield 120, 3) := by decide +kernel
theorem dX6_step_60 : decode cX6_step 60 = .ok (.iload_n 1, 1) := by decide +kernel
theorem dX6_step_61 : decode cX6_step 61 = .ok (.aaload, 1) := by decide +kernel
theorem dX6_step_62 : decode cX6_step 62 = .ok (.iload_n 2, 1) := by decide +kernel
theorem dX6_step_63 : decode cX6_step 63 = .ok (.invokevirtual 165, 3) := by decide +kernel
theorem dX6_step_66 : decode cX6_step 66 = .ok (.ireturn, 1) := by decide +kernel
theorem dX6_tick_0 : decode cX6_tick 0 = .ok (.iload_n 1, 1) := by decide +kernel
theorem dX6_tick_1 : decode cX6_tick 1 = .ok (.iconst 1, 1) := by decide +kernel
theorem dX6_tick_2 : decode cX6_tick 2 = .ok (.bipush 100, 2) := by decide +kernel
theorem dX6_tick_4 : decode cX6_tick 4 = .ok (.invokestatic 62, 3) := by decide +kernel
theorem dX6_tick_7 : decode cX6_tick 7 = .ok (.ifCond .ne 9, 3) := by decide +kernel
theorem dX6_tick_10 : decode cX6_tick 10 = .ok (.aload_n 0, 1) := by decide +kernel
theorem dX6_tick_11 : decode cX6_tick 11 = .ok (.iconst (-1), 1) := by decide +kernel
theorem dX6_tick_12 : decode cX6_tick 12 = .ok (.invokevirtual 38, 3) := by decide +kernel
theorem dX6_tick_15 : decode cX6_tick 15 = .ok (.ireturn, 1) := by decide +kernel
theorem dX6_tick_16 : decode cX6_tick 16 = .ok (.iconst 0, 1) := by decide +kernel
theorem dX6_tick_17 : decode cX6_tick 17 = .ok (.istore_n 2, 1) := by decide +kernel
theorem dX6_tick_18 : decode cX6_tick 18 = .ok (.iload_n 2, 1) := by decide +kernel
theorem dX6_tick_19 : decode cX6_tick 19 = .ok (.iload_n 1, 1) := by decide +kernel
theorem dX6_tick_20 : decode cX6_tick 20 = .ok (.if_icmp .ge 13, 3) := by decide +kernel
theorem dX6_tick_23 : decode cX6_tick 23 = .ok (.aload_n 0, 1) := by decide +kernel
theorem dX6_tick_24 : decode cX6_tick 24 = .ok (.invokevirtual 168, 3) := by decide +kernel
theorem dX6_tick_27 : decode cX6_tick 27 = .ok (.iinc 2 1, 3) := by decide +kernel
theorem dX6_tick_30 : decode cX6_tick 30 = .ok (.goto (-12), 3) := by decide +kernel
theorem dX6_tick_33 : decode cX6_tick 33 = .ok (.aload_n 0, 1) := by decide +kernel
theorem dX6_tick_34 : decode cX6_tick 34 = .ok (.getfield 10, 3) := by decide +kernel
theorem dX6_tick_37 : decode cX6_tick 37 = .ok (.getfield 171, 3) := by decide +kernel
theorem dX6_tick_40 : decode cX6_tick 40 = .ok (.ireturn, 1) := by decide +kernel
theorem dX6_cell_0 : decode cX6_cell 0 = .ok (.aload_n 0, 1) := by decide +kernel
theorem dX6_cell_1 : decode cX6_cell 1 = .ok (.getfield 10, 3) := by decide +kernel
theorem dX6_cell_4 : decode cX6_cell 4 = .ok (.iload_n 1, 1) := by decide +kernel
theorem dX6_cell_5 : decode cX6_cell 5 = .ok (.invokevirtual 85, 3) := by decide +kernel
theorem dX6_cell_8 : decode cX6_cell 8 = .ok (.ifCond .eq 25, 3) := by decide +kernel
theorem dX6_cell_11 : decode cX6_cell 11 = .ok (.iload_n 2, 1) := by decide +kernel
theorem dX6_cell_12 : decode cX6_cell 12 = .ok (.iconst 0, 1) := by decide +kernel
theorem dX6_cell_13 : decode cX6_cell 13 = .ok (.aload_n 0, 1) := by decide +kernel
theorem dX6_cell_14 : decode cX6_cell 14 = .ok (.getfield 10, 3) := by decide +kernel
theorem dX6_cell_17 : decode cX6_cell 17 = .ok (.getfield 72, 3) := by decide +kernel
theorem dX6_cell_20 : decode cX6_cell 20 = .ok (.iload_n 1, 1) := by decide +kernel
theorem dX6_cell_21 : decode cX6_cell 21 = .ok (.aaload, 1) := by decide +kernel
theorem dX6_cell_22 : decode cX6_cell 22 = .ok (.getfield 174, 3) := by decide +kernel
theorem dX6_cell_25 : decode cX6_cell 25 = .ok (.iconst 1, 1) := by decide +kernel
theorem dX6_cell_26 : decode cX6_cell 26 = .ok (.isub, 1) := by decide +kernel
theorem dX6_cell_27 : decode cX6_cell 27 = .ok (.invokestatic 62, 3) := by decide +kernel
theorem dX6_cell_30 : decode cX6_cell 30 = .ok (.ifCond .ne 9, 3) := by decide +kernel
theorem dX6_cell_33 : decode cX6_cell 33 = .ok (.aload_n 0, 1) := by decide +kernel
theorem dX6_cell_34 : decode cX6_cell 34 = .ok (.iconst (-1), 1) := by decide +kernel
theorem dX6_cell_35 : decode cX6_cell 35 = .ok (.invokevirtual 38, 3) := by decide +kernel
theorem dX6_cell_38 : decode cX6_cell 38 = .ok (.ireturn, 1) := by decide +kernel
theorem dX6_cell_39 : decode cX6_cell 39 = .ok (.aload_n 0, 1) := by decide +kernel
theorem dX6_cell_40 : decode cX6_cell 40 = .ok (.getfield 10, 3) := by decide +kernel
theorem dX6_cell_43 : decode cX6_cell 43 = .ok (.getfield 72, 3) := by decide +kernel
theorem dX6_cell_46 : decode cX6_cell 46 = .ok (.iload_n 1, 1) := by decide +kernel
theorem dX6_cell_47 : decode cX6_cell 47 = .ok (.aaload, 1) := by decide +kernel
theorem dX6_cell_48 : decode cX6_cell 48 = .ok (.getfield 177, 3) := by decide +kernel
theorem dX6_cell_51 : decode cX6_cell 51 = .ok (.iload_n 2, 1) := by decide +kernel
theorem dX6_cell_52 : decode cX6_cell 52 = .ok (.iaload, 1) := by decide +kernel
theorem dX6_cell_53 : decode cX6_cell 53 = .ok (.istore_n 3, 1) := by decide +kernel
theorem dX6_cell_54 : decode cX6_cell 54 = .ok (.iload_n 3, 1) := by decide +kernel
theorem dX6_cell_55 : decode cX6_cell 55 = .ok (.iconst (-1), 1) := by decide +kernel
theorem dX6_cell_56 : decode cX6_cell 56 = .ok (.if_icmp .ne 12, 3) := by decide +kernel
theorem dX6_cell_59 : decode cX6_cell 59 = .ok (.aload_n 0, 1) := by decide +kernel
theorem dX6_cell_60 : decode cX6_cell 60 = .ok (.bipush (-2), 2) := by decide +kernel
theorem dX6_cell_62 : decode cX6_cell 62 = .ok (.invokevirtual 38, 3) := by decide +kernel
theorem dX6_cell_65 : decode cX6_cell 65 = .ok (.goto 4, 3) := by decide +kernel
theorem dX6_cell_68 : decode cX6_cell 68 = .ok (.iload_n 3, 1) := by decide +kernel
theorem dX6_cell_69 : decode cX6_cell 69 = .ok (.ireturn, 1) := by decide +kernel
theorem dX6_holds_0 : decode cX6_holds 0 = .ok (.aload_n 0, 1) := by decide +kernel
theorem dX6_holds_1 : decode cX6_holds 1 = .ok (.getfield 10, 3) := by decide +kernel
theorem dX6_holds_4 : decode cX6_holds 4 = .ok (.iload_n 1, 1) := by decide +kernel
theorem dX6_holds_5 : decode cX6_holds 5 = .ok (.invokevirtual 59, 3) := by decide +kernel
theorem dX6_holds_8 : decode cX6_holds 8 = .ok (.ifCond .ne 9, 3) := by decide +kernel
theorem dX6_holds_11 : decode cX6_holds 11 = .ok (.aload_n 0, 1) := by decide +kernel
theorem dX6_holds_12 : decode cX6_holds 12 = .ok (.iconst (-1), 1) := by decide +kernel
theorem dX6_holds_13 : decode cX6_holds 13 = .ok (.invokevirtual 38, 3) := by decide +kernel
theorem dX6_holds_16 : decode cX6_holds 16 = .ok (.ireturn, 1) := by decide +kernel
theorem dX6_holds_17 : decode cX6_holds 17 = .ok (.aload_n 0, 1) := by decide +kernel
theorem dX6_holds_18 : decode cX6_holds 18 = .ok (.getfield 10, 3) := by decide +kernel
theorem dX6_holds_21 : decode cX6_holds 21 = .ok (.getfield 45, 3) := by decide +kernel
theorem dX6_holds_24 : decode cX6_holds 24 = .ok (.iload_n 1, 1) := by decide +kernel
theorem dX6_holds_25 : decode cX6_holds 25 = .ok (.aaload, 1) := by decide +kernel
theorem dX6_holds_26 : decode cX6_holds 26 = .ok (.astore_n 2, 1) := by decide +kernel
theorem dX6_holds_27 : decode cX6_holds 27 = .ok (.aload_n 2, 1) := by decide +kernel
theorem dX6_holds_28 : decode cX6_holds 28 = .ok (.getfield 66, 3) := by decide +kernel
theorem dX6_holds_31 : decode cX6_holds 31 = .ok (.iconst 1, 1) := by decide +kernel
theorem dX6_holds_32 : decode cX6_holds 32 = .ok (.if_icmp .eq 26, 3) := by decide +kernel
theorem dX6_holds_35 : decode cX6_holds 35 = .ok (.aload_n 2, 1) := by decide +kernel
theorem dX6_holds_36 : decode cX6_holds 36 = .ok (.getfield 66, 3) := by decide +kernel
theorem dX6_holds_39 : decode cX6_holds 39 = .ok (.iconst 2, 1) := by decide +kernel
theorem dX6_holds_40 : decode cX6_holds 40 = .ok (.if_icmp .eq 18, 3) := by decide +kernel
theorem dX6_holds_43 : decode cX6_holds 43 = .ok (.aload_n 2, 1) := by decide +kernel
theorem dX6_holds_44 : decode cX6_holds 44 = .ok (.getfield 66, 3) := by decide +kernel
theorem dX6_holds_47 : decode cX6_holds 47 = .ok (.iconst 3, 1) := by decide +kernel
theorem dX6_holds_48 : decode cX6_holds 48 = .ok (.if_icmp .eq 10, 3) := by decide +kernel
theorem dX6_holds_51 : decode cX6_holds 51 = .ok (.aload_n 0, 1) := by decide +kernel
theorem dX6_holds_52 : decode cX6_holds 52 = .ok (.bipush (-4), 2) := by decide +kernel
theorem dX6_holds_54 : decode cX6_holds 54 = .ok (.invokevirtual 38, 3) := by decide +kernel
theorem dX6_holds_57 : decode cX6_holds 57 = .ok (.ireturn, 1) := by decide +kernel
theorem dX6_holds_58 : decode cX6_holds 58 = .ok (.aload_n 2, 1) := by decide +kernel
theorem dX6_holds_59 : decode cX6_holds 59 = .ok (.invokevirtual 181, 3) := by decide +kernel
theorem dX6_holds_62 : decode cX6_holds 62 = .ok (.istore_n 3, 1) := by decide +kernel
theorem dX6_holds_63 : decode cX6_holds 63 = .ok (.iload_n 3, 1) := by decide +kernel
theorem dX6_holds_64 : decode cX6_holds 64 = .ok (.iconst (-1), 1) := by decide +kernel
theorem dX6_holds_65 : decode cX6_holds 65 = .ok (.if_icmp .ne 12, 3) := by decide +kernel
theorem dX6_holds_68 : decode cX6_holds 68 = .ok (.aload_n 0, 1) := by decide +kernel
theorem dX6_holds_69 : decode cX6_holds 69 = .ok (.bipush (-2), 2) := by decide +kernel
theorem dX6_holds_71 : decode cX6_holds 71 = .ok (.invokevirtual 38, 3) := by decide +kernel
theorem dX6_holds_74 : decode cX6_holds 74 = .ok (.goto 4, 3) := by decide +kernel
theorem dX6_holds_77 : decode cX6_holds 77 = .ok (.iload_n 3, 1) := by decide +kernel
theorem dX6_holds_78 : decode cX6_holds 78 = .ok (.ireturn, 1) := by decide +kernel
theorem dX6_list_0 : decode cX6_list 0 = .ok (.aload_n 0, 1) := by decide +kernel
theorem dX6_list_1 : decode cX6_list 1 = .ok (.getfield 10, 3) := by decide +kernel
theorem dX6_list_4 : decode cX6_list 4 = .ok (.iload_n 1, 1) := by decide +kernel
theorem dX6_list_5 : decode cX6_list 5 = .ok (.invokevirtual 59, 3) := by decide +kernel
theorem dX6_list_8 : decode cX6_list 8 = .ok (.ifCond .ne 9, 3) := by decide +kernel
theorem dX6_list_11 : decode cX6_list 11 = .ok (.aload_n 0, 1) := by decide +kernel
theorem dX6_list_12 : decode cX6_list 12 = .ok (.iconst (-1), 1) := by decide +kernel
theorem dX6_list_13 : decode cX6_list 13 = .ok (.invokevirtual 38, 3) := by decide +kernel
theorem dX6_list_16 : decode cX6_list 16 = .ok (.ireturn, 1) := by decide +kernel
theorem dX6_list_17 : decode cX6_list 17 = .ok (.aload_n 0, 1) := by decide +kernel
theorem dX6_list_18 : decode cX6_list 18 = .ok (.getfield 10, 3) := by decide +kernel
theorem dX6_list_21 : decode cX6_list 21 = .ok (.getfield 45, 3) := by decide +kernel
theorem dX6_list_24 : decode cX6_list 24 = .ok (.iload_n 1, 1) := by decide +kernel
theorem dX6_list_25 : decode cX6_list 25 = .ok (.aaload, 1) := by decide +kernel
theorem dX6_list_26 : decode cX6_list 26 = .ok (.astore_n 3, 1) := by decide +kernel
theorem dX6_list_27 : decode cX6_list 27 = .ok (.aload_n 3, 1) := by decide +kernel
theorem dX6_list_28 : decode cX6_list 28 = .ok (.getfield 66, 3) := by decide +kernel
theorem dX6_list_31 : decode cX6_list 31 = .ok (.ifCond .eq 18, 3) := by decide +kernel
theorem dX6_list_34 : decode cX6_list 34 = .ok (.aload_n 3, 1) := by decide +kernel
theorem dX6_list_35 : decode cX6_list 35 = .ok (.getfield 66, 3) := by decide +kernel
theorem dX6_list_38 : decode cX6_list 38 = .ok (.iconst 4, 1) := by decide +kernel
theorem dX6_list_39 : decode cX6_list 39 = .ok (.if_icmp .eq 10, 3) := by decide +kernel
theorem dX6_list_42 : decode cX6_list 42 = .ok (.aload_n 0, 1) := by decide +kernel
theorem dX6_list_43 : decode cX6_list 43 = .ok (.bipush (-4), 2) := by decide +kernel
theorem dX6_list_45 : decode cX6_list 45 = .ok (.invokevirtual 38, 3) := by decide +kernel
theorem dX6_list_48 : decode cX6_list 48 = .ok (.ireturn, 1) := by decide +kernel
theorem dX6_list_49 : decode cX6_list 49 = .ok (.iload_n 2, 1) := by decide +kernel
theorem dX6_list_50 : decode cX6_list 50 = .ok (.iconst (-1), 1) := by decide +kernel
theorem dX6_list_51 : decode cX6_list 51 = .ok (.if_icmp .ne 8, 3) := by decide +kernel
theorem dX6_list_54 : decode cX6_list 54 = .ok (.aload_n 3, 1) := by decide +kernel
theorem dX6_list_55 : decode cX6_list 55 = .ok (.getfield 141, 3) := by decide +kernel
theorem dX6_list_58 : decode cX6_list 58 = .ok (.ireturn, 1) := by decide +kernel
theorem dX6_list_59 : decode cX6_list 59 = .ok (.iload_n 2, 1) := by decide +kernel
theorem dX6_list_60 : decode cX6_list 60 = .ok (.iconst 0, 1) := by decide +kernel
theorem dX6_list_61 : decode cX6_list 61 = .ok (.aload_n 3, 1) := by decide +kernel
theorem dX6_list_62 : decode cX6_list 62 = .ok (.getfield 141, 3) := by decide +kernel
theorem dX6_list_65 : decode cX6_list 65 = .ok (.iconst 1, 1) := by decide +kernel
theorem dX6_list_66 : decode cX6_list 66 = .ok (.isub, 1) := by decide +kernel
theorem dX6_list_67 : decode cX6_list 67 = .ok (.invokestatic 62, 3) := by decide +kernel
theorem dX6_list_70 : decode cX6_list 70 = .ok (.ifCond .eq 12, 3) := by decide +kernel
theorem dX6_list_73 : decode cX6_list 73 = .ok (.aload_n 3, 1) := by decide +kernel
theorem dX6_list_74 : decode cX6_list 74 = .ok (.getfield 185, 3) := by decide +kernel
theorem dX6_list_77 : decode cX6_list 77 = .ok (.iload_n 2, 1) := by decide +kernel
theorem dX6_list_78 : decode cX6_list 78 = .ok (.iaload, 1) := by decide +kernel
theorem dX6_list_79 : decode cX6_list 79 = .ok (.goto 9, 3) := by decide +kernel
theorem dX6_list_82 : decode cX6_list 82 = .ok (.aload_n 0, 1) := by decide +kernel
theorem dX6_list_83 : decode cX6_list 83 = .ok (.bipush (-2), 2) := by decide +kernel
theorem dX6_list_85 : decode cX6_list 85 = .ok (.invokevirtual 38, 3) := by decide +kernel
theorem dX6_list_88 : decode cX6_list 88 = .ok (.ireturn, 1) := by decide +kernel
theorem dX6_far_0 : decode cX6_far 0 = .ok (.aload_n 0, 1) := by decide +kernel
theorem dX6_far_1 : decode cX6_far 1 = .ok (.getfield 10, 3) := by decide +kernel
theorem dX6_far_4 : decode cX6_far 4 = .ok (.iload_n 1, 1) := by decide +kernel
theorem dX6_far_5 : decode cX6_far 5 = .ok (.invokevirtual 59, 3) := by decide +kernel
theorem dX6_far_8 : decode cX6_far 8 = .ok (.ifCond .eq 14, 3) := by decide +kernel
theorem dX6_far_11 : decode cX6_far 11 = .ok (.aload_n 0, 1) := by decide +kernel
theorem dX6_far_12 : decode cX6_far 12 = .ok (.getfield 10, 3) := by decide +kernel
theorem dX6_far_15 : decode cX6_far 15 = .ok (.iload_n 2, 1) := by decide +kernel
theorem dX6_far_16 : decode cX6_far 16 = .ok (.invokevirtual 59, 3) := by decide +kernel
theorem dX6_far_19 : decode cX6_far 19 = .ok (.ifCond .ne 9, 3) := by decide +kernel
theorem dX6_far_22 : decode cX6_far 22 = .ok (.aload_n 0, 1) := by decide +kernel
theorem dX6_far_23 : decode cX6_far 23 = .ok (.iconst (-1), 1) := by decide +kernel
theorem dX6_far_24 : decode cX6_far 24 = .ok (.invokevirtual 38, 3) := by decide +kernel
theorem dX6_far_27 : decode cX6_far 27 = .ok (.ireturn, 1) := by decide +kernel
theorem dX6_far_28 : decode cX6_far 28 = .ok (.aload_n 0, 1) := by decide +kernel
theorem dX6_far_29 : decode cX6_far 29 = .ok (.getfield 10, 3) := by decide +kernel
theorem dX6_far_32 : decode cX6_far 32 = .ok (.getfield 45, 3) := by decide +kernel
theorem dX6_far_35 : decode cX6_far 35 = .ok (.iload_n 2, 1) := by decide +kernel
theorem dX6_far_36 : decode cX6_far 36 = .ok (.aaload, 1) := by decide +kernel
theorem dX6_far_37 : decode cX6_far 37 = .ok (.getfield 66, 3) := by decide +kernel
theorem dX6_far_40 : decode cX6_far 40 = .ok (.iconst 5, 1) := by decide +kernel
theorem dX6_far_41 : decode cX6_far 41 = .ok (.if_icmp .eq 10, 3) := by decide +kernel
theorem dX6_far_44 : decode cX6_far 44 = .ok (.aload_n 0, 1) := by decide +kernel
theorem dX6_far_45 : decode cX6_far 45 = .ok (.bipush (-4), 2) := by decide +kernel
theorem dX6_far_47 : decode cX6_far 47 = .ok (.invokevirtual 38, 3) := by decide +kernel
theorem dX6_far_50 : decode cX6_far 50 = .ok (.ireturn, 1) := by decide +kernel
theorem dX6_far_51 : decode cX6_far 51 = .ok (.aload_n 0, 1) := by decide +kernel
theorem dX6_far_52 : decode cX6_far 52 = .ok (.getfield 19, 3) := by decide +kernel
theorem dX6_far_55 : decode cX6_far 55 = .ok (.getfield 188, 3) := by decide +kernel
theorem dX6_far_58 : decode cX6_far 58 = .ok (.iload_n 2, 1) := by decide +kernel
theorem dX6_far_59 : decode cX6_far 59 = .ok (.aaload, 1) := by decide +kernel
theorem dX6_far_60 : decode cX6_far 60 = .ok (.iload_n 1, 1) := by decide +kernel
theorem dX6_far_61 : decode cX6_far 61 = .ok (.iaload, 1) := by decide +kernel
theorem dX6_far_62 : decode cX6_far 62 = .ok (.istore_n 3, 1) := by decide +kernel
theorem dX6_far_63 : decode cX6_far 63 = .ok (.iload_n 3, 1) := by decide +kernel
theorem dX6_far_64 : decode cX6_far 64 = .ok (.iconst (-1), 1) := by decide +kernel
theorem dX6_far_65 : decode cX6_far 65 = .ok (.if_icmp .ne 12, 3) := by decide +kernel
theorem dX6_far_68 : decode cX6_far 68 = .ok (.aload_n 0, 1) := by decide +kernel
theorem dX6_far_69 : decode cX6_far 69 = .ok (.bipush (-2), 2) := by decide +kernel
theorem dX6_far_71 : decode cX6_far 71 = .ok (.invokevirtual 38, 3) := by decide +kernel
theorem dX6_far_74 : decode cX6_far 74 = .ok (.goto 4, 3) := by decide +kernel
theorem dX6_far_77 : decode cX6_far 77 = .ok (.iload_n 3, 1) := by decide +kernel
theorem dX6_far_78 : decode cX6_far 78 = .ok (.ireturn, 1) := by decide +kernel
theorem dX6_route_0 : decode cX6_route 0 = .ok (.aload_n 0, 1) := by decide +kernel
theorem dX6_route_1 : decode cX6_route 1 = .ok (.getfield 10, 3) := by decide +kernel
theorem dX6_route_4 : decode cX6_route 4 = .ok (.iload_n 1, 1) := by decide +kernel
theorem dX6_route_5 : decode cX6_route 5 = .ok (.invokevirtual 59, 3) := by decide +kernel
theorem dX6_route_8 : decode cX6_route 8 = .ok (.ifCond .eq 14, 3) := by decide +kernel
theorem dX6_route_11 : decode cX6_route 11 = .ok (.aload_n 0, 1) := by decide +kernel
theorem dX6_route_12 : decode cX6_route 12 = .ok (.getfield 10, 3) := by decide +kernel
theorem dX6_route_15 : decode cX6_route 15 = .ok (.iload_n 2, 1) := by decide +kernel
theorem dX6_route_16 : decode cX6_route 16 = .ok (.invokevirtual 114, 3) := by decide +kernel
theorem dX6_route_19 : decode cX6_route 19 = .ok (.ifCond .ne 9, 3) := by decide +kernel
theorem dX6_route_22 : decode cX6_route 22 = .ok (.aload_n 0, 1) := by decide +kernel
theorem dX6_route_23 : decode cX6_route 23 = .ok (.iconst (-1), 1) := by decide +kernel
theorem dX6_route_24 : decode cX6_route 24 = .ok (.invokevirtual 38, 3) := by decide +kernel
theorem dX6_route_27 : decode cX6_route 27 = .ok (.ireturn, 1) := by decide +kernel
theorem dX6_route_28 : decode cX6_route 28 = .ok (.aload_n 0, 1) := by decide +kernel
theorem dX6_route_29 : decode cX6_route 29 = .ok (.getfield 10, 3) := by decide +kernel
theorem dX6_route_32 : decode cX6_route 32 = .ok (.getfield 45, 3) := by decide +kernel
theorem dX6_route_35 : decode cX6_route 35 = .ok (.iload_n 1, 1) := by decide +kernel
theorem dX6_route_36 : decode cX6_route 36 = .ok (.aaload, 1) := by decide +kernel
theorem dX6_route_37 : decode cX6_route 37 = .ok (.getfield 66, 3) := by decide +kernel
theorem dX6_route_40 : decode cX6_route 40 = .ok (.iconst 3, 1) := by decide +kernel
theorem dX6_route_41 : decode cX6_route 41 = .ok (.if_icmp .eq 10, 3) := by decide +kernel
theorem dX6_route_44 : decode cX6_route 44 = .ok (.aload_n 0, 1) := by decide +kernel
theorem dX6_route_45 : decode cX6_route 45 = .ok (.bipush (-4), 2) := by decide +kernel
theorem dX6_route_47 : decode cX6_route 47 = .ok (.invokevirtual 38, 3) := by decide +kernel
theorem dX6_route_50 : decode cX6_route 50 = .ok (.ireturn, 1) := by decide +kernel
theorem dX6_route_51 : decode cX6_route 51 = .ok (.aload_n 0, 1) := by decide +kernel
theorem dX6_route_52 : decode cX6_route 52 = .ok (.getfield 19, 3) := by decide +kernel
theorem dX6_route_55 : decode cX6_route 55 = .ok (.aload_n 0, 1) := by decide +kernel
theorem dX6_route_56 : decode cX6_route 56 = .ok (.getfield 10, 3) := by decide +kernel
theorem dX6_route_59 : decode cX6_route 59 = .ok (.iload_n 1, 1) := by decide +kernel
theorem dX6_route_60 : decode cX6_route 60 = .ok (.aload_n 0, 1) := by decide +kernel
theorem dX6_route_61 : decode cX6_route 61 = .ok (.getfield 10, 3) := by decide +kernel
theorem dX6_route_64 : decode cX6_route 64 = .ok (.getfield 103, 3) := by decide +kernel
theorem dX6_route_67 : decode cX6_route 67 = .ok (.iload_n 2, 1) := by decide +kernel
theorem dX6_route_68 : decode cX6_route 68 = .ok (.aaload, 1) := by decide +kernel
theorem dX6_route_69 : decode cX6_route 69 = .ok (.getfield 192, 3) := by decide +kernel
theorem dX6_route_72 : decode cX6_route 72 = .ok (.invokevirtual 195, 3) := by decide +kernel
theorem dX6_route_75 : decode cX6_route 75 = .ok (.istore_n 3, 1) := by decide +kernel
theorem dX6_route_76 : decode cX6_route 76 = .ok (.iload_n 3, 1) := by decide +kernel
theorem dX6_route_77 : decode cX6_route 77 = .ok (.iconst (-1), 1) := by decide +kernel
theorem dX6_route_78 : decode cX6_route 78 = .ok (.if_icmp .ne 12, 3) := by decide +kernel
theorem dX6_route_81 : decode cX6_route 81 = .ok (.aload_n 0, 1) := by decide +kernel
theorem dX6_route_82 : decode cX6_route 82 = .ok (.bipush (-2), 2) := by decide +kernel
theorem dX6_route_84 : decode cX6_route 84 = .ok (.invokevirtual 38, 3) := by decide +kernel
theorem dX6_route_87 : decode cX6_route 87 = .ok (.goto 4, 3) := by decide +kernel
theorem dX6_route_90 : decode cX6_route 90 = .ok (.iload_n 3, 1) := by decide +kernel
theorem dX6_route_91 : decode cX6_route 91 = .ok (.ireturn, 1) := by decide +kernel
theorem dX6_flown_0 : decode cX6_flown 0 = .ok (.aload_n 0, 1) := by decide +kernel
theorem dX6_flown_1 : decode cX6_flown 1 = .ok (.getfield 10, 3) := by decide +kernel
theorem dX6_flown_4 : decode cX6_flown 4 = .ok (.iload_n 1, 1) := by decide +kernel
theorem dX6_flown_5 : decode cX6_flown 5 = .ok (.invokevirtual 114, 3) := by decide +kernel
theorem dX6_flown_8 : decode cX6_flown 8 = .ok (.ifCond .ne 9, 3) := by decide +kernel
theorem dX6_flown_11 : decode cX6_flown 11 = .ok (.aload_n 0, 1) := by decide +kernel
theorem dX6_flown_12 : decode cX6_flown 12 = .ok (.iconst (-1), 1) := by decide +kernel
theorem dX6_flown_13 : decode cX6_flown 13 = .ok (.invokevirtual 38, 3) := by decide +kernel
theorem dX6_flown_16 : decode cX6_flown 16 = .ok (.ireturn, 1) := by decide +kernel
theorem dX6_flown_17 : decode cX6_flown 17 = .ok (.aload_n 0, 1) := by decide +kernel
theorem dX6_flown_18 : decode cX6_flown 18 = .ok (.getfield 10, 3) := by decide +kernel
theorem dX6_flown_21 : decode cX6_flown 21 = .ok (.getfield 103, 3) := by decide +kernel
theorem dX6_flown_24 : decode cX6_flown 24 = .ok (.iload_n 1, 1) := by decide +kernel
theorem dX6_flown_25 : decode cX6_flown 25 = .ok (.aaload, 1) := by decide +kernel
theorem dX6_flown_26 : decode cX6_flown 26 = .ok (.astore_n 3, 1) := by decide +kernel
theorem dX6_flown_27 : decode cX6_flown 27 = .ok (.iload_n 2, 1) := by decide +kernel
theorem dX6_flown_28 : decode cX6_flown 28 = .ok (.tableswitch 100 0 6 #[44, 49, 54, 59, 69, 80, 91], 44) := by decide +kernel
theorem dX6_flown_72 : decode cX6_flown 72 = .ok (.aload_n 3, 1) := by decide +kernel
theorem dX6_flown_73 : decode cX6_flown 73 = .ok (.getfield 192, 3) := by decide +kernel
theorem dX6_flown_76 : decode cX6_flown 76 = .ok (.ireturn, 1) := by decide +kernel
theorem dX6_flown_77 : decode cX6_flown 77 = .ok (.aload_n 3, 1) := by decide +kernel
theorem dX6_flown_78 : decode cX6_flown 78 = .ok (.getfield 199, 3) := by decide +kernel
theorem dX6_flown_81 : decode cX6_flown 81 = .ok (.ireturn, 1) := by decide +kernel
theorem dX6_flown_82 : decode cX6_flown 82 = .ok (.aload_n 3, 1) := by decide +kernel
theorem dX6_flown_83 : decode cX6_flown 83 = .ok (.getfield 202, 3) := by decide +kernel
theorem dX6_flown_86 : decode cX6_flown 86 = .ok (.ireturn, 1) := by decide +kernel
theorem dX6_flown_87 : decode cX6_flown 87 = .ok (.aload_n 0, 1) := by decide +kernel
theorem dX6_flown_88 : decode cX6_flown 88 = .ok (.getfield 10, 3) := by decide +kernel
theorem dX6_flown_91 : decode cX6_flown 91 = .ok (.iload_n 1, 1) := by decide +kernel
theorem dX6_flown_92 : decode cX6_flown 92 = .ok (.iconst 5, 1) := by decide +kernel
theorem dX6_flown_93 : decode cX6_flown 93 = .ok (.invokevirtual 205, 3) := by decide +kernel
theorem dX6_flown_96 : decode cX6_flown 96 = .ok (.ireturn, 1) := by decide +kernel
theorem dX6_flown_97 : decode cX6_flown 97 = .ok (.aload_n 0, 1) := by decide +kernel
theorem dX6_flown_98 : decode cX6_flown 98 = .ok (.getfield 10, 3) := by decide +kernel
theorem dX6_flown_101 : decode cX6_flown 101 = .ok (.iload_n 1, 1) := by decide +kernel
theorem dX6_flown_102 : decode cX6_flown 102 = .ok (.bipush 6, 2) := by decide +kernel
theorem dX6_flown_104 : decode cX6_flown 104 = .ok (.invokevirtual 205, 3) := by decide +kernel
theorem dX6_flown_107 : decode cX6_flown 107 = .ok (.ireturn, 1) := by decide +kernel
theorem dX6_flown_108 : decode cX6_flown 108 = .ok (.aload_n 0, 1) := by decide +kernel
theorem dX6_flown_109 : decode cX6_flown 109 = .ok (.getfield 10, 3) := by decide +kernel
theorem dX6_flown_112 : decode cX6_flown 112 = .ok (.iload_n 1, 1) := by decide +kernel
theorem dX6_flown_113 : decode cX6_flown 113 = .ok (.bipush 7, 2) := by decide +kernel
theorem dX6_flown_115 : decode cX6_flown 115 = .ok (.invokevirtual 205, 3) := by decide +kernel
theorem dX6_flown_118 : decode cX6_flown 118 = .ok (.ireturn, 1) := by decide +kernel
theorem dX6_flown_119 : decode cX6_flown 119 = .ok (.aload_n 0, 1) := by decide +kernel
theorem dX6_flown_120 : decode cX6_flown 120 = .ok (.getfield 10, 3) := by decide +kernel
theorem dX6_flown_123 : decode cX6_flown 123 = .ok (.iload_n 1, 1) := by decide +kernel
theorem dX6_flown_124 : decode cX6_flown 124 = .ok (.invokevirtual 209, 3) := by decide +kernel
theorem dX6_flown_127 : decode cX6_flown 127 = .ok (.ireturn, 1) := by decide +kernel
theorem dX6_flown_128 : decode cX6_flown 128 = .ok (.aload_n 0, 1) := by decide +kernel
theorem dX6_flown_129 : decode cX6_flown 129 = .ok (.iconst (-1), 1) := by decide +kernel
theorem dX6_flown_130 : decode cX6_flown 130 = .ok (.invokevirtual 38, 3) := by decide +kernel
theorem dX6_flown_133 : decode cX6_flown 133 = .ok (.ireturn, 1) := by decide +kernel
theorem dX6_count_0 : decode cX6_count 0 = .ok (.iload_n 1, 1) := by decide +kernel
theorem dX6_count_1 : decode cX6_count 1 = .ok (.iconst 0, 1) := by decide +kernel
theorem dX6_count_2 : decode cX6_count 2 = .ok (.bipush 7, 2) := by decide +kernel
theorem dX6_count_4 : decode cX6_count 4 = .ok (.invokestatic 62, 3) := by decide +kernel
theorem dX6_count_7 : decode cX6_count 7 = .ok (.ifCond .eq 12, 3) := by decide +kernel
theorem dX6_count_10 : decode cX6_count 10 = .ok (.aload_n 0, 1) := by decide +kernel
theorem dX6_count_11 : decode cX6_count 11 = .ok (.getfield 10, 3) := by decide +kernel
theorem dX6_count_14 : decode cX6_count 14 = .ok (.iload_n 1, 1) := by decide +kernel
theorem dX6_count_15 : decode cX6_count 15 = .ok (.invokevirtual 211, 3) := by decide +kernel
theorem dX6_count_18 : decode cX6_count 18 = .ok (.ireturn, 1) := by decide +kernel
theorem dX6_count_19 : decode cX6_count 19 = .ok (.iload_n 1, 1) := by decide +kernel
theorem dX6_count_20 : decode cX6_count 20 = .ok (.tableswitch 97 8 14 #[44, 52, 60, 68, 76, 84, 92], 44) := by decide +kernel
theorem dX6_count_64 : decode cX6_count 64 = .ok (.aload_n 0, 1) := by decide +kernel
theorem dX6_count_65 : decode cX6_count 65 = .ok (.getfield 10, 3) := by decide +kernel
theorem dX6_count_68 : decode cX6_count 68 = .ok (.getfield 117, 3) := by decide +kernel
theorem dX6_count_71 : decode cX6_count 71 = .ok (.ireturn, 1) := by decide +kernel
theorem dX6_count_72 : decode cX6_count 72 = .ok (.aload_n 0, 1) := by decide +kernel
theorem dX6_count_73 : decode cX6_count 73 = .ok (.getfield 10, 3) := by decide +kernel
theorem dX6_count_76 : decode cX6_count 76 = .ok (.getfield 42, 3) := by decide +kernel
theorem dX6_count_79 : decode cX6_count 79 = .ok (.ireturn, 1) := by decide +kernel
theorem dX6_count_80 : decode cX6_count 80 = .ok (.aload_n 0, 1) := by decide +kernel
theorem dX6_count_81 : decode cX6_count 81 = .ok (.getfield 10, 3) := by decide +kernel
theorem dX6_count_84 : decode cX6_count 84 = .ok (.getfield 69, 3) := by decide +kernel
theorem dX6_count_87 : decode cX6_count 87 = .ok (.ireturn, 1) := by decide +kernel
theorem dX6_count_88 : decode cX6_count 88 = .ok (.aload_n 0, 1) := by decide +kernel
theorem dX6_count_89 : decode cX6_count 89 = .ok (.getfield 10, 3) := by decide +kernel
theorem dX6_count_92 : decode cX6_count 92 = .ok (.getfield 100, 3) := by decide +kernel
theorem dX6_count_95 : decode cX6_count 95 = .ok (.ireturn, 1) := by decide +kernel
theorem dX6_count_96 : decode cX6_count 96 = .ok (.aload_n 0, 1) := by decide +kernel
theorem dX6_count_97 : decode cX6_count 97 = .ok (.getfield 10, 3) := by decide +kernel
theorem dX6_count_100 : decode cX6_count 100 = .ok (.invokevirtual 214, 3) := by decide +kernel
theorem dX6_count_103 : decode cX6_count 103 = .ok (.ireturn, 1) := by decide +kernel
theorem dX6_count_104 : decode cX6_count 104 = .ok (.aload_n 0, 1) := by decide +kernel
theorem dX6_count_105 : decode cX6_count 105 = .ok (.getfield 10, 3) := by decide +kernel
theorem dX6_count_108 : decode cX6_count 108 = .ok (.getfield 171, 3) := by decide +kernel
theorem dX6_count_111 : decode cX6_count 111 = .ok (.ireturn, 1) := by decide +kernel
theorem dX6_count_112 : decode cX6_count 112 = .ok (.aload_n 0, 1) := by decide +kernel
theorem dX6_count_113 : decode cX6_count 113 = .ok (.getfield 26, 3) := by decide +kernel
theorem dX6_count_116 : decode cX6_count 116 = .ok (.ireturn, 1) := by decide +kernel
theorem dX6_count_117 : decode cX6_count 117 = .ok (.aload_n 0, 1) := by decide +kernel
theorem dX6_count_118 : decode cX6_count 118 = .ok (.iconst (-1), 1) := by decide +kernel
theorem dX6_count_119 : decode cX6_count 119 = .ok (.invokevirtual 38, 3) := by decide +kernel
theorem dX6_count_122 : decode cX6_count 122 = .ok (.ireturn, 1) := by decide +kernel
theorem dX6_keep_0 : decode cX6_keep 0 = .ok (.aload_n 0, 1) := by decide +kernel
theorem dX6_keep_1 : decode cX6_keep 1 = .ok (.getfield 23, 3) := by decide +kernel
theorem dX6_keep_4 : decode cX6_keep 4 = .ok (.ifnonnull 14, 3) := by decide +kernel
theorem dX6_keep_7 : decode cX6_keep 7 = .ok (.aload_n 0, 1) := by decide +kernel
theorem dX6_keep_8 : decode cX6_keep 8 = .ok (.new 7, 3) := by decide +kernel
theorem dX6_keep_11 : decode cX6_keep 11 = .ok (.dup, 1) := by decide +kernel
theorem dX6_keep_12 : decode cX6_keep 12 = .ok (.invokespecial 9, 3) := by decide +kernel
theorem dX6_keep_15 : decode cX6_keep 15 = .ok (.putfield 23, 3) := by decide +kernel
theorem dX6_keep_18 : decode cX6_keep 18 = .ok (.aload_n 0, 1) := by decide +kernel
theorem dX6_keep_19 : decode cX6_keep 19 = .ok (.getfield 23, 3) := by decide +kernel
theorem dX6_keep_22 : decode cX6_keep 22 = .ok (.aload_n 0, 1) := by decide +kernel
theorem dX6_keep_23 : decode cX6_keep 23 = .ok (.getfield 10, 3) := by decide +kernel
theorem dX6_keep_26 : decode cX6_keep 26 = .ok (.invokevirtual 217, 3) := by decide +kernel
theorem dX6_keep_29 : decode cX6_keep 29 = .ok (.aload_n 0, 1) := by decide +kernel
theorem dX6_keep_30 : decode cX6_keep 30 = .ok (.getfield 10, 3) := by decide +kernel
theorem dX6_keep_33 : decode cX6_keep 33 = .ok (.getfield 171, 3) := by decide +kernel
theorem dX6_keep_36 : decode cX6_keep 36 = .ok (.ireturn, 1) := by decide +kernel
theorem dX6_back_0 : decode cX6_back 0 = .ok (.aload_n 0, 1) := by decide +kernel
theorem dX6_back_1 : decode cX6_back 1 = .ok (.getfield 23, 3) := by decide +kernel
theorem dX6_back_4 : decode cX6_back 4 = .ok (.ifnonnull 10, 3) := by decide +kernel
theorem dX6_back_7 : decode cX6_back 7 = .ok (.aload_n 0, 1) := by decide +kernel
theorem dX6_back_8 : decode cX6_back 8 = .ok (.bipush (-2), 2) := by decide +kernel
theorem dX6_back_10 : decode cX6_back 10 = .ok (.invokevirtual 38, 3) := by decide +kernel
theorem dX6_back_13 : decode cX6_back 13 = .ok (.ireturn, 1) := by decide +kernel
theorem dX6_back_14 : decode cX6_back 14 = .ok (.aload_n 0, 1) := by decide +kernel
theorem dX6_back_15 : decode cX6_back 15 = .ok (.getfield 10, 3) := by decide +kernel
theorem dX6_back_18 : decode cX6_back 18 = .ok (.aload_n 0, 1) := by decide +kernel
theorem dX6_back_19 : decode cX6_back 19 = .ok (.getfield 23, 3) := by decide +kernel
theorem dX6_back_22 : decode cX6_back 22 = .ok (.invokevirtual 217, 3) := by decide +kernel
theorem dX6_back_25 : decode cX6_back 25 = .ok (.aload_n 0, 1) := by decide +kernel
theorem dX6_back_26 : decode cX6_back 26 = .ok (.getfield 19, 3) := by decide +kernel
theorem dX6_back_29 : decode cX6_back 29 = .ok (.aload_n 0, 1) := by decide +kernel
theorem dX6_back_30 : decode cX6_back 30 = .ok (.getfield 10, 3) := by decide +kernel
theorem dX6_back_33 : decode cX6_back 33 = .ok (.invokevirtual 55, 3) := by decide +kernel
theorem dX6_back_36 : decode cX6_back 36 = .ok (.aload_n 0, 1) := by decide +kernel
theorem dX6_back_37 : decode cX6_back 37 = .ok (.getfield 10, 3) := by decide +kernel
theorem dX6_back_40 : decode cX6_back 40 = .ok (.getfield 171, 3) := by decide +kernel
theorem dX6_back_43 : decode cX6_back 43 = .ok (.ireturn, 1) := by decide +kernel
theorem dX6_goOneTick_0 : decode cX6_goOneTick 0 = .ok (.iconst 0, 1) := by decide +kernel
theorem dX6_goOneTick_1 : decode cX6_goOneTick 1 = .ok (.istore_n 1, 1) := by decide +kernel
theorem dX6_goOneTick_2 : decode cX6_goOneTick 2 = .ok (.iload_n 1, 1) := by decide +kernel
theorem dX6_goOneTick_3 : decode cX6_goOneTick 3 = .ok (.aload_n 0, 1) := by decide +kernel
theorem dX6_goOneTick_4 : decode cX6_goOneTick 4 = .ok (.getfield 10, 3) := by decide +kernel
theorem dX6_goOneTick_7 : decode cX6_goOneTick 7 = .ok (.getfield 69, 3) := by decide +kernel
theorem dX6_goOneTick_10 : decode cX6_goOneTick 10 = .ok (.if_icmp .ge 22, 3) := by decide +kernel
theorem dX6_goOneTick_13 : decode cX6_goOneTick 13 = .ok (.aload_n 0, 1) := by decide +kernel
theorem dX6_goOneTick_14 : decode cX6_goOneTick 14 = .ok (.getfield 10, 3) := by decide +kernel
theorem dX6_goOneTick_17 : decode cX6_goOneTick 17 = .ok (.getfield 72, 3) := by decide +kernel
theorem dX6_goOneTick_20 : decode cX6_goOneTick 20 = .ok (.iload_n 1, 1) := by decide +kernel
theorem dX6_goOneTick_21 : decode cX6_goOneTick 21 = .ok (.aaload, 1) := by decide +kernel
theorem dX6_goOneTick_22 : decode cX6_goOneTick 22 = .ok (.iconst 0, 1) := by decide +kernel
theorem dX6_goOneTick_23 : decode cX6_goOneTick 23 = .ok (.putfield 220, 3) := by decide +kernel
theorem dX6_goOneTick_26 : decode cX6_goOneTick 26 = .ok (.iinc 1 1, 3) := by decide +kernel
theorem dX6_goOneTick_29 : decode cX6_goOneTick 29 = .ok (.goto (-27), 3) := by decide +kernel
theorem dX6_goOneTick_32 : decode cX6_goOneTick 32 = .ok (.iconst 0, 1) := by decide +kernel
theorem dX6_goOneTick_33 : decode cX6_goOneTick 33 = .ok (.istore_n 1, 1) := by decide +kernel
theorem dX6_goOneTick_34 : decode cX6_goOneTick 34 = .ok (.iload_n 1, 1) := by decide +kernel
theorem dX6_goOneTick_35 : decode cX6_goOneTick 35 = .ok (.aload_n 0, 1) := by decide +kernel
theorem dX6_goOneTick_36 : decode cX6_goOneTick 36 = .ok (.getfield 10, 3) := by decide +kernel
theorem dX6_goOneTick_39 : decode cX6_goOneTick 39 = .ok (.getfield 42, 3) := by decide +kernel
theorem dX6_goOneTick_42 : decode cX6_goOneTick 42 = .ok (.if_icmp .ge 14, 3) := by decide +kernel
theorem dX6_goOneTick_45 : decode cX6_goOneTick 45 = .ok (.aload_n 0, 1) := by decide +kernel
theorem dX6_goOneTick_46 : decode cX6_goOneTick 46 = .ok (.iload_n 1, 1) := by decide +kernel
theorem dX6_goOneTick_47 : decode cX6_goOneTick 47 = .ok (.invokevirtual 223, 3) := by decide +kernel
theorem dX6_goOneTick_50 : decode cX6_goOneTick 50 = .ok (.iinc 1 1, 3) := by decide +kernel
theorem dX6_goOneTick_53 : decode cX6_goOneTick 53 = .ok (.goto (-19), 3) := by decide +kernel
theorem dX6_goOneTick_56 : decode cX6_goOneTick 56 = .ok (.iconst 0, 1) := by decide +kernel
theorem dX6_goOneTick_57 : decode cX6_goOneTick 57 = .ok (.istore_n 1, 1) := by decide +kernel
theorem dX6_goOneTick_58 : decode cX6_goOneTick 58 = .ok (.iload_n 1, 1) := by decide +kernel
theorem dX6_goOneTick_59 : decode cX6_goOneTick 59 = .ok (.aload_n 0, 1) := by decide +kernel
theorem dX6_goOneTick_60 : decode cX6_goOneTick 60 = .ok (.getfield 10, 3) := by decide +kernel
theorem dX6_goOneTick_63 : decode cX6_goOneTick 63 = .ok (.getfield 69, 3) := by decide +kernel
theorem dX6_goOneTick_66 : decode cX6_goOneTick 66 = .ok (.if_icmp .ge 21, 3) := by decide +kernel
theorem dX6_goOneTick_69 : decode cX6_goOneTick 69 = .ok (.aload_n 0, 1) := by decide +kernel
theorem dX6_goOneTick_70 : decode cX6_goOneTick 70 = .ok (.getfield 10, 3) := by decide +kernel
theorem dX6_goOneTick_73 : decode cX6_goOneTick 73 = .ok (.getfield 72, 3) := by decide +kernel
theorem dX6_goOneTick_76 : decode cX6_goOneTick 76 = .ok (.iload_n 1, 1) := by decide +kernel
theorem dX6_goOneTick_77 : decode cX6_goOneTick 77 = .ok (.aaload, 1) := by decide +kernel
theorem dX6_goOneTick_78 : decode cX6_goOneTick 78 = .ok (.invokevirtual 226, 3) := by decide +kernel
theorem dX6_goOneTick_81 : decode cX6_goOneTick 81 = .ok (.iinc 1 1, 3) := by decide +kernel
theorem dX6_goOneTick_84 : decode cX6_goOneTick 84 = .ok (.goto (-26), 3) := by decide +kernel
theorem dX6_goOneTick_87 : decode cX6_goOneTick 87 = .ok (.iconst 0, 1) := by decide +kernel
theorem dX6_goOneTick_88 : decode cX6_goOneTick 88 = .ok (.istore_n 1, 1) := by decide +kernel
theorem dX6_goOneTick_89 : decode cX6_goOneTick 89 = .ok (.iload_n 1, 1) := by decide +kernel
theorem dX6_goOneTick_90 : decode cX6_goOneTick 90 = .ok (.aload_n 0, 1) := by decide +kernel
theorem dX6_goOneTick_91 : decode cX6_goOneTick 91 = .ok (.getfield 10, 3) := by decide +kernel
theorem dX6_goOneTick_94 : decode cX6_goOneTick 94 = .ok (.getfield 42, 3) := by decide +kernel
theorem dX6_goOneTick_97 : decode cX6_goOneTick 97 = .ok (.if_icmp .ge 14, 3) := by decide +kernel
theorem dX6_goOneTick_100 : decode cX6_goOneTick 100 = .ok (.aload_n 0, 1) := by decide +kernel
theorem dX6_goOneTick_101 : decode cX6_goOneTick 101 = .ok (.iload_n 1, 1) := by decide +kernel
theorem dX6_goOneTick_102 : decode cX6_goOneTick 102 = .ok (.invokevirtual 229, 3) := by decide +kernel
theorem dX6_goOneTick_105 : decode cX6_goOneTick 105 = .ok (.iinc 1 1, 3) := by decide +kernel
theorem dX6_goOneTick_108 : decode cX6_goOneTick 108 = .ok (.goto (-19), 3) := by decide +kernel
theorem dX6_goOneTick_111 : decode cX6_goOneTick 111 = .ok (.aload_n 0, 1) := by decide +kernel
theorem dX6_goOneTick_112 : decode cX6_goOneTick 112 = .ok (.getfield 10, 3) := by decide +kernel
theorem dX6_goOneTick_115 : decode cX6_goOneTick 115 = .ok (.dup, 1) := by decide +kernel
theorem dX6_goOneTick_116 : decode cX6_goOneTick 116 = .ok (.getfield 171, 3) := by decide +kernel
theorem dX6_goOneTick_119 : decode cX6_goOneTick 119 = .ok (.iconst 1, 1) := by decide +kernel
theorem dX6_goOneTick_120 : decode cX6_goOneTick 120 = .ok (.iadd, 1) := by decide +kernel
theorem dX6_goOneTick_121 : decode cX6_goOneTick 121 = .ok (.putfield 171, 3) := by decide +kernel
theorem dX6_goOneTick_124 : decode cX6_goOneTick 124 = .ok (.return_, 1) := by decide +kernel
theorem dX6_sendFrom_0 : decode cX6_sendFrom 0 = .ok (.aload_n 0, 1) := by decide +kernel
theorem dX6_sendFrom_1 : decode cX6_sendFrom 1 = .ok (.getfield 10, 3) := by decide +kernel
theorem dX6_sendFrom_4 : decode cX6_sendFrom 4 = .ok (.getfield 45, 3) := by decide +kernel
theorem dX6_sendFrom_7 : decode cX6_sendFrom 7 = .ok (.iload_n 1, 1) := by decide +kernel
theorem dX6_sendFrom_8 : decode cX6_sendFrom 8 = .ok (.aaload, 1) := by decide +kernel
theorem dX6_sendFrom_9 : decode cX6_sendFrom 9 = .ok (.astore_n 2, 1) := by decide +kernel
theorem dX6_sendFrom_10 : decode cX6_sendFrom 10 = .ok (.aload_n 0, 1) := by decide +kernel
theorem dX6_sendFrom_11 : decode cX6_sendFrom 11 = .ok (.aload_n 2, 1) := by decide +kernel
theorem dX6_sendFrom_12 : decode cX6_sendFrom 12 = .ok (.invokevirtual 232, 3) := by decide +kernel
theorem dX6_sendFrom_15 : decode cX6_sendFrom 15 = .ok (.istore_n 3, 1) := by decide +kernel
theorem dX6_sendFrom_16 : decode cX6_sendFrom 16 = .ok (.aload_n 0, 1) := by decide +kernel
theorem dX6_sendFrom_17 : decode cX6_sendFrom 17 = .ok (.getfield 10, 3) := by decide +kernel
theorem dX6_sendFrom_20 : decode cX6_sendFrom 20 = .ok (.iload_n 3, 1) := by decide +kernel
theorem dX6_sendFrom_21 : decode cX6_sendFrom 21 = .ok (.invokevirtual 132, 3) := by decide +kernel
theorem dX6_sendFrom_24 : decode cX6_sendFrom 24 = .ok (.ifCond .ne 4, 3) := by decide +kernel
theorem dX6_sendFrom_27 : decode cX6_sendFrom 27 = .ok (.return_, 1) := by decide +kernel
theorem dX6_sendFrom_28 : decode cX6_sendFrom 28 = .ok (.aload_n 0, 1) := by decide +kernel
theorem dX6_sendFrom_29 : decode cX6_sendFrom 29 = .ok (.iload_n 1, 1) := by decide +kernel
theorem dX6_sendFrom_30 : decode cX6_sendFrom 30 = .ok (.aload_n 0, 1) := by decide +kernel
theorem dX6_sendFrom_31 : decode cX6_sendFrom 31 = .ok (.getfield 10, 3) := by decide +kernel
theorem dX6_sendFrom_34 : decode cX6_sendFrom 34 = .ok (.getfield 120, 3) := by decide +kernel
theorem dX6_sendFrom_37 : decode cX6_sendFrom 37 = .ok (.iload_n 3, 1) := by decide +kernel
theorem dX6_sendFrom_38 : decode cX6_sendFrom 38 = .ok (.aaload, 1) := by decide +kernel
theorem dX6_sendFrom_39 : decode cX6_sendFrom 39 = .ok (.invokevirtual 236, 3) := by decide +kernel
theorem dX6_sendFrom_42 : decode cX6_sendFrom 42 = .ok (.istore 4, 2) := by decide +kernel
theorem dX6_sendFrom_44 : decode cX6_sendFrom 44 = .ok (.aload_n 0, 1) := by decide +kernel
theorem dX6_sendFrom_45 : decode cX6_sendFrom 45 = .ok (.getfield 10, 3) := by decide +kernel
theorem dX6_sendFrom_48 : decode cX6_sendFrom 48 = .ok (.iload 4, 2) := by decide +kernel
theorem dX6_sendFrom_50 : decode cX6_sendFrom 50 = .ok (.invokevirtual 85, 3) := by decide +kernel
theorem dX6_sendFrom_53 : decode cX6_sendFrom 53 = .ok (.ifCond .eq 19, 3) := by decide +kernel
theorem dX6_sendFrom_56 : decode cX6_sendFrom 56 = .ok (.aload_n 0, 1) := by decide +kernel
theorem dX6_sendFrom_57 : decode cX6_sendFrom 57 = .ok (.getfield 10, 3) := by decide +kernel
theorem dX6_sendFrom_60 : decode cX6_sendFrom 60 = .ok (.getfield 72, 3) := by decide +kernel
theorem dX6_sendFrom_63 : decode cX6_sendFrom 63 = .ok (.iload 4, 2) := by decide +kernel
theorem dX6_sendFrom_65 : decode cX6_sendFrom 65 = .ok (.aaload, 1) := by decide +kernel
theorem dX6_sendFrom_66 : decode cX6_sendFrom 66 = .ok (.invokevirtual 240, 3) := by decide +kernel
theorem dX6_sendFrom_69 : decode cX6_sendFrom 69 = .ok (.ifCond .ne 4, 3) := by decide +kernel
theorem dX6_sendFrom_72 : decode cX6_sendFrom 72 = .ok (.return_, 1) := by decide +kernel
theorem dX6_sendFrom_73 : decode cX6_sendFrom 73 = .ok (.aload_n 2, 1) := by decide +kernel
theorem dX6_sendFrom_74 : decode cX6_sendFrom 74 = .ok (.iload_n 3, 1) := by decide +kernel
theorem dX6_sendFrom_75 : decode cX6_sendFrom 75 = .ok (.invokevirtual 244, 3) := by decide +kernel
theorem dX6_sendFrom_78 : decode cX6_sendFrom 78 = .ok (.aload_n 0, 1) := by decide +kernel
theorem dX6_sendFrom_79 : decode cX6_sendFrom 79 = .ok (.getfield 10, 3) := by decide +kernel
theorem dX6_sendFrom_82 : decode cX6_sendFrom 82 = .ok (.getfield 72, 3) := by decide +kernel
theorem dX6_sendFrom_85 : decode cX6_sendFrom 85 = .ok (.iload 4, 2) := by decide +kernel
theorem dX6_sendFrom_87 : decode cX6_sendFrom 87 = .ok (.aaload, 1) := by decide +kernel
theorem dX6_sendFrom_88 : decode cX6_sendFrom 88 = .ok (.iload_n 3, 1) := by decide +kernel
theorem dX6_sendFrom_89 : decode cX6_sendFrom 89 = .ok (.invokevirtual 247, 3) := by decide +kernel
theorem dX6_sendFrom_92 : decode cX6_sendFrom 92 = .ok (.aload_n 0, 1) := by decide +kernel
theorem dX6_sendFrom_93 : decode cX6_sendFrom 93 = .ok (.getfield 10, 3) := by decide +kernel
theorem dX6_sendFrom_96 : decode cX6_sendFrom 96 = .ok (.getfield 120, 3) := by decide +kernel
theorem dX6_sendFrom_99 : decode cX6_sendFrom 99 = .ok (.iload_n 3, 1) := by decide +kernel
theorem dX6_sendFrom_100 : decode cX6_sendFrom 100 = .ok (.aaload, 1) := by decide +kernel
theorem dX6_sendFrom_101 : decode cX6_sendFrom 101 = .ok (.iconst 1, 1) := by decide +kernel
theorem dX6_sendFrom_102 : decode cX6_sendFrom 102 = .ok (.iload 4, 2) := by decide +kernel
theorem dX6_sendFrom_104 : decode cX6_sendFrom 104 = .ok (.invokevirtual 250, 3) := by decide +kernel
theorem dX6_sendFrom_107 : decode cX6_sendFrom 107 = .ok (.aload_n 2, 1) := by decide +kernel
theorem dX6_sendFrom_108 : decode cX6_sendFrom 108 = .ok (.getfield 66, 3) := by decide +kernel
theorem dX6_sendFrom_111 : decode cX6_sendFrom 111 = .ok (.ifCond .ne 23, 3) := by decide +kernel
theorem dX6_sendFrom_114 : decode cX6_sendFrom 114 = .ok (.aload_n 0, 1) := by decide +kernel
theorem dX6_sendFrom_115 : decode cX6_sendFrom 115 = .ok (.getfield 10, 3) := by decide +kernel
theorem dX6_sendFrom_118 : decode cX6_sendFrom 118 = .ok (.getfield 120, 3) := by decide +kernel
theorem dX6_sendFrom_121 : decode cX6_sendFrom 121 = .ok (.iload_n 3, 1) := by decide +kernel
theorem dX6_sendFrom_122 : decode cX6_sendFrom 122 = .ok (.aaload, 1) := by decide +kernel
theorem dX6_sendFrom_123 : decode cX6_sendFrom 123 = .ok (.aload_n 0, 1) := by decide +kernel
theorem dX6_sendFrom_124 : decode cX6_sendFrom 124 = .ok (.getfield 10, 3) := by decide +kernel
theorem dX6_sendFrom_127 : decode cX6_sendFrom 127 = .ok (.getfield 171, 3) := by decide +kernel
theorem dX6_sendFrom_130 : decode cX6_sendFrom 130 = .ok (.iload_n 1, 1) := by decide +kernel
theorem dX6_sendFrom_131 : decode cX6_sendFrom 131 = .ok (.invokevirtual 253, 3) := by decide +kernel
theorem dX6_sendFrom_134 : decode cX6_sendFrom 134 = .ok (.return_, 1) := by decide +kernel
theorem dX6_nextToGo_0 : decode cX6_nextToGo 0 = .ok (.aload_n 1, 1) := by decide +kernel
theorem dX6_nextToGo_1 : decode cX6_nextToGo 1 = .ok (.getfield 66, 3) := by decide +kernel
theorem dX6_nextToGo_4 : decode cX6_nextToGo 4 = .ok (.iconst 4, 1) := by decide +kernel
theorem dX6_nextToGo_5 : decode cX6_nextToGo 5 = .ok (.if_icmp .ne 9, 3) := by decide +kernel
theorem dX6_nextToGo_8 : decode cX6_nextToGo 8 = .ok (.aload_n 0, 1) := by decide +kernel
theorem dX6_nextToGo_9 : decode cX6_nextToGo 9 = .ok (.aload_n 1, 1) := by decide +kernel
theorem dX6_nextToGo_10 : decode cX6_nextToGo 10 = .ok (.invokevirtual 256, 3) := by decide +kernel
theorem dX6_nextToGo_13 : decode cX6_nextToGo 13 = .ok (.ireturn, 1) := by decide +kernel
theorem dX6_nextToGo_14 : decode cX6_nextToGo 14 = .ok (.aload_n 1, 1) := by decide +kernel
theorem dX6_nextToGo_15 : decode cX6_nextToGo 15 = .ok (.invokevirtual 181, 3) := by decide +kernel
theorem dX6_nextToGo_18 : decode cX6_nextToGo 18 = .ok (.istore_n 2, 1) := by decide +kernel
theorem dX6_nextToGo_19 : decode cX6_nextToGo 19 = .ok (.aload_n 1, 1) := by decide +kernel
theorem dX6_nextToGo_20 : decode cX6_nextToGo 20 = .ok (.getfield 66, 3) := by decide +kernel
theorem dX6_nextToGo_23 : decode cX6_nextToGo 23 = .ok (.iconst 2, 1) := by decide +kernel
theorem dX6_nextToGo_24 : decode cX6_nextToGo 24 = .ok (.if_icmp .ne 47, 3) := by decide +kernel
theorem dX6_nextToGo_27 : decode cX6_nextToGo 27 = .ok (.aload_n 0, 1) := by decide +kernel
theorem dX6_nextToGo_28 : decode cX6_nextToGo 28 = .ok (.getfield 10, 3) := by decide +kernel
theorem dX6_nextToGo_31 : decode cX6_nextToGo 31 = .ok (.iload_n 2, 1) := by decide +kernel
theorem dX6_nextToGo_32 : decode cX6_nextToGo 32 = .ok (.invokevirtual 132, 3) := by decide +kernel
theorem dX6_nextToGo_35 : decode cX6_nextToGo 35 = .ok (.ifCond .eq 36, 3) := by decide +kernel
theorem dX6_nextToGo_38 : decode cX6_nextToGo 38 = .ok (.aload_n 0, 1) := by decide +kernel
theorem dX6_nextToGo_39 : decode cX6_nextToGo 39 = .ok (.getfield 10, 3) := by decide +kernel
theorem dX6_nextToGo_42 : decode cX6_nextToGo 42 = .ok (.getfield 171, 3) := by decide +kernel
theorem dX6_nextToGo_45 : decode cX6_nextToGo 45 = .ok (.aload_n 0, 1) := by decide +kernel
theorem dX6_nextToGo_46 : decode cX6_nextToGo 46 = .ok (.getfield 10, 3) := by decide +kernel
theorem dX6_nextToGo_49 : decode cX6_nextToGo 49 = .ok (.getfield 120, 3) := by decide +kernel
theorem dX6_nextToGo_52 : decode cX6_nextToGo 52 = .ok (.iload_n 2, 1) := by decide +kernel
theorem dX6_nextToGo_53 : decode cX6_nextToGo 53 = .ok (.aaload, 1) := by decide +kernel
theorem dX6_nextToGo_54 : decode cX6_nextToGo 54 = .ok (.getfield 153, 3) := by decide +kernel
theorem dX6_nextToGo_57 : decode cX6_nextToGo 57 = .ok (.isub, 1) := by decide +kernel
theorem dX6_nextToGo_58 : decode cX6_nextToGo 58 = .ok (.aload_n 1, 1) := by decide +kernel
theorem dX6_nextToGo_59 : decode cX6_nextToGo 59 = .ok (.getfield 259, 3) := by decide +kernel
theorem dX6_nextToGo_62 : decode cX6_nextToGo 62 = .ok (.if_icmp .lt 7, 3) := by decide +kernel
theorem dX6_nextToGo_65 : decode cX6_nextToGo 65 = .ok (.iload_n 2, 1) := by decide +kernel
theorem dX6_nextToGo_66 : decode cX6_nextToGo 66 = .ok (.goto 4, 3) := by decide +kernel
theorem dX6_nextToGo_69 : decode cX6_nextToGo 69 = .ok (.iconst (-1), 1) := by decide +kernel
theorem dX6_nextToGo_70 : decode cX6_nextToGo 70 = .ok (.ireturn, 1) := by decide +kernel
theorem dX6_nextToGo_71 : decode cX6_nextToGo 71 = .ok (.iload_n 2, 1) := by decide +kernel
theorem dX6_nextToGo_72 : decode cX6_nextToGo 72 = .ok (.ireturn, 1) := by decide +kernel
theorem dX6_firstOpen_0 : decode cX6_firstOpen 0 = .ok (.iconst 0, 1) := by decide +kernel
theorem dX6_firstOpen_1 : decode cX6_firstOpen 1 = .ok (.istore_n 2, 1) := by decide +kernel
theorem dX6_firstOpen_2 : decode cX6_firstOpen 2 = .ok (.iload_n 2, 1) := by decide +kernel
theorem dX6_firstOpen_3 : decode cX6_firstOpen 3 = .ok (.aload_n 1, 1) := by decide +kernel
theorem dX6_firstOpen_4 : decode cX6_firstOpen 4 = .ok (.getfield 141, 3) := by decide +kernel
theorem dX6_firstOpen_7 : decode cX6_firstOpen 7 = .ok (.if_icmp .ge 48, 3) := by decide +kernel
theorem dX6_firstOpen_10 : decode cX6_firstOpen 10 = .ok (.aload_n 1, 1) := by decide +kernel
theorem dX6_firstOpen_11 : decode cX6_firstOpen 11 = .ok (.getfield 185, 3) := by decide +kernel
theorem dX6_firstOpen_14 : decode cX6_firstOpen 14 = .ok (.iload_n 2, 1) := by decide +kernel
theorem dX6_firstOpen_15 : decode cX6_firstOpen 15 = .ok (.iaload, 1) := by decide +kernel
theorem dX6_firstOpen_16 : decode cX6_firstOpen 16 = .ok (.istore_n 3, 1) := by decide +kernel
theorem dX6_firstOpen_17 : decode cX6_firstOpen 17 = .ok (.aload_n 0, 1) := by decide +kernel
theorem dX6_firstOpen_18 : decode cX6_firstOpen 18 = .ok (.getfield 10, 3) := by decide +kernel
theorem dX6_firstOpen_21 : decode cX6_firstOpen 21 = .ok (.iload_n 3, 1) := by decide +kernel
theorem dX6_firstOpen_22 : decode cX6_firstOpen 22 = .ok (.invokevirtual 132, 3) := by decide +kernel
theorem dX6_firstOpen_25 : decode cX6_firstOpen 25 = .ok (.ifCond .eq 24, 3) := by decide +kernel
theorem dX6_firstOpen_28 : decode cX6_firstOpen 28 = .ok (.aload_n 0, 1) := by decide +kernel
theorem dX6_firstOpen_29 : decode cX6_firstOpen 29 = .ok (.aload_n 0, 1) := by decide +kernel
theorem dX6_firstOpen_30 : decode cX6_firstOpen 30 = .ok (.getfield 10, 3) := by decide +kernel
theorem dX6_firstOpen_33 : decode cX6_firstOpen 33 = .ok (.getfield 120, 3) := by decide +kernel
theorem dX6_firstOpen_36 : decode cX6_firstOpen 36 = .ok (.iload_n 3, 1) := by decide +kernel
theorem dX6_firstOpen_37 : decode cX6_firstOpen 37 = .ok (.aaload, 1) := by decide +kernel
theorem dX6_firstOpen_38 : decode cX6_firstOpen 38 = .ok (.getfield 262, 3) := by decide +kernel
theorem dX6_firstOpen_41 : decode cX6_firstOpen 41 = .ok (.invokevirtual 265, 3) := by decide +kernel
theorem dX6_firstOpen_44 : decode cX6_firstOpen 44 = .ok (.ifCond .eq 5, 3) := by decide +kernel
theorem dX6_firstOpen_47 : decode cX6_firstOpen 47 = .ok (.iload_n 3, 1) := by decide +kernel
theorem dX6_firstOpen_48 : decode cX6_firstOpen 48 = .ok (.ireturn, 1) := by decide +kernel
theorem dX6_firstOpen_49 : decode cX6_firstOpen 49 = .ok (.iinc 2 1, 3) := by decide +kernel
theorem dX6_firstOpen_52 : decode cX6_firstOpen 52 = .ok (.goto (-50), 3) := by decide +kernel
theorem dX6_firstOpen_55 : decode cX6_firstOpen 55 = .ok (.iconst (-1), 1) := by decide +kernel
theorem dX6_firstOpen_56 : decode cX6_firstOpen 56 = .ok (.ireturn, 1) := by decide +kernel
theorem dX6_isOpen_0 : decode cX6_isOpen 0 = .ok (.aload_n 0, 1) := by decide +kernel
theorem dX6_isOpen_1 : decode cX6_isOpen 1 = .ok (.getfield 10, 3) := by decide +kernel
theorem dX6_isOpen_4 : decode cX6_isOpen 4 = .ok (.iload_n 1, 1) := by decide +kernel
theorem dX6_isOpen_5 : decode cX6_isOpen 5 = .ok (.invokevirtual 114, 3) := by decide +kernel
theorem dX6_isOpen_8 : decode cX6_isOpen 8 = .ok (.ifCond .eq 29, 3) := by decide +kernel
theorem dX6_isOpen_11 : decode cX6_isOpen 11 = .ok (.aload_n 0, 1) := by decide +kernel
theorem dX6_isOpen_12 : decode cX6_isOpen 12 = .ok (.getfield 10, 3) := by decide +kernel
theorem dX6_isOpen_15 : decode cX6_isOpen 15 = .ok (.getfield 103, 3) := by decide +kernel
theorem dX6_isOpen_18 : decode cX6_isOpen 18 = .ok (.iload_n 1, 1) := by decide +kernel
theorem dX6_isOpen_19 : decode cX6_isOpen 19 = .ok (.aaload, 1) := by decide +kernel
theorem dX6_isOpen_20 : decode cX6_isOpen 20 = .ok (.getfield 199, 3) := by decide +kernel
theorem dX6_isOpen_23 : decode cX6_isOpen 23 = .ok (.aload_n 0, 1) := by decide +kernel
theorem dX6_isOpen_24 : decode cX6_isOpen 24 = .ok (.getfield 10, 3) := by decide +kernel
theorem dX6_isOpen_27 : decode cX6_isOpen 27 = .ok (.getfield 171, 3) := by decide +kernel
theorem dX6_isOpen_30 : decode cX6_isOpen 30 = .ok (.if_icmp .gt 7, 3) := by decide +kernel
theorem dX6_isOpen_33 : decode cX6_isOpen 33 = .ok (.iconst 1, 1) := by decide +kernel
theorem dX6_isOpen_34 : decode cX6_isOpen 34 = .ok (.goto 4, 3) := by decide +kernel
theorem dX6_isOpen_37 : decode cX6_isOpen 37 = .ok (.iconst 0, 1) := by decide +kernel
theorem dX6_isOpen_38 : decode cX6_isOpen 38 = .ok (.ireturn, 1) := by decide +kernel
theorem dX6_outletFor_0 : decode cX6_outletFor 0 = .ok (.aload_n 0, 1) := by decide +kernel
theorem dX6_outletFor_1 : decode cX6_outletFor 1 = .ok (.getfield 10, 3) := by decide +kernel
theorem dX6_outletFor_4 : decode cX6_outletFor 4 = .ok (.getfield 45, 3) := by decide +kernel
theorem dX6_outletFor_7 : decode cX6_outletFor 7 = .ok (.iload_n 1, 1) := by decide +kernel
theorem dX6_outletFor_8 : decode cX6_outletFor 8 = .ok (.aaload, 1) := by decide +kernel
theorem dX6_outletFor_9 : decode cX6_outletFor 9 = .ok (.getfield 66, 3) := by decide +kernel
theorem dX6_outletFor_12 : decode cX6_outletFor 12 = .ok (.lookupswitch 87 #[(2, 28), (3, 41)], 28) := by decide +kernel
theorem dX6_outletFor_40 : decode cX6_outletFor 40 = .ok (.aload_n 0, 1) := by decide +kernel
theorem dX6_outletFor_41 : decode cX6_outletFor 41 = .ok (.getfield 10, 3) := by decide +kernel
theorem dX6_outletFor_44 : decode cX6_outletFor 44 = .ok (.iload_n 1, 1) := by decide +kernel
theorem dX6_outletFor_45 : decode cX6_outletFor 45 = .ok (.aload_n 2, 1) := by decide +kernel
theorem dX6_outletFor_46 : decode cX6_outletFor 46 = .ok (.getfield 268, 3) := by decide +kernel
theorem dX6_outletFor_49 : decode cX6_outletFor 49 = .ok (.invokevirtual 271, 3) := by decide +kernel
theorem dX6_outletFor_52 : decode cX6_outletFor 52 = .ok (.ireturn, 1) := by decide +kernel
theorem dX6_outletFor_53 : decode cX6_outletFor 53 = .ok (.aload_n 0, 1) := by decide +kernel
theorem dX6_outletFor_54 : decode cX6_outletFor 54 = .ok (.getfield 10, 3) := by decide +kernel
theorem dX6_outletFor_57 : decode cX6_outletFor 57 = .ok (.aload_n 2, 1) := by decide +kernel
theorem dX6_outletFor_58 : decode cX6_outletFor 58 = .ok (.getfield 262, 3) := by decide +kernel
theorem dX6_outletFor_61 : decode cX6_outletFor 61 = .ok (.invokevirtual 114, 3) := by decide +kernel
theorem dX6_outletFor_64 : decode cX6_outletFor 64 = .ok (.ifCond .eq 33, 3) := by decide +kernel
theorem dX6_outletFor_67 : decode cX6_outletFor 67 = .ok (.aload_n 0, 1) := by decide +kernel
theorem dX6_outletFor_68 : decode cX6_outletFor 68 = .ok (.getfield 19, 3) := by decide +kernel
theorem dX6_outletFor_71 : decode cX6_outletFor 71 = .ok (.aload_n 0, 1) := by decide +kernel
theorem dX6_outletFor_72 : decode cX6_outletFor 72 = .ok (.getfield 10, 3) := by decide +kernel
theorem dX6_outletFor_75 : decode cX6_outletFor 75 = .ok (.iload_n 1, 1) := by decide +kernel
theorem dX6_outletFor_76 : decode cX6_outletFor 76 = .ok (.aload_n 0, 1) := by decide +kernel
theorem dX6_outletFor_77 : decode cX6_outletFor 77 = .ok (.getfield 10, 3) := by decide +kernel
theorem dX6_outletFor_80 : decode cX6_outletFor 80 = .ok (.getfield 103, 3) := by decide +kernel
theorem dX6_outletFor_83 : decode cX6_outletFor 83 = .ok (.aload_n 2, 1) := by decide +kernel
theorem dX6_outletFor_84 : decode cX6_outletFor 84 = .ok (.getfield 262, 3) := by decide +kernel
theorem dX6_outletFor_87 : decode cX6_outletFor 87 = .ok (.aaload, 1) := by decide +kernel
theorem dX6_outletFor_88 : decode cX6_outletFor 88 = .ok (.getfield 192, 3) := by decide +kernel
theorem dX6_outletFor_91 : decode cX6_outletFor 91 = .ok (.invokevirtual 195, 3) := by decide +kernel
theorem dX6_outletFor_94 : decode cX6_outletFor 94 = .ok (.goto 4, 3) := by decide +kernel
theorem dX6_outletFor_97 : decode cX6_outletFor 97 = .ok (.iconst (-1), 1) := by decide +kernel
theorem dX6_outletFor_98 : decode cX6_outletFor 98 = .ok (.ireturn, 1) := by decide +kernel
theorem dX6_outletFor_99 : decode cX6_outletFor 99 = .ok (.aload_n 0, 1) := by decide +kernel
theorem dX6_outletFor_100 : decode cX6_outletFor 100 = .ok (.getfield 10, 3) := by decide +kernel
theorem dX6_outletFor_103 : decode cX6_outletFor 103 = .ok (.iload_n 1, 1) := by decide +kernel
theorem dX6_outletFor_104 : decode cX6_outletFor 104 = .ok (.invokevirtual 275, 3) := by decide +kernel
theorem dX6_outletFor_107 : decode cX6_outletFor 107 = .ok (.ireturn, 1) := by decide +kernel
theorem dX6_receiveAt_0 : decode cX6_receiveAt 0 = .ok (.aload_n 0, 1) := by decide +kernel
theorem dX6_receiveAt_1 : decode cX6_receiveAt 1 = .ok (.getfield 10, 3) := by decide +kernel
theorem dX6_receiveAt_4 : decode cX6_receiveAt 4 = .ok (.getfield 45, 3) := by decide +kernel
theorem dX6_receiveAt_7 : decode cX6_receiveAt 7 = .ok (.iload_n 1, 1) := by decide +kernel
theorem dX6_receiveAt_8 : decode cX6_receiveAt 8 = .ok (.aaload, 1) := by decide +kernel
theorem dX6_receiveAt_9 : decode cX6_receiveAt 9 = .ok (.astore_n 2, 1) := by decide +kernel
theorem dX6_receiveAt_10 : decode cX6_receiveAt 10 = .ok (.aload_n 2, 1) := by decide +kernel
theorem dX6_receiveAt_11 : decode cX6_receiveAt 11 = .ok (.invokevirtual 278, 3) := by decide +kernel
theorem dX6_receiveAt_14 : decode cX6_receiveAt 14 = .ok (.ifCond .ne 4, 3) := by decide +kernel
theorem dX6_receiveAt_17 : decode cX6_receiveAt 17 = .ok (.return_, 1) := by decide +kernel
theorem dX6_receiveAt_18 : decode cX6_receiveAt 18 = .ok (.aload_n 2, 1) := by decide +kernel
theorem dX6_receiveAt_19 : decode cX6_receiveAt 19 = .ok (.getfield 66, 3) := by decide +kernel
theorem dX6_receiveAt_22 : decode cX6_receiveAt 22 = .ok (.iconst 1, 1) := by decide +kernel
theorem dX6_receiveAt_23 : decode cX6_receiveAt 23 = .ok (.if_icmp .ne 11, 3) := by decide +kernel
theorem dX6_receiveAt_26 : decode cX6_receiveAt 26 = .ok (.aload_n 0, 1) := by decide +kernel
theorem dX6_receiveAt_27 : decode cX6_receiveAt 27 = .ok (.iload_n 1, 1) := by decide +kernel
theorem dX6_receiveAt_28 : decode cX6_receiveAt 28 = .ok (.invokevirtual 281, 3) := by decide +kernel
theorem dX6_receiveAt_31 : decode cX6_receiveAt 31 = .ok (.goto 21, 3) := by decide +kernel
theorem dX6_receiveAt_34 : decode cX6_receiveAt 34 = .ok (.aload_n 0, 1) := by decide +kernel
theorem dX6_receiveAt_35 : decode cX6_receiveAt 35 = .ok (.iload_n 1, 1) := by decide +kernel
theorem dX6_receiveAt_36 : decode cX6_receiveAt 36 = .ok (.aload_n 2, 1) := by decide +kernel
theorem dX6_receiveAt_37 : decode cX6_receiveAt 37 = .ok (.getfield 66, 3) := by decide +kernel
theorem dX6_receiveAt_40 : decode cX6_receiveAt 40 = .ok (.iconst 5, 1) := by decide +kernel
theorem dX6_receiveAt_41 : decode cX6_receiveAt 41 = .ok (.if_icmp .ne 7, 3) := by decide +kernel
theorem dX6_receiveAt_44 : decode cX6_receiveAt 44 = .ok (.iconst 1, 1) := by decide +kernel
theorem dX6_receiveAt_45 : decode cX6_receiveAt 45 = .ok (.goto 4, 3) := by decide +kernel
theorem dX6_receiveAt_48 : decode cX6_receiveAt 48 = .ok (.iconst 0, 1) := by decide +kernel
theorem dX6_receiveAt_49 : decode cX6_receiveAt 49 = .ok (.invokevirtual 284, 3) := by decide +kernel
theorem dX6_receiveAt_52 : decode cX6_receiveAt 52 = .ok (.return_, 1) := by decide +kernel
theorem dX6_receiveByNumbers_0 : decode cX6_receiveByNumbers 0 = .ok (.iconst 0, 1) := by decide +kernel
theorem dX6_receiveByNumbers_1 : decode cX6_receiveByNumbers 1 = .ok (.istore_n 3, 1) := by decide +kernel
theorem dX6_receiveByNumbers_2 : decode cX6_receiveByNumbers 2 = .ok (.iload_n 3, 1) := by decide +kernel
theorem dX6_receiveByNumbers_3 : decode cX6_receiveByNumbers 3 = .ok (.aload_n 0, 1) := by decide +kernel
theorem dX6_receiveByNumbers_4 : decode cX6_receiveByNumbers 4 = .ok (.getfield 10, 3) := by decide +kernel
theorem dX6_receiveByNumbers_7 : decode cX6_receiveByNumbers 7 = .ok (.getfield 69, 3) := by decide +kernel
theorem dX6_receiveByNumbers_10 : decode cX6_receiveByNumbers 10 = .ok (.if_icmp .ge 39, 3) := by decide +kernel
theorem dX6_receiveByNumbers_13 : decode cX6_receiveByNumbers 13 = .ok (.aload_n 0, 1) := by decide +kernel
theorem dX6_receiveByNumbers_14 : decode cX6_receiveByNumbers 14 = .ok (.getfield 10, 3) := by decide +kernel
theorem dX6_receiveByNumbers_17 : decode cX6_receiveByNumbers 17 = .ok (.getfield 72, 3) := by decide +kernel
theorem dX6_receiveByNumbers_20 : decode cX6_receiveByNumbers 20 = .ok (.iload_n 3, 1) := by decide +kernel
theorem dX6_receiveByNumbers_21 : decode cX6_receiveByNumbers 21 = .ok (.aaload, 1) := by decide +kernel
theorem dX6_receiveByNumbers_22 : decode cX6_receiveByNumbers 22 = .ok (.getfield 88, 3) := by decide +kernel
theorem dX6_receiveByNumbers_25 : decode cX6_receiveByNumbers 25 = .ok (.iload_n 1, 1) := by decide +kernel
theorem dX6_receiveByNumbers_26 : decode cX6_receiveByNumbers 26 = .ok (.if_icmp .ne 17, 3) := by decide +kernel
theorem dX6_receiveByNumbers_29 : decode cX6_receiveByNumbers 29 = .ok (.aload_n 0, 1) := by decide +kernel
theorem dX6_receiveByNumbers_30 : decode cX6_receiveByNumbers 30 = .ok (.iload_n 3, 1) := by decide +kernel
theorem dX6_receiveByNumbers_31 : decode cX6_receiveByNumbers 31 = .ok (.iload_n 1, 1) := by decide +kernel
theorem dX6_receiveByNumbers_32 : decode cX6_receiveByNumbers 32 = .ok (.invokevirtual 288, 3) := by decide +kernel
theorem dX6_receiveByNumbers_35 : decode cX6_receiveByNumbers 35 = .ok (.ifCond .eq 8, 3) := by decide +kernel
theorem dX6_receiveByNumbers_38 : decode cX6_receiveByNumbers 38 = .ok (.iload_n 2, 1) := by decide +kernel
theorem dX6_receiveByNumbers_39 : decode cX6_receiveByNumbers 39 = .ok (.ifCond .ne 4, 3) := by decide +kernel
theorem dX6_receiveByNumbers_42 : decode cX6_receiveByNumbers 42 = .ok (.return_, 1) := by decide +kernel
theorem dX6_receiveByNumbers_43 : decode cX6_receiveByNumbers 43 = .ok (.iinc 3 1, 3) := by decide +kernel
theorem dX6_receiveByNumbers_46 : decode cX6_receiveByNumbers 46 = .ok (.goto (-44), 3) := by decide +kernel
theorem dX6_receiveByNumbers_49 : decode cX6_receiveByNumbers 49 = .ok (.return_, 1) := by decide +kernel
theorem dX6_receiveByTurns_0 : decode cX6_receiveByTurns 0 = .ok (.aload_n 0, 1) := by decide +kernel
theorem dX6_receiveByTurns_1 : decode cX6_receiveByTurns 1 = .ok (.getfield 10, 3) := by decide +kernel
theorem dX6_receiveByTurns_4 : decode cX6_receiveByTurns 4 = .ok (.getfield 45, 3) := by decide +kernel
theorem dX6_receiveByTurns_7 : decode cX6_receiveByTurns 7 = .ok (.iload_n 1, 1) := by decide +kernel
theorem dX6_receiveByTurns_8 : decode cX6_receiveByTurns 8 = .ok (.aaload, 1) := by decide +kernel
theorem dX6_receiveByTurns_9 : decode cX6_receiveByTurns 9 = .ok (.astore_n 2, 1) := by decide +kernel
theorem dX6_receiveByTurns_10 : decode cX6_receiveByTurns 10 = .ok (.aload_n 0, 1) := by decide +kernel
theorem dX6_receiveByTurns_11 : decode cX6_receiveByTurns 11 = .ok (.getfield 10, 3) := by decide +kernel
theorem dX6_receiveByTurns_14 : decode cX6_receiveByTurns 14 = .ok (.iload_n 1, 1) := by decide +kernel
theorem dX6_receiveByTurns_15 : decode cX6_receiveByTurns 15 = .ok (.invokevirtual 291, 3) := by decide +kernel
theorem dX6_receiveByTurns_18 : decode cX6_receiveByTurns 18 = .ok (.istore_n 3, 1) := by decide +kernel
theorem dX6_receiveByTurns_19 : decode cX6_receiveByTurns 19 = .ok (.iconst 0, 1) := by decide +kernel
theorem dX6_receiveByTurns_20 : decode cX6_receiveByTurns 20 = .ok (.istore 4, 2) := by decide +kernel
theorem dX6_receiveByTurns_22 : decode cX6_receiveByTurns 22 = .ok (.iload 4, 2) := by decide +kernel
theorem dX6_receiveByTurns_24 : decode cX6_receiveByTurns 24 = .ok (.iload_n 3, 1) := by decide +kernel
theorem dX6_receiveByTurns_25 : decode cX6_receiveByTurns 25 = .ok (.if_icmp .gt 49, 3) := by decide +kernel
theorem dX6_receiveByTurns_28 : decode cX6_receiveByTurns 28 = .ok (.iload 4, 2) := by decide +kernel
theorem dX6_receiveByTurns_30 : decode cX6_receiveByTurns 30 = .ok (.ifCond .le 8, 3) := by decide +kernel
theorem dX6_receiveByTurns_33 : decode cX6_receiveByTurns 33 = .ok (.aload_n 0, 1) := by decide +kernel
theorem dX6_receiveByTurns_34 : decode cX6_receiveByTurns 34 = .ok (.iload_n 1, 1) := by decide +kernel
theorem dX6_receiveByTurns_35 : decode cX6_receiveByTurns 35 = .ok (.invokevirtual 294, 3) := by decide +kernel
theorem dX6_receiveByTurns_38 : decode cX6_receiveByTurns 38 = .ok (.aload_n 2, 1) := by decide +kernel
theorem dX6_receiveByTurns_39 : decode cX6_receiveByTurns 39 = .ok (.getfield 297, 3) := by decide +kernel
theorem dX6_receiveByTurns_42 : decode cX6_receiveByTurns 42 = .ok (.ifCond .le 26, 3) := by decide +kernel
theorem dX6_receiveByTurns_45 : decode cX6_receiveByTurns 45 = .ok (.aload_n 0, 1) := by decide +kernel
theorem dX6_receiveByTurns_46 : decode cX6_receiveByTurns 46 = .ok (.aload_n 2, 1) := by decide +kernel
theorem dX6_receiveByTurns_47 : decode cX6_receiveByTurns 47 = .ok (.getfield 300, 3) := by decide +kernel
theorem dX6_receiveByTurns_50 : decode cX6_receiveByTurns 50 = .ok (.iload_n 1, 1) := by decide +kernel
theorem dX6_receiveByTurns_51 : decode cX6_receiveByTurns 51 = .ok (.invokevirtual 288, 3) := by decide +kernel
theorem dX6_receiveByTurns_54 : decode cX6_receiveByTurns 54 = .ok (.ifCond .eq 14, 3) := by decide +kernel
theorem dX6_receiveByTurns_57 : decode cX6_receiveByTurns 57 = .ok (.aload_n 2, 1) := by decide +kernel
theorem dX6_receiveByTurns_58 : decode cX6_receiveByTurns 58 = .ok (.dup, 1) := by decide +kernel
theorem dX6_receiveByTurns_59 : decode cX6_receiveByTurns 59 = .ok (.getfield 297, 3) := by decide +kernel
theorem dX6_receiveByTurns_62 : decode cX6_receiveByTurns 62 = .ok (.iconst 1, 1) := by decide +kernel
theorem dX6_receiveByTurns_63 : decode cX6_receiveByTurns 63 = .ok (.isub, 1) := by decide +kernel
theorem dX6_receiveByTurns_64 : decode cX6_receiveByTurns 64 = .ok (.putfield 297, 3) := by decide +kernel
theorem dX6_receiveByTurns_67 : decode cX6_receiveByTurns 67 = .ok (.return_, 1) := by decide +kernel
theorem dX6_receiveByTurns_68 : decode cX6_receiveByTurns 68 = .ok (.iinc 4 1, 3) := by decide +kernel
theorem dX6_receiveByTurns_71 : decode cX6_receiveByTurns 71 = .ok (.goto (-49), 3) := by decide +kernel
theorem dX6_receiveByTurns_74 : decode cX6_receiveByTurns 74 = .ok (.return_, 1) := by decide +kernel
theorem dX6_passTurn_0 : decode cX6_passTurn 0 = .ok (.aload_n 0, 1) := by decide +kernel
theorem dX6_passTurn_1 : decode cX6_passTurn 1 = .ok (.getfield 10, 3) := by decide +kernel
theorem dX6_passTurn_4 : decode cX6_passTurn 4 = .ok (.aload_n 0, 1) := by decide +kernel
theorem dX6_passTurn_5 : decode cX6_passTurn 5 = .ok (.getfield 10, 3) := by decide +kernel
theorem dX6_passTurn_8 : decode cX6_passTurn 8 = .ok (.getfield 45, 3) := by decide +kernel
theorem dX6_passTurn_11 : decode cX6_passTurn 11 = .ok (.iload_n 1, 1) := by decide +kernel
theorem dX6_passTurn_12 : decode cX6_passTurn 12 = .ok (.aaload, 1) := by decide +kernel
theorem dX6_passTurn_13 : decode cX6_passTurn 13 = .ok (.getfield 300, 3) := by decide +kernel
theorem dX6_passTurn_16 : decode cX6_passTurn 16 = .ok (.iload_n 1, 1) := by decide +kernel
theorem dX6_passTurn_17 : decode cX6_passTurn 17 = .ok (.invokevirtual 303, 3) := by decide +kernel
theorem dX6_passTurn_20 : decode cX6_passTurn 20 = .ok (.istore_n 2, 1) := by decide +kernel
theorem dX6_passTurn_21 : decode cX6_passTurn 21 = .ok (.aload_n 0, 1) := by decide +kernel
theorem dX6_passTurn_22 : decode cX6_passTurn 22 = .ok (.getfield 10, 3) := by decide +kernel
theorem dX6_passTurn_25 : decode cX6_passTurn 25 = .ok (.iload_n 2, 1) := by decide +kernel
theorem dX6_passTurn_26 : decode cX6_passTurn 26 = .ok (.invokevirtual 85, 3) := by decide +kernel
theorem dX6_passTurn_29 : decode cX6_passTurn 29 = .ok (.ifCond .eq 28, 3) := by decide +kernel
theorem dX6_passTurn_32 : decode cX6_passTurn 32 = .ok (.aload_n 0, 1) := by decide +kernel
theorem dX6_passTurn_33 : decode cX6_passTurn 33 = .ok (.getfield 10, 3) := by decide +kernel
theorem dX6_passTurn_36 : decode cX6_passTurn 36 = .ok (.getfield 45, 3) := by decide +kernel
theorem dX6_passTurn_39 : decode cX6_passTurn 39 = .ok (.iload_n 1, 1) := by decide +kernel
theorem dX6_passTurn_40 : decode cX6_passTurn 40 = .ok (.aaload, 1) := by decide +kernel
theorem dX6_passTurn_41 : decode cX6_passTurn 41 = .ok (.iload_n 2, 1) := by decide +kernel
theorem dX6_passTurn_42 : decode cX6_passTurn 42 = .ok (.aload_n 0, 1) := by decide +kernel
theorem dX6_passTurn_43 : decode cX6_passTurn 43 = .ok (.getfield 10, 3) := by decide +kernel
theorem dX6_passTurn_46 : decode cX6_passTurn 46 = .ok (.getfield 72, 3) := by decide +kernel
theorem dX6_passTurn_49 : decode cX6_passTurn 49 = .ok (.iload_n 2, 1) := by decide +kernel
theorem dX6_passTurn_50 : decode cX6_passTurn 50 = .ok (.aaload, 1) := by decide +kernel
theorem dX6_passTurn_51 : decode cX6_passTurn 51 = .ok (.getfield 94, 3) := by decide +kernel
theorem dX6_passTurn_54 : decode cX6_passTurn 54 = .ok (.invokevirtual 306, 3) := by decide +kernel
theorem dX6_passTurn_57 : decode cX6_passTurn 57 = .ok (.return_, 1) := by decide +kernel
theorem dX6_receiveFrom_0 : decode cX6_receiveFrom 0 = .ok (.aload_n 0, 1) := by decide +kernel
theorem dX6_receiveFrom_1 : decode cX6_receiveFrom 1 = .ok (.getfield 10, 3) := by decide +kernel
theorem dX6_receiveFrom_4 : decode cX6_receiveFrom 4 = .ok (.iload_n 1, 1) := by decide +kernel
theorem dX6_receiveFrom_5 : decode cX6_receiveFrom 5 = .ok (.invokevirtual 85, 3) := by decide +kernel
theorem dX6_receiveFrom_8 : decode cX6_receiveFrom 8 = .ok (.ifCond .ne 5, 3) := by decide +kernel
theorem dX6_receiveFrom_11 : decode cX6_receiveFrom 11 = .ok (.iconst 0, 1) := by decide +kernel
theorem dX6_receiveFrom_12 : decode cX6_receiveFrom 12 = .ok (.ireturn, 1) := by decide +kernel
theorem dX6_receiveFrom_13 : decode cX6_receiveFrom 13 = .ok (.aload_n 0, 1) := by decide +kernel
theorem dX6_receiveFrom_14 : decode cX6_receiveFrom 14 = .ok (.getfield 10, 3) := by decide +kernel
theorem dX6_receiveFrom_17 : decode cX6_receiveFrom 17 = .ok (.getfield 72, 3) := by decide +kernel
theorem dX6_receiveFrom_20 : decode cX6_receiveFrom 20 = .ok (.iload_n 1, 1) := by decide +kernel
theorem dX6_receiveFrom_21 : decode cX6_receiveFrom 21 = .ok (.aaload, 1) := by decide +kernel
theorem dX6_receiveFrom_22 : decode cX6_receiveFrom 22 = .ok (.invokevirtual 309, 3) := by decide +kernel
theorem dX6_receiveFrom_25 : decode cX6_receiveFrom 25 = .ok (.istore_n 3, 1) := by decide +kernel
theorem dX6_receiveFrom_26 : decode cX6_receiveFrom 26 = .ok (.aload_n 0, 1) := by decide +kernel
theorem dX6_receiveFrom_27 : decode cX6_receiveFrom 27 = .ok (.getfield 10, 3) := by decide +kernel
theorem dX6_receiveFrom_30 : decode cX6_receiveFrom 30 = .ok (.iload_n 3, 1) := by decide +kernel
theorem dX6_receiveFrom_31 : decode cX6_receiveFrom 31 = .ok (.invokevirtual 132, 3) := by decide +kernel
theorem dX6_receiveFrom_34 : decode cX6_receiveFrom 34 = .ok (.ifCond .ne 5, 3) := by decide +kernel
theorem dX6_receiveFrom_37 : decode cX6_receiveFrom 37 = .ok (.iconst 0, 1) := by decide +kernel
theorem dX6_receiveFrom_38 : decode cX6_receiveFrom 38 = .ok (.ireturn, 1) := by decide +kernel
theorem dX6_receiveFrom_39 : decode cX6_receiveFrom 39 = .ok (.aload_n 0, 1) := by decide +kernel
theorem dX6_receiveFrom_40 : decode cX6_receiveFrom 40 = .ok (.getfield 10, 3) := by decide +kernel
theorem dX6_receiveFrom_43 : decode cX6_receiveFrom 43 = .ok (.getfield 72, 3) := by decide +kernel
theorem dX6_receiveFrom_46 : decode cX6_receiveFrom 46 = .ok (.iload_n 1, 1) := by decide +kernel
theorem dX6_receiveFrom_47 : decode cX6_receiveFrom 47 = .ok (.aaload, 1) := by decide +kernel
theorem dX6_receiveFrom_48 : decode cX6_receiveFrom 48 = .ok (.iload_n 3, 1) := by decide +kernel
theorem dX6_receiveFrom_49 : decode cX6_receiveFrom 49 = .ok (.invokevirtual 312, 3) := by decide +kernel
theorem dX6_receiveFrom_52 : decode cX6_receiveFrom 52 = .ok (.aload_n 0, 1) := by decide +kernel
theorem dX6_receiveFrom_53 : decode cX6_receiveFrom 53 = .ok (.getfield 10, 3) := by decide +kernel
theorem dX6_receiveFrom_56 : decode cX6_receiveFrom 56 = .ok (.getfield 45, 3) := by decide +kernel
theorem dX6_receiveFrom_59 : decode cX6_receiveFrom 59 = .ok (.iload_n 2, 1) := by decide +kernel
theorem dX6_receiveFrom_60 : decode cX6_receiveFrom 60 = .ok (.aaload, 1) := by decide +kernel
theorem dX6_receiveFrom_61 : decode cX6_receiveFrom 61 = .ok (.getfield 66, 3) := by decide +kernel
theorem dX6_receiveFrom_64 : decode cX6_receiveFrom 64 = .ok (.iconst 5, 1) := by decide +kernel
theorem dX6_receiveFrom_65 : decode cX6_receiveFrom 65 = .ok (.if_icmp .eq 16, 3) := by decide +kernel
theorem dX6_receiveFrom_68 : decode cX6_receiveFrom 68 = .ok (.aload_n 0, 1) := by decide +kernel
theorem dX6_receiveFrom_69 : decode cX6_receiveFrom 69 = .ok (.getfield 10, 3) := by decide +kernel
theorem dX6_receiveFrom_72 : decode cX6_receiveFrom 72 = .ok (.getfield 45, 3) := by decide +kernel
theorem dX6_receiveFrom_75 : decode cX6_receiveFrom 75 = .ok (.iload_n 2, 1) := by decide +kernel
theorem dX6_receiveFrom_76 : decode cX6_receiveFrom 76 = .ok (.aaload, 1) := by decide +kernel
theorem dX6_receiveFrom_77 : decode cX6_receiveFrom 77 = .ok (.iload_n 3, 1) := by decide +kernel
theorem dX6_receiveFrom_78 : decode cX6_receiveFrom 78 = .ok (.invokevirtual 313, 3) := by decide +kernel
theorem dX6_receiveFrom_81 : decode cX6_receiveFrom 81 = .ok (.aload_n 0, 1) := by decide +kernel
theorem dX6_receiveFrom_82 : decode cX6_receiveFrom 82 = .ok (.getfield 10, 3) := by decide +kernel
theorem dX6_receiveFrom_85 : decode cX6_receiveFrom 85 = .ok (.getfield 120, 3) := by decide +kernel
theorem dX6_receiveFrom_88 : decode cX6_receiveFrom 88 = .ok (.iload_n 3, 1) := by decide +kernel
theorem dX6_receiveFrom_89 : decode cX6_receiveFrom 89 = .ok (.aaload, 1) := by decide +kernel
theorem dX6_receiveFrom_90 : decode cX6_receiveFrom 90 = .ok (.astore 4, 2) := by decide +kernel
theorem dX6_receiveFrom_92 : decode cX6_receiveFrom 92 = .ok (.aload 4, 2) := by decide +kernel
theorem dX6_receiveFrom_94 : decode cX6_receiveFrom 94 = .ok (.aload_n 0, 1) := by decide +kernel
theorem dX6_receiveFrom_95 : decode cX6_receiveFrom 95 = .ok (.iload_n 2, 1) := by decide +kernel
theorem dX6_receiveFrom_96 : decode cX6_receiveFrom 96 = .ok (.aload 4, 2) := by decide +kernel
theorem dX6_receiveFrom_98 : decode cX6_receiveFrom 98 = .ok (.getfield 262, 3) := by decide +kernel
theorem dX6_receiveFrom_101 : decode cX6_receiveFrom 101 = .ok (.invokevirtual 316, 3) := by decide +kernel
theorem dX6_receiveFrom_104 : decode cX6_receiveFrom 104 = .ok (.iload_n 2, 1) := by decide +kernel
theorem dX6_receiveFrom_105 : decode cX6_receiveFrom 105 = .ok (.invokevirtual 250, 3) := by decide +kernel
theorem dX6_receiveFrom_108 : decode cX6_receiveFrom 108 = .ok (.aload 4, 2) := by decide +kernel
theorem dX6_receiveFrom_110 : decode cX6_receiveFrom 110 = .ok (.aload_n 0, 1) := by decide +kernel
theorem dX6_receiveFrom_111 : decode cX6_receiveFrom 111 = .ok (.getfield 10, 3) := by decide +kernel
theorem dX6_receiveFrom_114 : decode cX6_receiveFrom 114 = .ok (.getfield 171, 3) := by decide +kernel
theorem dX6_receiveFrom_117 : decode cX6_receiveFrom 117 = .ok (.putfield 153, 3) := by decide +kernel
theorem dX6_receiveFrom_120 : decode cX6_receiveFrom 120 = .ok (.aload 4, 2) := by decide +kernel
theorem dX6_receiveFrom_122 : decode cX6_receiveFrom 122 = .ok (.aload_n 0, 1) := by decide +kernel
theorem dX6_receiveFrom_123 : decode cX6_receiveFrom 123 = .ok (.getfield 10, 3) := by decide +kernel
theorem dX6_receiveFrom_126 : decode cX6_receiveFrom 126 = .ok (.getfield 171, 3) := by decide +kernel
theorem dX6_receiveFrom_129 : decode cX6_receiveFrom 129 = .ok (.iload_n 2, 1) := by decide +kernel
theorem dX6_receiveFrom_130 : decode cX6_receiveFrom 130 = .ok (.invokevirtual 253, 3) := by decide +kernel
theorem dX6_receiveFrom_133 : decode cX6_receiveFrom 133 = .ok (.iconst 1, 1) := by decide +kernel
theorem dX6_receiveFrom_134 : decode cX6_receiveFrom 134 = .ok (.ireturn, 1) := by decide +kernel
theorem dX6_whereAt_0 : decode cX6_whereAt 0 = .ok (.aload_n 0, 1) := by decide +kernel
theorem dX6_whereAt_1 : decode cX6_whereAt 1 = .ok (.getfield 10, 3) := by decide +kernel
theorem dX6_whereAt_4 : decode cX6_whereAt 4 = .ok (.getfield 45, 3) := by decide +kernel
theorem dX6_whereAt_7 : decode cX6_whereAt 7 = .ok (.iload_n 1, 1) := by decide +kernel
theorem dX6_whereAt_8 : decode cX6_whereAt 8 = .ok (.aaload, 1) := by decide +kernel
theorem dX6_whereAt_9 : decode cX6_whereAt 9 = .ok (.getfield 66, 3) := by decide +kernel
theorem dX6_whereAt_12 : decode cX6_whereAt 12 = .ok (.istore_n 3, 1) := by decide +kernel
theorem dX6_whereAt_13 : decode cX6_whereAt 13 = .ok (.iload_n 3, 1) := by decide +kernel
theorem dX6_whereAt_14 : decode cX6_whereAt 14 = .ok (.iconst 5, 1) := by decide +kernel
theorem dX6_whereAt_15 : decode cX6_whereAt 15 = .ok (.if_icmp .eq 14, 3) := by decide +kernel
theorem dX6_whereAt_18 : decode cX6_whereAt 18 = .ok (.iload_n 3, 1) := by decide +kernel
theorem dX6_whereAt_19 : decode cX6_whereAt 19 = .ok (.iconst 4, 1) := by decide +kernel
theorem dX6_whereAt_20 : decode cX6_whereAt 20 = .ok (.if_icmp .ne 7, 3) := by decide +kernel
theorem dX6_whereAt_23 : decode cX6_whereAt 23 = .ok (.iconst 3, 1) := by decide +kernel
theorem dX6_whereAt_24 : decode cX6_whereAt 24 = .ok (.goto 4, 3) := by decide +kernel
theorem dX6_whereAt_27 : decode cX6_whereAt 27 = .ok (.iconst 2, 1) := by decide +kernel
theorem dX6_whereAt_28 : decode cX6_whereAt 28 = .ok (.ireturn, 1) := by decide +kernel
theorem dX6_whereAt_29 : decode cX6_whereAt 29 = .ok (.aload_n 0, 1) := by decide +kernel
theorem dX6_whereAt_30 : decode cX6_whereAt 30 = .ok (.getfield 10, 3) := by decide +kernel
theorem dX6_whereAt_33 : decode cX6_whereAt 33 = .ok (.iload_n 2, 1) := by decide +kernel
theorem dX6_whereAt_34 : decode cX6_whereAt 34 = .ok (.invokevirtual 114, 3) := by decide +kernel
theorem dX6_whereAt_37 : decode cX6_whereAt 37 = .ok (.ifCond .eq 19, 3) := by decide +kernel
theorem dX6_whereAt_40 : decode cX6_whereAt 40 = .ok (.aload_n 0, 1) := by decide +kernel
theorem dX6_whereAt_41 : decode cX6_whereAt 41 = .ok (.getfield 10, 3) := by decide +kernel
theorem dX6_whereAt_44 : decode cX6_whereAt 44 = .ok (.getfield 103, 3) := by decide +kernel
theorem dX6_whereAt_47 : decode cX6_whereAt 47 = .ok (.iload_n 2, 1) := by decide +kernel
theorem dX6_whereAt_48 : decode cX6_whereAt 48 = .ok (.aaload, 1) := by decide +kernel
theorem dX6_whereAt_49 : decode cX6_whereAt 49 = .ok (.getfield 192, 3) := by decide +kernel
theorem dX6_whereAt_52 : decode cX6_whereAt 52 = .ok (.iload_n 1, 1) := by decide +kernel
theorem dX6_whereAt_53 : decode cX6_whereAt 53 = .ok (.if_icmp .eq 6, 3) := by decide +kernel
theorem dX6_whereAt_56 : decode cX6_whereAt 56 = .ok (.bipush 7, 2) := by decide +kernel
theorem dX6_whereAt_58 : decode cX6_whereAt 58 = .ok (.ireturn, 1) := by decide +kernel
theorem dX6_whereAt_59 : decode cX6_whereAt 59 = .ok (.aload_n 0, 1) := by decide +kernel
theorem dX6_whereAt_60 : decode cX6_whereAt 60 = .ok (.getfield 10, 3) := by decide +kernel
theorem dX6_whereAt_63 : decode cX6_whereAt 63 = .ok (.getfield 171, 3) := by decide +kernel
theorem dX6_whereAt_66 : decode cX6_whereAt 66 = .ok (.aload_n 0, 1) := by decide +kernel
theorem dX6_whereAt_67 : decode cX6_whereAt 67 = .ok (.getfield 10, 3) := by decide +kernel
theorem dX6_whereAt_70 : decode cX6_whereAt 70 = .ok (.getfield 103, 3) := by decide +kernel
theorem dX6_whereAt_73 : decode cX6_whereAt 73 = .ok (.iload_n 2, 1) := by decide +kernel
theorem dX6_whereAt_74 : decode cX6_whereAt 74 = .ok (.aaload, 1) := by decide +kernel
theorem dX6_whereAt_75 : decode cX6_whereAt 75 = .ok (.getfield 202, 3) := by decide +kernel
theorem dX6_whereAt_78 : decode cX6_whereAt 78 = .ok (.if_icmp .ge 7, 3) := by decide +kernel
theorem dX6_whereAt_81 : decode cX6_whereAt 81 = .ok (.iconst 5, 1) := by decide +kernel
theorem dX6_whereAt_82 : decode cX6_whereAt 82 = .ok (.goto 5, 3) := by decide +kernel
theorem dX6_whereAt_85 : decode cX6_whereAt 85 = .ok (.bipush 6, 2) := by decide +kernel
theorem dX6_whereAt_87 : decode cX6_whereAt 87 = .ok (.ireturn, 1) := by decide +kernel
theorem dX6_finding_0 : decode cX6_finding 0 = .ok (.aload_n 0, 1) := by decide +kernel
theorem dX6_finding_1 : decode cX6_finding 1 = .ok (.dup, 1) := by decide +kernel
theorem dX6_finding_2 : decode cX6_finding 2 = .ok (.getfield 26, 3) := by decide +kernel
theorem dX6_finding_5 : decode cX6_finding 5 = .ok (.iconst 1, 1) := by decide +kernel
theorem dX6_finding_6 : decode cX6_finding 6 = .ok (.iadd, 1) := by decide +kernel
theorem dX6_finding_7 : decode cX6_finding 7 = .ok (.putfield 26, 3) := by decide +kernel
theorem dX6_finding_10 : decode cX6_finding 10 = .ok (.iload_n 1, 1) := by decide +kernel
theorem dX6_finding_11 : decode cX6_finding 11 = .ok (.ireturn, 1) := by decide +kernel
theorem dX6_within_0 : decode cX6_within 0 = .ok (.iload_n 0, 1) := by decide +kernel
theorem dX6_within_1 : decode cX6_within 1 = .ok (.iload_n 1, 1) := by decide +kernel
theorem dX6_within_2 : decode cX6_within 2 = .ok (.if_icmp .lt 12, 3) := by decide +kernel
theorem dX6_within_5 : decode cX6_within 5 = .ok (.iload_n 0, 1) := by decide +kernel
theorem dX6_within_6 : decode cX6_within 6 = .ok (.iload_n 2, 1) := by decide +kernel
theorem dX6_within_7 : decode cX6_within 7 = .ok (.if_icmp .gt 7, 3) := by decide +kernel
theorem dX6_within_10 : decode cX6_within 10 = .ok (.iconst 1, 1) := by decide +kernel
theorem dX6_within_11 : decode cX6_within 11 = .ok (.goto 4, 3) := by decide +kernel
theorem dX6_within_14 : decode cX6_within 14 = .ok (.iconst 0, 1) := by decide +kernel
theorem dX6_within_15 : decode cX6_within 15 = .ok (.ireturn, 1) := by decide +kernel
theorem dX6_isKind_0 : decode cX6_isKind 0 = .ok (.iload_n 0, 1) := by decide +kernel
theorem dX6_isKind_1 : decode cX6_isKind 1 = .ok (.iconst 0, 1) := by decide +kernel
theorem dX6_isKind_2 : decode cX6_isKind 2 = .ok (.iconst 5, 1) := by decide +kernel
theorem dX6_isKind_3 : decode cX6_isKind 3 = .ok (.invokestatic 62, 3) := by decide +kernel
theorem dX6_isKind_6 : decode cX6_isKind 6 = .ok (.ireturn, 1) := by decide +kernel
theorem dX6_suits_0 : decode cX6_suits 0 = .ok (.iload_n 0, 1) := by decide +kernel
theorem dX6_suits_1 : decode cX6_suits 1 = .ok (.iconst 2, 1) := by decide +kernel
theorem dX6_suits_2 : decode cX6_suits 2 = .ok (.if_icmp .ne 11, 3) := by decide +kernel
theorem dX6_suits_5 : decode cX6_suits 5 = .ok (.iload_n 1, 1) := by decide +kernel
theorem dX6_suits_6 : decode cX6_suits 6 = .ok (.iconst 1, 1) := by decide +kernel
theorem dX6_suits_7 : decode cX6_suits 7 = .ok (.bipush 9, 2) := by decide +kernel
theorem dX6_suits_9 : decode cX6_suits 9 = .ok (.invokestatic 62, 3) := by decide +kernel
theorem dX6_suits_12 : decode cX6_suits 12 = .ok (.ireturn, 1) := by decide +kernel
theorem dX6_suits_13 : decode cX6_suits 13 = .ok (.iload_n 0, 1) := by decide +kernel
theorem dX6_suits_14 : decode cX6_suits 14 = .ok (.iconst 4, 1) := by decide +kernel
theorem dX6_suits_15 : decode cX6_suits 15 = .ok (.if_icmp .ne 13, 3) := by decide +kernel
theorem dX6_suits_18 : decode cX6_suits 18 = .ok (.iload_n 1, 1) := by decide +kernel
theorem dX6_suits_19 : decode cX6_suits 19 = .ok (.iconst 1, 1) := by decide +kernel
theorem dX6_suits_20 : decode cX6_suits 20 = .ok (.bipush 20, 2) := by decide +kernel
theorem dX6_suits_22 : decode cX6_suits 22 = .ok (.invokestatic 62, 3) := by decide +kernel
theorem dX6_suits_25 : decode cX6_suits 25 = .ok (.ifCond .eq 7, 3) := by decide +kernel
theorem dX6_suits_28 : decode cX6_suits 28 = .ok (.iconst 1, 1) := by decide +kernel
theorem dX6_suits_29 : decode cX6_suits 29 = .ok (.goto 4, 3) := by decide +kernel
theorem dX6_suits_32 : decode cX6_suits 32 = .ok (.iconst 0, 1) := by decide +kernel
theorem dX6_suits_33 : decode cX6_suits 33 = .ok (.ireturn, 1) := by decide +kernel
end
section
theorem dX7_init_0 : decode cX7_init 0 = .ok (.aload_n 0, 1) := by decide +kernel
theorem dX7_init_1 : decode cX7_init 1 = .ok (.invokespecial 1, 3) := by decide +kernel
theorem dX7_init_4 : decode cX7_init 4 = .ok (.aload_n 0, 1) := by decide +kernel
theorem dX7_init_5 : decode cX7_init 5 = .ok (.sipush 4324, 3) := by decide +kernel
theorem dX7_init_8 : decode cX7_init 8 = .ok (.newarray .int, 2) := by decide +kernel
theorem dX7_init_10 : decode cX7_init 10 = .ok (.putfield 9, 3) := by decide +kernel
theorem dX7_init_13 : decode cX7_init 13 = .ok (.aload_n 0, 1) := by decide +kernel
theorem dX7_init_14 : decode cX7_init 14 = .ok (.sipush 4324, 3) := by decide +kernel
theorem dX7_init_17 : decode cX7_init 17 = .ok (.newarray .int, 2) := by decide +kernel
theorem dX7_init_19 : decode cX7_init 19 = .ok (.putfield 13, 3) := by decide +kernel
theorem dX7_init_22 : decode cX7_init 22 = .ok (.aload_n 0, 1) := by decide +kernel
theorem dX7_init_23 : decode cX7_init 23 = .ok (.bipush 60, 2) := by decide +kernel
theorem dX7_init_25 : decode cX7_init 25 = .ok (.newarray .boolean, 2) := by decide +kernel
theorem dX7_init_27 : decode cX7_init 27 = .ok (.putfield 16, 3) := by decide +kernel
theorem dX7_init_30 : decode cX7_init 30 = .ok (.aload_n 0, 1) := by decide +kernel
theorem dX7_init_31 : decode cX7_init 31 = .ok (.bipush 12, 2) := by decide +kernel
theorem dX7_init_33 : decode cX7_init 33 = .ok (.newarray .int, 2) := by decide +kernel
theorem dX7_init_35 : decode cX7_init 35 = .ok (.putfield 20, 3) := by decide +kernel
theorem dX7_init_38 : decode cX7_init 38 = .ok (.return_, 1) := by decide +kernel
theorem dX7_finding_0 : decode cX7_finding 0 = .ok (.aload_n 0, 1) := by decide +kernel
theorem dX7_finding_1 : decode cX7_finding 1 = .ok (.dup, 1) := by decide +kernel
theorem dX7_finding_2 : decode cX7_finding 2 = .ok (.getfield 23, 3) := by decide +kernel
theorem dX7_finding_5 : decode cX7_finding 5 = .ok (.iconst 1, 1) := by decide +kernel
theorem dX7_finding_6 : decode cX7_finding 6 = .ok (.iadd, 1) := by decide +kernel
theorem dX7_finding_7 : decode cX7_finding 7 = .ok (.putfield 23, 3) := by decide +kernel
theorem dX7_finding_10 : decode cX7_finding 10 = .ok (.iload_n 1, 1) := by decide +kernel
theorem dX7_finding_11 : decode cX7_finding 11 = .ok (.ireturn, 1) := by decide +kernel
theorem dX7_in_0 : decode cX7_in 0 = .ok (.iload_n 0, 1) := by decide +kernel
theorem dX7_in_1 : decode cX7_in 1 = .ok (.iload_n 1, 1) := by decide +kernel
theorem dX7_in_2 : decode cX7_in 2 = .ok (.if_icmp .lt 12, 3) := by decide +kernel
theorem dX7_in_5 : decode cX7_in 5 = .ok (.iload_n 0, 1) := by decide +kernel
theorem dX7_in_6 : decode cX7_in 6 = .ok (.iload_n 2, 1) := by decide +kernel
theorem dX7_in_7 : decode cX7_in 7 = .ok (.if_icmp .gt 7, 3) := by decide +kernel
theorem dX7_in_10 : decode cX7_in 10 = .ok (.iconst 1, 1) := by decide +kernel
theorem dX7_in_11 : decode cX7_in 11 = .ok (.goto 4, 3) := by decide +kernel
theorem dX7_in_14 : decode cX7_in 14 = .ok (.iconst 0, 1) := by decide +kernel
theorem dX7_in_15 : decode cX7_in 15 = .ok (.ireturn, 1) := by decide +kernel
theorem dX7_isPoint_0 : decode cX7_isPoint 0 = .ok (.iload_n 1, 1) := by decide +kernel
theorem dX7_isPoint_1 : decode cX7_isPoint 1 = .ok (.iconst 0, 1) := by decide +kernel
theorem dX7_isPoint_2 : decode cX7_isPoint 2 = .ok (.aload_n 0, 1) := by decide +kernel
theorem dX7_isPoint_3 : decode cX7_isPoint 3 = .ok (.getfield 9, 3) := by decide +kernel
theorem dX7_isPoint_6 : decode cX7_isPoint 6 = .ok (.iconst 0, 1) := by decide +kernel
theorem dX7_isPoint_7 : decode cX7_isPoint 7 = .ok (.iaload, 1) := by decide +kernel
theorem dX7_isPoint_8 : decode cX7_isPoint 8 = .ok (.iconst 1, 1) := by decide +kernel
theorem dX7_isPoint_9 : decode cX7_isPoint 9 = .ok (.isub, 1) := by decide +kernel
theorem dX7_isPoint_10 : decode cX7_isPoint 10 = .ok (.invokestatic 27, 3) := by decide +kernel
theorem dX7_isPoint_13 : decode cX7_isPoint 13 = .ok (.ireturn, 1) := by decide +kernel
theorem dX7_isBelt_0 : decode cX7_isBelt 0 = .ok (.iload_n 1, 1) := by decide +kernel
theorem dX7_isBelt_1 : decode cX7_isBelt 1 = .ok (.iconst 0, 1) := by decide +kernel
theorem dX7_isBelt_2 : decode cX7_isBelt 2 = .ok (.aload_n 0, 1) := by decide +kernel
theorem dX7_isBelt_3 : decode cX7_isBelt 3 = .ok (.getfield 9, 3) := by decide +kernel
theorem dX7_isBelt_6 : decode cX7_isBelt 6 = .ok (.iconst 1, 1) := by decide +kernel
theorem dX7_isBelt_7 : decode cX7_isBelt 7 = .ok (.iaload, 1) := by decide +kernel
theorem dX7_isBelt_8 : decode cX7_isBelt 8 = .ok (.iconst 1, 1) := by decide +kernel
theorem dX7_isBelt_9 : decode cX7_isBelt 9 = .ok (.isub, 1) := by decide +kernel
theorem dX7_isBelt_10 : decode cX7_isBelt 10 = .ok (.invokestatic 27, 3) := by decide +kernel
theorem dX7_isBelt_13 : decode cX7_isBelt 13 = .ok (.ireturn, 1) := by decide +kernel
theorem dX7_isFlight_0 : decode cX7_isFlight 0 = .ok (.iload_n 1, 1) := by decide +kernel
theorem dX7_isFlight_1 : decode cX7_isFlight 1 = .ok (.iconst 0, 1) := by decide +kernel
theorem dX7_isFlight_2 : decode cX7_isFlight 2 = .ok (.aload_n 0, 1) := by decide +kernel
theorem dX7_isFlight_3 : decode cX7_isFlight 3 = .ok (.getfield 9, 3) := by decide +kernel
theorem dX7_isFlight_6 : decode cX7_isFlight 6 = .ok (.iconst 2, 1) := by decide +kernel
theorem dX7_isFlight_7 : decode cX7_isFlight 7 = .ok (.iaload, 1) := by decide +kernel
theorem dX7_isFlight_8 : decode cX7_isFlight 8 = .ok (.iconst 1, 1) := by decide +kernel
theorem dX7_isFlight_9 : decode cX7_isFlight 9 = .ok (.isub, 1) := by decide +kernel
theorem dX7_isFlight_10 : decode cX7_isFlight 10 = .ok (.invokestatic 27, 3) := by decide +kernel
theorem dX7_isFlight_13 : decode cX7_isFlight 13 = .ok (.ireturn, 1) := by decide +kernel
theorem dX7_isBag_0 : decode cX7_isBag 0 = .ok (.iload_n 1, 1) := by decide +kernel
theorem dX7_isBag_1 : decode cX7_isBag 1 = .ok (.iconst 0, 1) := by decide +kernel
theorem dX7_isBag_2 : decode cX7_isBag 2 = .ok (.aload_n 0, 1) := by decide +kernel
theorem dX7_isBag_3 : decode cX7_isBag 3 = .ok (.getfield 9, 3) := by decide +kernel
theorem dX7_isBag_6 : decode cX7_isBag 6 = .ok (.iconst 3, 1) := by decide +kernel
theorem dX7_isBag_7 : decode cX7_isBag 7 = .ok (.iaload, 1) := by decide +kernel
theorem dX7_isBag_8 : decode cX7_isBag 8 = .ok (.iconst 1, 1) := by decide +kernel
theorem dX7_isBag_9 : decode cX7_isBag 9 = .ok (.isub, 1) := by decide +kernel
theorem dX7_isBag_10 : decode cX7_isBag 10 = .ok (.invokestatic 27, 3) := by decide +kernel
theorem dX7_isBag_13 : decode cX7_isBag 13 = .ok (.ireturn, 1) := by decide +kernel
theorem dX7_kindOf_0 : decode cX7_kindOf 0 = .ok (.aload_n 0, 1) := by decide +kernel
theorem dX7_kindOf_1 : decode cX7_kindOf 1 = .ok (.getfield 9, 3) := by decide +kernel
theorem dX7_kindOf_4 : decode cX7_kindOf 4 = .ok (.bipush 8, 2) := by decide +kernel
theorem dX7_kindOf_6 : decode cX7_kindOf 6 = .ok (.iload_n 1, 1) := by decide +kernel
theorem dX7_kindOf_7 : decode cX7_kindOf 7 = .ok (.iadd, 1) := by decide +kernel
theorem dX7_kindOf_8 : decode cX7_kindOf 8 = .ok (.iaload, 1) := by decide +kernel
theorem dX7_kindOf_9 : decode cX7_kindOf 9 = .ok (.ireturn, 1) := by decide +kernel
theorem dX7_point_0 : decode cX7_point 0 = .ok (.iload_n 1, 1) := by decide +kernel
theorem dX7_point_1 : decode cX7_point 1 = .ok (.iconst 0, 1) := by decide +kernel
theorem dX7_point_2 : decode cX7_point 2 = .ok (.iconst 5, 1) := by decide +kernel
theorem dX7_point_3 : decode cX7_point 3 = .ok (.invokestatic 27, 3) := by decide +kernel
theorem dX7_point_6 : decode cX7_point 6 = .ok (.ifCond .eq 33, 3) := by decide +kernel
theorem dX7_point_9 : decode cX7_point 9 = .ok (.iload_n 1, 1) := by decide +kernel
theorem dX7_point_10 : decode cX7_point 10 = .ok (.iconst 2, 1) := by decide +kernel
theorem dX7_point_11 : decode cX7_point 11 = .ok (.if_icmp .ne 13, 3) := by decide +kernel
theorem dX7_point_14 : decode cX7_point 14 = .ok (.iload_n 2, 1) := by decide +kernel
theorem dX7_point_15 : decode cX7_point 15 = .ok (.iconst 1, 1) := by decide +kernel
theorem dX7_point_16 : decode cX7_point 16 = .ok (.bipush 9, 2) := by decide +kernel
theorem dX7_point_18 : decode cX7_point 18 = .ok (.invokestatic 27, 3) := by decide +kernel
theorem dX7_point_21 : decode cX7_point 21 = .ok (.ifCond .eq 18, 3) := by decide +kernel
theorem dX7_point_24 : decode cX7_point 24 = .ok (.iload_n 1, 1) := by decide +kernel
theorem dX7_point_25 : decode cX7_point 25 = .ok (.iconst 4, 1) := by decide +kernel
theorem dX7_point_26 : decode cX7_point 26 = .ok (.if_icmp .ne 19, 3) := by decide +kernel
theorem dX7_point_29 : decode cX7_point 29 = .ok (.iload_n 2, 1) := by decide +kernel
theorem dX7_point_30 : decode cX7_point 30 = .ok (.iconst 1, 1) := by decide +kernel
theorem dX7_point_31 : decode cX7_point 31 = .ok (.bipush 20, 2) := by decide +kernel
theorem dX7_point_33 : decode cX7_point 33 = .ok (.invokestatic 27, 3) := by decide +kernel
theorem dX7_point_36 : decode cX7_point 36 = .ok (.ifCond .ne 9, 3) := by decide +kernel
theorem dX7_point_39 : decode cX7_point 39 = .ok (.aload_n 0, 1) := by decide +kernel
theorem dX7_point_40 : decode cX7_point 40 = .ok (.iconst (-1), 1) := by decide +kernel
theorem dX7_point_41 : decode cX7_point 41 = .ok (.invokevirtual 31, 3) := by decide +kernel
theorem dX7_point_44 : decode cX7_point 44 = .ok (.ireturn, 1) := by decide +kernel
theorem dX7_point_45 : decode cX7_point 45 = .ok (.aload_n 0, 1) := by decide +kernel
theorem dX7_point_46 : decode cX7_point 46 = .ok (.getfield 9, 3) := by decide +kernel
theorem dX7_point_49 : decode cX7_point 49 = .ok (.iconst 0, 1) := by decide +kernel
theorem dX7_point_50 : decode cX7_point 50 = .ok (.iaload, 1) := by decide +kernel
theorem dX7_point_51 : decode cX7_point 51 = .ok (.istore_n 3, 1) := by decide +kernel
theorem dX7_point_52 : decode cX7_point 52 = .ok (.iload_n 3, 1) := by decide +kernel
theorem dX7_point_53 : decode cX7_point 53 = .ok (.bipush 12, 2) := by decide +kernel
theorem dX7_point_55 : decode cX7_point 55 = .ok (.if_icmp .ne 10, 3) := by decide +kernel
theorem dX7_point_58 : decode cX7_point 58 = .ok (.aload_n 0, 1) := by decide +kernel
theorem dX7_point_59 : decode cX7_point 59 = .ok (.bipush (-3), 2) := by decide +kernel
theorem dX7_point_61 : decode cX7_point 61 = .ok (.invokevirtual 31, 3) := by decide +kernel
theorem dX7_point_64 : decode cX7_point 64 = .ok (.ireturn, 1) := by decide +kernel
theorem dX7_point_65 : decode cX7_point 65 = .ok (.aload_n 0, 1) := by decide +kernel
theorem dX7_point_66 : decode cX7_point 66 = .ok (.getfield 9, 3) := by decide +kernel
theorem dX7_point_69 : decode cX7_point 69 = .ok (.bipush 8, 2) := by decide +kernel
theorem dX7_point_71 : decode cX7_point 71 = .ok (.iload_n 3, 1) := by decide +kernel
theorem dX7_point_72 : decode cX7_point 72 = .ok (.iadd, 1) := by decide +kernel
theorem dX7_point_73 : decode cX7_point 73 = .ok (.iload_n 1, 1) := by decide +kernel
theorem dX7_point_74 : decode cX7_point 74 = .ok (.iastore, 1) := by decide +kernel
theorem dX7_point_75 : decode cX7_point 75 = .ok (.aload_n 0, 1) := by decide +kernel
theorem dX7_point_76 : decode cX7_point 76 = .ok (.getfield 9, 3) := by decide +kernel
theorem dX7_point_79 : decode cX7_point 79 = .ok (.bipush 20, 2) := by decide +kernel
theorem dX7_point_81 : decode cX7_point 81 = .ok (.iload_n 3, 1) := by decide +kernel
theorem dX7_point_82 : decode cX7_point 82 = .ok (.iadd, 1) := by decide +kernel
theorem dX7_point_83 : decode cX7_point 83 = .ok (.iload_n 2, 1) := by decide +kernel
theorem dX7_point_84 : decode cX7_point 84 = .ok (.iastore, 1) := by decide +kernel
theorem dX7_point_85 : decode cX7_point 85 = .ok (.aload_n 0, 1) := by decide +kernel
theorem dX7_point_86 : decode cX7_point 86 = .ok (.getfield 9, 3) := by decide +kernel
theorem dX7_point_89 : decode cX7_point 89 = .ok (.bipush 32, 2) := by decide +kernel
theorem dX7_point_91 : decode cX7_point 91 = .ok (.iload_n 3, 1) := by decide +kernel
theorem dX7_point_92 : decode cX7_point 92 = .ok (.iadd, 1) := by decide +kernel
theorem dX7_point_93 : decode cX7_point 93 = .ok (.iconst 0, 1) := by decide +kernel
theorem dX7_point_94 : decode cX7_point 94 = .ok (.iastore, 1) := by decide +kernel
theorem dX7_point_95 : decode cX7_point 95 = .ok (.aload_n 0, 1) := by decide +kernel
theorem dX7_point_96 : decode cX7_point 96 = .ok (.getfield 9, 3) := by decide +kernel
theorem dX7_point_99 : decode cX7_point 99 = .ok (.bipush 44, 2) := by decide +kernel
theorem dX7_point_101 : decode cX7_point 101 = .ok (.iload_n 3, 1) := by decide +kernel
theorem dX7_point_102 : decode cX7_point 102 = .ok (.iadd, 1) := by decide +kernel
theorem dX7_point_103 : decode cX7_point 103 = .ok (.iconst 0, 1) := by decide +kernel
theorem dX7_point_104 : decode cX7_point 104 = .ok (.iastore, 1) := by decide +kernel
theorem dX7_point_105 : decode cX7_point 105 = .ok (.aload_n 0, 1) := by decide +kernel
theorem dX7_point_106 : decode cX7_point 106 = .ok (.getfield 9, 3) := by decide +kernel
theorem dX7_point_109 : decode cX7_point 109 = .ok (.bipush 56, 2) := by decide +kernel
theorem dX7_point_111 : decode cX7_point 111 = .ok (.iload_n 3, 1) := by decide +kernel
theorem dX7_point_112 : decode cX7_point 112 = .ok (.iadd, 1) := by decide +kernel
theorem dX7_point_113 : decode cX7_point 113 = .ok (.iconst 0, 1) := by decide +kernel
theorem dX7_point_114 : decode cX7_point 114 = .ok (.iastore, 1) := by decide +kernel
theorem dX7_point_115 : decode cX7_point 115 = .ok (.aload_n 0, 1) := by decide +kernel
theorem dX7_point_116 : decode cX7_point 116 = .ok (.getfield 9, 3) := by decide +kernel
theorem dX7_point_119 : decode cX7_point 119 = .ok (.iconst 0, 1) := by decide +kernel
theorem dX7_point_120 : decode cX7_point 120 = .ok (.dup2, 1) := by decide +kernel
theorem dX7_point_121 : decode cX7_point 121 = .ok (.iaload, 1) := by decide +kernel
theorem dX7_point_122 : decode cX7_point 122 = .ok (.iconst 1, 1) := by decide +kernel
theorem dX7_point_123 : decode cX7_point 123 = .ok (.iadd, 1) := by decide +kernel
theorem dX7_point_124 : decode cX7_point 124 = .ok (.iastore, 1) := by decide +kernel
theorem dX7_point_125 : decode cX7_point 125 = .ok (.iload_n 3, 1) := by decide +kernel
theorem dX7_point_126 : decode cX7_point 126 = .ok (.ireturn, 1) := by decide +kernel
theorem dX7_belt_0 : decode cX7_belt 0 = .ok (.aload_n 0, 1) := by decide +kernel
theorem dX7_belt_1 : decode cX7_belt 1 = .ok (.iload_n 1, 1) := by decide +kernel
theorem dX7_belt_2 : decode cX7_belt 2 = .ok (.invokevirtual 35, 3) := by decide +kernel
theorem dX7_belt_5 : decode cX7_belt 5 = .ok (.ifCond .eq 21, 3) := by decide +kernel
theorem dX7_belt_8 : decode cX7_belt 8 = .ok (.aload_n 0, 1) := by decide +kernel
theorem dX7_belt_9 : decode cX7_belt 9 = .ok (.iload_n 2, 1) := by decide +kernel
theorem dX7_belt_10 : decode cX7_belt 10 = .ok (.invokevirtual 35, 3) := by decide +kernel
theorem dX7_belt_13 : decode cX7_belt 13 = .ok (.ifCond .eq 13, 3) := by decide +kernel
theorem dX7_belt_16 : decode cX7_belt 16 = .ok (.iload_n 3, 1) := by decide +kernel
theorem dX7_belt_17 : decode cX7_belt 17 = .ok (.iconst 1, 1) := by decide +kernel
theorem dX7_belt_18 : decode cX7_belt 18 = .ok (.bipush 12, 2) := by decide +kernel
theorem dX7_belt_20 : decode cX7_belt 20 = .ok (.invokestatic 27, 3) := by decide +kernel
theorem dX7_belt_23 : decode cX7_belt 23 = .ok (.ifCond .ne 9, 3) := by decide +kernel
theorem dX7_belt_26 : decode cX7_belt 26 = .ok (.aload_n 0, 1) := by decide +kernel
theorem dX7_belt_27 : decode cX7_belt 27 = .ok (.iconst (-1), 1) := by decide +kernel
theorem dX7_belt_28 : decode cX7_belt 28 = .ok (.invokevirtual 31, 3) := by decide +kernel
theorem dX7_belt_31 : decode cX7_belt 31 = .ok (.ireturn, 1) := by decide +kernel
theorem dX7_belt_32 : decode cX7_belt 32 = .ok (.iload_n 1, 1) := by decide +kernel
theorem dX7_belt_33 : decode cX7_belt 33 = .ok (.iload_n 2, 1) := by decide +kernel
theorem dX7_belt_34 : decode cX7_belt 34 = .ok (.if_icmp .ne 10, 3) := by decide +kernel
theorem dX7_belt_37 : decode cX7_belt 37 = .ok (.aload_n 0, 1) := by decide +kernel
theorem dX7_belt_38 : decode cX7_belt 38 = .ok (.bipush (-5), 2) := by decide +kernel
theorem dX7_belt_40 : decode cX7_belt 40 = .ok (.invokevirtual 31, 3) := by decide +kernel
theorem dX7_belt_43 : decode cX7_belt 43 = .ok (.ireturn, 1) := by decide +kernel
theorem dX7_belt_44 : decode cX7_belt 44 = .ok (.aload_n 0, 1) := by decide +kernel
theorem dX7_belt_45 : decode cX7_belt 45 = .ok (.iload_n 1, 1) := by decide +kernel
theorem dX7_belt_46 : decode cX7_belt 46 = .ok (.invokevirtual 39, 3) := by decide +kernel
theorem dX7_belt_49 : decode cX7_belt 49 = .ok (.iconst 5, 1) := by decide +kernel
theorem dX7_belt_50 : decode cX7_belt 50 = .ok (.if_icmp .eq 11, 3) := by decide +kernel
theorem dX7_belt_53 : decode cX7_belt 53 = .ok (.aload_n 0, 1) := by decide +kernel
theorem dX7_belt_54 : decode cX7_belt 54 = .ok (.iload_n 2, 1) := by decide +kernel
theorem dX7_belt_55 : decode cX7_belt 55 = .ok (.invokevirtual 39, 3) := by decide +kernel
theorem dX7_belt_58 : decode cX7_belt 58 = .ok (.ifCond .ne 10, 3) := by decide +kernel
theorem dX7_belt_61 : decode cX7_belt 61 = .ok (.aload_n 0, 1) := by decide +kernel
theorem dX7_belt_62 : decode cX7_belt 62 = .ok (.bipush (-4), 2) := by decide +kernel
theorem dX7_belt_64 : decode cX7_belt 64 = .ok (.invokevirtual 31, 3) := by decide +kernel
theorem dX7_belt_67 : decode cX7_belt 67 = .ok (.ireturn, 1) := by decide +kernel
theorem dX7_belt_68 : decode cX7_belt 68 = .ok (.aload_n 0, 1) := by decide +kernel
theorem dX7_belt_69 : decode cX7_belt 69 = .ok (.getfield 9, 3) := by decide +kernel
theorem dX7_belt_72 : decode cX7_belt 72 = .ok (.iconst 1, 1) := by decide +kernel
theorem dX7_belt_73 : decode cX7_belt 73 = .ok (.iaload, 1) := by decide +kernel
theorem dX7_belt_74 : decode cX7_belt 74 = .ok (.istore 4, 2) := by decide +kernel
theorem dX7_belt_76 : decode cX7_belt 76 = .ok (.iload 4, 2) := by decide +kernel
theorem dX7_belt_78 : decode cX7_belt 78 = .ok (.bipush 16, 2) := by decide +kernel
theorem dX7_belt_80 : decode cX7_belt 80 = .ok (.if_icmp .ne 10, 3) := by decide +kernel
theorem dX7_belt_83 : decode cX7_belt 83 = .ok (.aload_n 0, 1) := by decide +kernel
theorem dX7_belt_84 : decode cX7_belt 84 = .ok (.bipush (-3), 2) := by decide +kernel
theorem dX7_belt_86 : decode cX7_belt 86 = .ok (.invokevirtual 31, 3) := by decide +kernel
theorem dX7_belt_89 : decode cX7_belt 89 = .ok (.ireturn, 1) := by decide +kernel
theorem dX7_belt_90 : decode cX7_belt 90 = .ok (.aload_n 0, 1) := by decide +kernel
theorem dX7_belt_91 : decode cX7_belt 91 = .ok (.getfield 9, 3) := by decide +kernel
theorem dX7_belt_94 : decode cX7_belt 94 = .ok (.bipush 68, 2) := by decide +kernel
theorem dX7_belt_96 : decode cX7_belt 96 = .ok (.iload 4, 2) := by decide +kernel
theorem dX7_belt_98 : decode cX7_belt 98 = .ok (.iadd, 1) := by decide +kernel
theorem dX7_belt_99 : decode cX7_belt 99 = .ok (.iload_n 1, 1) := by decide +kernel
theorem dX7_belt_100 : decode cX7_belt 100 = .ok (.iastore, 1) := by decide +kernel
theorem dX7_belt_101 : decode cX7_belt 101 = .ok (.aload_n 0, 1) := by decide +kernel
theorem dX7_belt_102 : decode cX7_belt 102 = .ok (.getfield 9, 3) := by decide +kernel
theorem dX7_belt_105 : decode cX7_belt 105 = .ok (.bipush 84, 2) := by decide +kernel
theorem dX7_belt_107 : decode cX7_belt 107 = .ok (.iload 4, 2) := by decide +kernel
theorem dX7_belt_109 : decode cX7_belt 109 = .ok (.iadd, 1) := by decide +kernel
theorem dX7_belt_110 : decode cX7_belt 110 = .ok (.iload_n 2, 1) := by decide +kernel
theorem dX7_belt_111 : decode cX7_belt 111 = .ok (.iastore, 1) := by decide +kernel
theorem dX7_belt_112 : decode cX7_belt 112 = .ok (.aload_n 0, 1) := by decide +kernel
theorem dX7_belt_113 : decode cX7_belt 113 = .ok (.getfield 9, 3) := by decide +kernel
theorem dX7_belt_116 : decode cX7_belt 116 = .ok (.bipush 100, 2) := by decide +kernel
theorem dX7_belt_118 : decode cX7_belt 118 = .ok (.iload 4, 2) := by decide +kernel
theorem dX7_belt_120 : decode cX7_belt 120 = .ok (.iadd, 1) := by decide +kernel
theorem dX7_belt_121 : decode cX7_belt 121 = .ok (.iload_n 3, 1) := by decide +kernel
theorem dX7_belt_122 : decode cX7_belt 122 = .ok (.iastore, 1) := by decide +kernel
theorem dX7_belt_123 : decode cX7_belt 123 = .ok (.aload_n 0, 1) := by decide +kernel
theorem dX7_belt_124 : decode cX7_belt 124 = .ok (.getfield 9, 3) := by decide +kernel
theorem dX7_belt_127 : decode cX7_belt 127 = .ok (.bipush 116, 2) := by decide +kernel
theorem dX7_belt_129 : decode cX7_belt 129 = .ok (.iload 4, 2) := by decide +kernel
theorem dX7_belt_131 : decode cX7_belt 131 = .ok (.iadd, 1) := by decide +kernel
theorem dX7_belt_132 : decode cX7_belt 132 = .ok (.iconst 0, 1) := by decide +kernel
theorem dX7_belt_133 : decode cX7_belt 133 = .ok (.iastore, 1) := by decide +kernel
theorem dX7_belt_134 : decode cX7_belt 134 = .ok (.aload_n 0, 1) := by decide +kernel
theorem dX7_belt_135 : decode cX7_belt 135 = .ok (.getfield 9, 3) := by decide +kernel
theorem dX7_belt_138 : decode cX7_belt 138 = .ok (.sipush 132, 3) := by decide +kernel
theorem dX7_belt_141 : decode cX7_belt 141 = .ok (.iload 4, 2) := by decide +kernel
theorem dX7_belt_143 : decode cX7_belt 143 = .ok (.iadd, 1) := by decide +kernel
theorem dX7_belt_144 : decode cX7_belt 144 = .ok (.iconst 1, 1) := by decide +kernel
theorem dX7_belt_145 : decode cX7_belt 145 = .ok (.iastore, 1) := by decide +kernel
theorem dX7_belt_146 : decode cX7_belt 146 = .ok (.iconst 0, 1) := by decide +kernel
theorem dX7_belt_147 : decode cX7_belt 147 = .ok (.istore 5, 2) := by decide +kernel
theorem dX7_belt_149 : decode cX7_belt 149 = .ok (.iload 5, 2) := by decide +kernel
theorem dX7_belt_151 : decode cX7_belt 151 = .ok (.bipush 12, 2) := by decide +kernel
theorem dX7_belt_153 : decode cX7_belt 153 = .ok (.if_icmp .ge 27, 3) := by decide +kernel
theorem dX7_belt_156 : decode cX7_belt 156 = .ok (.aload_n 0, 1) := by decide +kernel
theorem dX7_belt_157 : decode cX7_belt 157 = .ok (.getfield 9, 3) := by decide +kernel
theorem dX7_belt_160 : decode cX7_belt 160 = .ok (.sipush 148, 3) := by decide +kernel
theorem dX7_belt_163 : decode cX7_belt 163 = .ok (.bipush 12, 2) := by decide +kernel
theorem dX7_belt_165 : decode cX7_belt 165 = .ok (.iload 4, 2) := by decide +kernel
theorem dX7_belt_167 : decode cX7_belt 167 = .ok (.imul, 1) := by decide +kernel
theorem dX7_belt_168 : decode cX7_belt 168 = .ok (.iadd, 1) := by decide +kernel
theorem dX7_belt_169 : decode cX7_belt 169 = .ok (.iload 5, 2) := by decide +kernel
theorem dX7_belt_171 : decode cX7_belt 171 = .ok (.iadd, 1) := by decide +kernel
theorem dX7_belt_172 : decode cX7_belt 172 = .ok (.iconst 0, 1) := by decide +kernel
theorem dX7_belt_173 : decode cX7_belt 173 = .ok (.iastore, 1) := by decide +kernel
theorem dX7_belt_174 : decode cX7_belt 174 = .ok (.iinc 5 1, 3) := by decide +kernel
theorem dX7_belt_177 : decode cX7_belt 177 = .ok (.goto (-28), 3) := by decide +kernel
theorem dX7_belt_180 : decode cX7_belt 180 = .ok (.aload_n 0, 1) := by decide +kernel
theorem dX7_belt_181 : decode cX7_belt 181 = .ok (.iload_n 2, 1) := by decide +kernel
theorem dX7_belt_182 : decode cX7_belt 182 = .ok (.invokevirtual 39, 3) := by decide +kernel
theorem dX7_belt_185 : decode cX7_belt 185 = .ok (.iconst 1, 1) := by decide +kernel
theorem dX7_belt_186 : decode cX7_belt 186 = .ok (.if_icmp .ne 38, 3) := by decide +kernel
theorem dX7_belt_189 : decode cX7_belt 189 = .ok (.aload_n 0, 1) := by decide +kernel
theorem dX7_belt_190 : decode cX7_belt 190 = .ok (.getfield 9, 3) := by decide +kernel
theorem dX7_belt_193 : decode cX7_belt 193 = .ok (.bipush 44, 2) := by decide +kernel
theorem dX7_belt_195 : decode cX7_belt 195 = .ok (.iload_n 2, 1) := by decide +kernel
theorem dX7_belt_196 : decode cX7_belt 196 = .ok (.iadd, 1) := by decide +kernel
theorem dX7_belt_197 : decode cX7_belt 197 = .ok (.iaload, 1) := by decide +kernel
theorem dX7_belt_198 : decode cX7_belt 198 = .ok (.ifCond .ne 26, 3) := by decide +kernel
theorem dX7_belt_201 : decode cX7_belt 201 = .ok (.aload_n 0, 1) := by decide +kernel
theorem dX7_belt_202 : decode cX7_belt 202 = .ok (.getfield 9, 3) := by decide +kernel
theorem dX7_belt_205 : decode cX7_belt 205 = .ok (.bipush 44, 2) := by decide +kernel
theorem dX7_belt_207 : decode cX7_belt 207 = .ok (.iload_n 2, 1) := by decide +kernel
theorem dX7_belt_208 : decode cX7_belt 208 = .ok (.iadd, 1) := by decide +kernel
theorem dX7_belt_209 : decode cX7_belt 209 = .ok (.iload 4, 2) := by decide +kernel
theorem dX7_belt_211 : decode cX7_belt 211 = .ok (.iconst 1, 1) := by decide +kernel
theorem dX7_belt_212 : decode cX7_belt 212 = .ok (.iadd, 1) := by decide +kernel
theorem dX7_belt_213 : decode cX7_belt 213 = .ok (.iastore, 1) := by decide +kernel
theorem dX7_belt_214 : decode cX7_belt 214 = .ok (.aload_n 0, 1) := by decide +kernel
theorem dX7_belt_215 : decode cX7_belt 215 = .ok (.getfield 9, 3) := by decide +kernel
theorem dX7_belt_218 : decode cX7_belt 218 = .ok (.bipush 56, 2) := by decide +kernel
theorem dX7_belt_220 : decode cX7_belt 220 = .ok (.iload_n 2, 1) := by decide +kernel
theorem dX7_belt_221 : decode cX7_belt 221 = .ok (.iadd, 1) := by decide +kernel
theorem dX7_belt_222 : decode cX7_belt 222 = .ok (.iconst 1, 1) := by decide +kernel
theorem dX7_belt_223 : decode cX7_belt 223 = .ok (.iastore, 1) := by decide +kernel
theorem dX7_belt_224 : decode cX7_belt 224 = .ok (.aload_n 0, 1) := by decide +kernel
theorem dX7_belt_225 : decode cX7_belt 225 = .ok (.getfield 9, 3) := by decide +kernel
theorem dX7_belt_228 : decode cX7_belt 228 = .ok (.iconst 1, 1) := by decide +kernel
theorem dX7_belt_229 : decode cX7_belt 229 = .ok (.dup2, 1) := by decide +kernel
theorem dX7_belt_230 : decode cX7_belt 230 = .ok (.iaload, 1) := by decide +kernel
theorem dX7_belt_231 : decode cX7_belt 231 = .ok (.iconst 1, 1) := by decide +kernel
theorem dX7_belt_232 : decode cX7_belt 232 = .ok (.iadd, 1) := by decide +kernel
theorem dX7_belt_233 : decode cX7_belt 233 = .ok (.iastore, 1) := by decide +kernel
theorem dX7_belt_234 : decode cX7_belt 234 = .ok (.iload 4, 2) := by decide +kernel
theorem dX7_belt_236 : decode cX7_belt 236 = .ok (.ireturn, 1) := by decide +kernel
theorem dX7_as_0 : decode cX7_as 0 = .ok (.aload_n 0, 1) := by decide +kernel
theorem dX7_as_1 : decode cX7_as 1 = .ok (.iload_n 1, 1) := by decide +kernel
theorem dX7_as_2 : decode cX7_as 2 = .ok (.invokevirtual 35, 3) := by decide +kernel
theorem dX7_as_5 : decode cX7_as 5 = .ok (.ifCond .eq 12, 3) := by decide +kernel
theorem dX7_as_8 : decode cX7_as 8 = .ok (.iload_n 2, 1) := by decide +kernel
theorem dX7_as_9 : decode cX7_as 9 = .ok (.iconst 0, 1) := by decide +kernel
theorem dX7_as_10 : decode cX7_as 10 = .ok (.iconst 5, 1) := by decide +kernel
theorem dX7_as_11 : decode cX7_as 11 = .ok (.invokestatic 27, 3) := by decide +kernel
theorem dX7_as_14 : decode cX7_as 14 = .ok (.ifCond .ne 9, 3) := by decide +kernel
theorem dX7_as_17 : decode cX7_as 17 = .ok (.aload_n 0, 1) := by decide +kernel
theorem dX7_as_18 : decode cX7_as 18 = .ok (.iconst (-1), 1) := by decide +kernel
theorem dX7_as_19 : decode cX7_as 19 = .ok (.invokevirtual 31, 3) := by decide +kernel
theorem dX7_as_22 : decode cX7_as 22 = .ok (.ireturn, 1) := by decide +kernel
theorem dX7_as_23 : decode cX7_as 23 = .ok (.aload_n 0, 1) := by decide +kernel
theorem dX7_as_24 : decode cX7_as 24 = .ok (.iload_n 1, 1) := by decide +kernel
theorem dX7_as_25 : decode cX7_as 25 = .ok (.invokevirtual 39, 3) := by decide +kernel
theorem dX7_as_28 : decode cX7_as 28 = .ok (.iload_n 2, 1) := by decide +kernel
theorem dX7_as_29 : decode cX7_as 29 = .ok (.if_icmp .ne 7, 3) := by decide +kernel
theorem dX7_as_32 : decode cX7_as 32 = .ok (.iload_n 1, 1) := by decide +kernel
theorem dX7_as_33 : decode cX7_as 33 = .ok (.goto 9, 3) := by decide +kernel
theorem dX7_as_36 : decode cX7_as 36 = .ok (.aload_n 0, 1) := by decide +kernel
theorem dX7_as_37 : decode cX7_as 37 = .ok (.bipush (-4), 2) := by decide +kernel
theorem dX7_as_39 : decode cX7_as 39 = .ok (.invokevirtual 31, 3) := by decide +kernel
theorem dX7_as_42 : decode cX7_as 42 = .ok (.ireturn, 1) := by decide +kernel
theorem dX7_turns_0 : decode cX7_turns 0 = .ok (.aload_n 0, 1) := by decide +kernel
theorem dX7_turns_1 : decode cX7_turns 1 = .ok (.iload_n 1, 1) := by decide +kernel
theorem dX7_turns_2 : decode cX7_turns 2 = .ok (.invokevirtual 42, 3) := by decide +kernel
theorem dX7_turns_5 : decode cX7_turns 5 = .ok (.ifCond .eq 13, 3) := by decide +kernel
theorem dX7_turns_8 : decode cX7_turns 8 = .ok (.iload_n 2, 1) := by decide +kernel
theorem dX7_turns_9 : decode cX7_turns 9 = .ok (.iconst 0, 1) := by decide +kernel
theorem dX7_turns_10 : decode cX7_turns 10 = .ok (.bipush 9, 2) := by decide +kernel
theorem dX7_turns_12 : decode cX7_turns 12 = .ok (.invokestatic 27, 3) := by decide +kernel
theorem dX7_turns_15 : decode cX7_turns 15 = .ok (.ifCond .ne 9, 3) := by decide +kernel
theorem dX7_turns_18 : decode cX7_turns 18 = .ok (.aload_n 0, 1) := by decide +kernel
theorem dX7_turns_19 : decode cX7_turns 19 = .ok (.iconst (-1), 1) := by decide +kernel
theorem dX7_turns_20 : decode cX7_turns 20 = .ok (.invokevirtual 31, 3) := by decide +kernel
theorem dX7_turns_23 : decode cX7_turns 23 = .ok (.ireturn, 1) := by decide +kernel
theorem dX7_turns_24 : decode cX7_turns 24 = .ok (.aload_n 0, 1) := by decide +kernel
theorem dX7_turns_25 : decode cX7_turns 25 = .ok (.getfield 9, 3) := by decide +kernel
theorem dX7_turns_28 : decode cX7_turns 28 = .ok (.bipush 84, 2) := by decide +kernel
theorem dX7_turns_30 : decode cX7_turns 30 = .ok (.iload_n 1, 1) := by decide +kernel
theorem dX7_turns_31 : decode cX7_turns 31 = .ok (.iadd, 1) := by decide +kernel
theorem dX7_turns_32 : decode cX7_turns 32 = .ok (.iaload, 1) := by decide +kernel
theorem dX7_turns_33 : decode cX7_turns 33 = .ok (.istore_n 3, 1) := by decide +kernel
theorem dX7_turns_34 : decode cX7_turns 34 = .ok (.aload_n 0, 1) := by decide +kernel
theorem dX7_turns_35 : decode cX7_turns 35 = .ok (.iload_n 3, 1) := by decide +kernel
theorem dX7_turns_36 : decode cX7_turns 36 = .ok (.invokevirtual 39, 3) := by decide +kernel
theorem dX7_turns_39 : decode cX7_turns 39 = .ok (.iconst 1, 1) := by decide +kernel
theorem dX7_turns_40 : decode cX7_turns 40 = .ok (.if_icmp .eq 10, 3) := by decide +kernel
theorem dX7_turns_43 : decode cX7_turns 43 = .ok (.aload_n 0, 1) := by decide +kernel
theorem dX7_turns_44 : decode cX7_turns 44 = .ok (.bipush (-4), 2) := by decide +kernel
theorem dX7_turns_46 : decode cX7_turns 46 = .ok (.invokevirtual 31, 3) := by decide +kernel
theorem dX7_turns_49 : decode cX7_turns 49 = .ok (.ireturn, 1) := by decide +kernel
theorem dX7_turns_50 : decode cX7_turns 50 = .ok (.aload_n 0, 1) := by decide +kernel
theorem dX7_turns_51 : decode cX7_turns 51 = .ok (.getfield 9, 3) := by decide +kernel
theorem dX7_turns_54 : decode cX7_turns 54 = .ok (.sipush 132, 3) := by decide +kernel
theorem dX7_turns_57 : decode cX7_turns 57 = .ok (.iload_n 1, 1) := by decide +kernel
theorem dX7_turns_58 : decode cX7_turns 58 = .ok (.iadd, 1) := by decide +kernel
theorem dX7_turns_59 : decode cX7_turns 59 = .ok (.iaload, 1) := by decide +kernel
theorem dX7_turns_60 : decode cX7_turns 60 = .ok (.istore 4, 2) := by decide +kernel
theorem dX7_turns_62 : decode cX7_turns 62 = .ok (.aload_n 0, 1) := by decide +kernel
theorem dX7_turns_63 : decode cX7_turns 63 = .ok (.getfield 9, 3) := by decide +kernel
theorem dX7_turns_66 : decode cX7_turns 66 = .ok (.sipush 132, 3) := by decide +kernel
theorem dX7_turns_69 : decode cX7_turns 69 = .ok (.iload_n 1, 1) := by decide +kernel
theorem dX7_turns_70 : decode cX7_turns 70 = .ok (.iadd, 1) := by decide +kernel
theorem dX7_turns_71 : decode cX7_turns 71 = .ok (.iload_n 2, 1) := by decide +kernel
theorem dX7_turns_72 : decode cX7_turns 72 = .ok (.iastore, 1) := by decide +kernel
theorem dX7_turns_73 : decode cX7_turns 73 = .ok (.aload_n 0, 1) := by decide +kernel
theorem dX7_turns_74 : decode cX7_turns 74 = .ok (.getfield 9, 3) := by decide +kernel
theorem dX7_turns_77 : decode cX7_turns 77 = .ok (.bipush 44, 2) := by decide +kernel
theorem dX7_turns_79 : decode cX7_turns 79 = .ok (.iload_n 3, 1) := by decide +kernel
theorem dX7_turns_80 : decode cX7_turns 80 = .ok (.iadd, 1) := by decide +kernel
theorem dX7_turns_81 : decode cX7_turns 81 = .ok (.iaload, 1) := by decide +kernel
theorem dX7_turns_82 : decode cX7_turns 82 = .ok (.iload_n 1, 1) := by decide +kernel
theorem dX7_turns_83 : decode cX7_turns 83 = .ok (.iconst 1, 1) := by decide +kernel
theorem dX7_turns_84 : decode cX7_turns 84 = .ok (.iadd, 1) := by decide +kernel
theorem dX7_turns_85 : decode cX7_turns 85 = .ok (.if_icmp .ne 26, 3) := by decide +kernel
theorem dX7_turns_88 : decode cX7_turns 88 = .ok (.aload_n 0, 1) := by decide +kernel
theorem dX7_turns_89 : decode cX7_turns 89 = .ok (.getfield 9, 3) := by decide +kernel
theorem dX7_turns_92 : decode cX7_turns 92 = .ok (.bipush 56, 2) := by decide +kernel
theorem dX7_turns_94 : decode cX7_turns 94 = .ok (.iload_n 3, 1) := by decide +kernel
theorem dX7_turns_95 : decode cX7_turns 95 = .ok (.iadd, 1) := by decide +kernel
theorem dX7_turns_96 : decode cX7_turns 96 = .ok (.iaload, 1) := by decide +kernel
theorem dX7_turns_97 : decode cX7_turns 97 = .ok (.iload_n 2, 1) := by decide +kernel
theorem dX7_turns_98 : decode cX7_turns 98 = .ok (.if_icmp .le 13, 3) := by decide +kernel
theorem dX7_turns_101 : decode cX7_turns 101 = .ok (.aload_n 0, 1) := by decide +kernel
theorem dX7_turns_102 : decode cX7_turns 102 = .ok (.getfield 9, 3) := by decide +kernel
theorem dX7_turns_105 : decode cX7_turns 105 = .ok (.bipush 56, 2) := by decide +kernel
theorem dX7_turns_107 : decode cX7_turns 107 = .ok (.iload_n 3, 1) := by decide +kernel
theorem dX7_turns_108 : decode cX7_turns 108 = .ok (.iadd, 1) := by decide +kernel
theorem dX7_turns_109 : decode cX7_turns 109 = .ok (.iload_n 2, 1) := by decide +kernel
theorem dX7_turns_110 : decode cX7_turns 110 = .ok (.iastore, 1) := by decide +kernel
theorem dX7_turns_111 : decode cX7_turns 111 = .ok (.iload 4, 2) := by decide +kernel
theorem dX7_turns_113 : decode cX7_turns 113 = .ok (.ireturn, 1) := by decide +kernel
theorem dX7_flight_0 : decode cX7_flight 0 = .ok (.aload_n 0, 1) := by decide +kernel
theorem dX7_flight_1 : decode cX7_flight 1 = .ok (.iload_n 1, 1) := by decide +kernel
theorem dX7_flight_2 : decode cX7_flight 2 = .ok (.invokevirtual 35, 3) := by decide +kernel
theorem dX7_flight_5 : decode cX7_flight 5 = .ok (.ifCond .eq 30, 3) := by decide +kernel
theorem dX7_flight_8 : decode cX7_flight 8 = .ok (.iload_n 2, 1) := by decide +kernel
theorem dX7_flight_9 : decode cX7_flight 9 = .ok (.iconst 0, 1) := by decide +kernel
theorem dX7_flight_10 : decode cX7_flight 10 = .ok (.sipush 5000, 3) := by decide +kernel
theorem dX7_flight_13 : decode cX7_flight 13 = .ok (.invokestatic 27, 3) := by decide +kernel
theorem dX7_flight_16 : decode cX7_flight 16 = .ok (.ifCond .eq 19, 3) := by decide +kernel
theorem dX7_flight_19 : decode cX7_flight 19 = .ok (.iload_n 3, 1) := by decide +kernel
theorem dX7_flight_20 : decode cX7_flight 20 = .ok (.iconst 0, 1) := by decide +kernel
theorem dX7_flight_21 : decode cX7_flight 21 = .ok (.sipush 5000, 3) := by decide +kernel
theorem dX7_flight_24 : decode cX7_flight 24 = .ok (.invokestatic 27, 3) := by decide +kernel
theorem dX7_flight_27 : decode cX7_flight 27 = .ok (.ifCond .eq 8, 3) := by decide +kernel
theorem dX7_flight_30 : decode cX7_flight 30 = .ok (.iload_n 2, 1) := by decide +kernel
theorem dX7_flight_31 : decode cX7_flight 31 = .ok (.iload_n 3, 1) := by decide +kernel
theorem dX7_flight_32 : decode cX7_flight 32 = .ok (.if_icmp .le 9, 3) := by decide +kernel
theorem dX7_flight_35 : decode cX7_flight 35 = .ok (.aload_n 0, 1) := by decide +kernel
theorem dX7_flight_36 : decode cX7_flight 36 = .ok (.iconst (-1), 1) := by decide +kernel
theorem dX7_flight_37 : decode cX7_flight 37 = .ok (.invokevirtual 31, 3) := by decide +kernel
theorem dX7_flight_40 : decode cX7_flight 40 = .ok (.ireturn, 1) := by decide +kernel
theorem dX7_flight_41 : decode cX7_flight 41 = .ok (.aload_n 0, 1) := by decide +kernel
theorem dX7_flight_42 : decode cX7_flight 42 = .ok (.iload_n 1, 1) := by decide +kernel
theorem dX7_flight_43 : decode cX7_flight 43 = .ok (.invokevirtual 39, 3) := by decide +kernel
theorem dX7_flight_46 : decode cX7_flight 46 = .ok (.iconst 5, 1) := by decide +kernel
theorem dX7_flight_47 : decode cX7_flight 47 = .ok (.if_icmp .eq 10, 3) := by decide +kernel
theorem dX7_flight_50 : decode cX7_flight 50 = .ok (.aload_n 0, 1) := by decide +kernel
theorem dX7_flight_51 : decode cX7_flight 51 = .ok (.bipush (-4), 2) := by decide +kernel
theorem dX7_flight_53 : decode cX7_flight 53 = .ok (.invokevirtual 31, 3) := by decide +kernel
theorem dX7_flight_56 : decode cX7_flight 56 = .ok (.ireturn, 1) := by decide +kernel
theorem dX7_flight_57 : decode cX7_flight 57 = .ok (.aload_n 0, 1) := by decide +kernel
theorem dX7_flight_58 : decode cX7_flight 58 = .ok (.getfield 9, 3) := by decide +kernel
theorem dX7_flight_61 : decode cX7_flight 61 = .ok (.iconst 2, 1) := by decide +kernel
theorem dX7_flight_62 : decode cX7_flight 62 = .ok (.iaload, 1) := by decide +kernel
theorem dX7_flight_63 : decode cX7_flight 63 = .ok (.istore 4, 2) := by decide +kernel
theorem dX7_flight_65 : decode cX7_flight 65 = .ok (.iload 4, 2) := by decide +kernel
theorem dX7_flight_67 : decode cX7_flight 67 = .ok (.bipush 8, 2) := by decide +kernel
theorem dX7_flight_69 : decode cX7_flight 69 = .ok (.if_icmp .ne 10, 3) := by decide +kernel
theorem dX7_flight_72 : decode cX7_flight 72 = .ok (.aload_n 0, 1) := by decide +kernel
theorem dX7_flight_73 : decode cX7_flight 73 = .ok (.bipush (-3), 2) := by decide +kernel
theorem dX7_flight_75 : decode cX7_flight 75 = .ok (.invokevirtual 31, 3) := by decide +kernel
theorem dX7_flight_78 : decode cX7_flight 78 = .ok (.ireturn, 1) := by decide +kernel
theorem dX7_flight_79 : decode cX7_flight 79 = .ok (.aload_n 0, 1) := by decide +kernel
theorem dX7_flight_80 : decode cX7_flight 80 = .ok (.getfield 9, 3) := by decide +kernel
theorem dX7_flight_83 : decode cX7_flight 83 = .ok (.sipush 340, 3) := by decide +kernel
theorem dX7_flight_86 : decode cX7_flight 86 = .ok (.iload 4, 2) := by decide +kernel
theorem dX7_flight_88 : decode cX7_flight 88 = .ok (.iadd, 1) := by decide +kernel
theorem dX7_flight_89 : decode cX7_flight 89 = .ok (.iload_n 1, 1) := by decide +kernel
theorem dX7_flight_90 : decode cX7_flight 90 = .ok (.iastore, 1) := by decide +kernel
theorem dX7_flight_91 : decode cX7_flight 91 = .ok (.aload_n 0, 1) := by decide +kernel
theorem dX7_flight_92 : decode cX7_flight 92 = .ok (.getfield 9, 3) := by decide +kernel
theorem dX7_flight_95 : decode cX7_flight 95 = .ok (.sipush 348, 3) := by decide +kernel
theorem dX7_flight_98 : decode cX7_flight 98 = .ok (.iload 4, 2) := by decide +kernel
theorem dX7_flight_100 : decode cX7_flight 100 = .ok (.iadd, 1) := by decide +kernel
theorem dX7_flight_101 : decode cX7_flight 101 = .ok (.iload_n 2, 1) := by decide +kernel
theorem dX7_flight_102 : decode cX7_flight 102 = .ok (.iastore, 1) := by decide +kernel
theorem dX7_flight_103 : decode cX7_flight 103 = .ok (.aload_n 0, 1) := by decide +kernel
theorem dX7_flight_104 : decode cX7_flight 104 = .ok (.getfield 9, 3) := by decide +kernel
theorem dX7_flight_107 : decode cX7_flight 107 = .ok (.sipush 356, 3) := by decide +kernel
theorem dX7_flight_110 : decode cX7_flight 110 = .ok (.iload 4, 2) := by decide +kernel
theorem dX7_flight_112 : decode cX7_flight 112 = .ok (.iadd, 1) := by decide +kernel
theorem dX7_flight_113 : decode cX7_flight 113 = .ok (.iload_n 3, 1) := by decide +kernel
theorem dX7_flight_114 : decode cX7_flight 114 = .ok (.iastore, 1) := by decide +kernel
theorem dX7_flight_115 : decode cX7_flight 115 = .ok (.aload_n 0, 1) := by decide +kernel
theorem dX7_flight_116 : decode cX7_flight 116 = .ok (.getfield 9, 3) := by decide +kernel
theorem dX7_flight_119 : decode cX7_flight 119 = .ok (.iconst 2, 1) := by decide +kernel
theorem dX7_flight_120 : decode cX7_flight 120 = .ok (.dup2, 1) := by decide +kernel
theorem dX7_flight_121 : decode cX7_flight 121 = .ok (.iaload, 1) := by decide +kernel
theorem dX7_flight_122 : decode cX7_flight 122 = .ok (.iconst 1, 1) := by decide +kernel
theorem dX7_flight_123 : decode cX7_flight 123 = .ok (.iadd, 1) := by decide +kernel
theorem dX7_flight_124 : decode cX7_flight 124 = .ok (.iastore, 1) := by decide +kernel
theorem dX7_flight_125 : decode cX7_flight 125 = .ok (.iload 4, 2) := by decide +kernel
theorem dX7_flight_127 : decode cX7_flight 127 = .ok (.ireturn, 1) := by decide +kernel
theorem dX7_fall_0 : decode cX7_fall 0 = .ok (.aload_n 0, 1) := by decide +kernel
theorem dX7_fall_1 : decode cX7_fall 1 = .ok (.iload_n 1, 1) := by decide +kernel
theorem dX7_fall_2 : decode cX7_fall 2 = .ok (.invokevirtual 42, 3) := by decide +kernel
theorem dX7_fall_5 : decode cX7_fall 5 = .ok (.ifCond .ne 9, 3) := by decide +kernel
theorem dX7_fall_8 : decode cX7_fall 8 = .ok (.aload_n 0, 1) := by decide +kernel
theorem dX7_fall_9 : decode cX7_fall 9 = .ok (.iconst (-1), 1) := by decide +kernel
theorem dX7_fall_10 : decode cX7_fall 10 = .ok (.invokevirtual 31, 3) := by decide +kernel
theorem dX7_fall_13 : decode cX7_fall 13 = .ok (.ireturn, 1) := by decide +kernel
theorem dX7_fall_14 : decode cX7_fall 14 = .ok (.aload_n 0, 1) := by decide +kernel
theorem dX7_fall_15 : decode cX7_fall 15 = .ok (.getfield 9, 3) := by decide +kernel
theorem dX7_fall_18 : decode cX7_fall 18 = .ok (.bipush 116, 2) := by decide +kernel
theorem dX7_fall_20 : decode cX7_fall 20 = .ok (.iload_n 1, 1) := by decide +kernel
theorem dX7_fall_21 : decode cX7_fall 21 = .ok (.iadd, 1) := by decide +kernel
theorem dX7_fall_22 : decode cX7_fall 22 = .ok (.iaload, 1) := by decide +kernel
theorem dX7_fall_23 : decode cX7_fall 23 = .ok (.iconst 1, 1) := by decide +kernel
theorem dX7_fall_24 : decode cX7_fall 24 = .ok (.if_icmp .ne 7, 3) := by decide +kernel
theorem dX7_fall_27 : decode cX7_fall 27 = .ok (.iconst 1, 1) := by decide +kernel
theorem dX7_fall_28 : decode cX7_fall 28 = .ok (.goto 4, 3) := by decide +kernel
theorem dX7_fall_31 : decode cX7_fall 31 = .ok (.iconst 0, 1) := by decide +kernel
theorem dX7_fall_32 : decode cX7_fall 32 = .ok (.istore_n 3, 1) := by decide +kernel
theorem dX7_fall_33 : decode cX7_fall 33 = .ok (.aload_n 0, 1) := by decide +kernel
theorem dX7_fall_34 : decode cX7_fall 34 = .ok (.getfield 9, 3) := by decide +kernel
theorem dX7_fall_37 : decode cX7_fall 37 = .ok (.bipush 116, 2) := by decide +kernel
theorem dX7_fall_39 : decode cX7_fall 39 = .ok (.iload_n 1, 1) := by decide +kernel
theorem dX7_fall_40 : decode cX7_fall 40 = .ok (.iadd, 1) := by decide +kernel
theorem dX7_fall_41 : decode cX7_fall 41 = .ok (.iload_n 2, 1) := by decide +kernel
theorem dX7_fall_42 : decode cX7_fall 42 = .ok (.ifCond .eq 7, 3) := by decide +kernel
theorem dX7_fall_45 : decode cX7_fall 45 = .ok (.iconst 1, 1) := by decide +kernel
theorem dX7_fall_46 : decode cX7_fall 46 = .ok (.goto 4, 3) := by decide +kernel
theorem dX7_fall_49 : decode cX7_fall 49 = .ok (.iconst 0, 1) := by decide +kernel
theorem dX7_fall_50 : decode cX7_fall 50 = .ok (.iastore, 1) := by decide +kernel
theorem dX7_fall_51 : decode cX7_fall 51 = .ok (.iload_n 3, 1) := by decide +kernel
theorem dX7_fall_52 : decode cX7_fall 52 = .ok (.iload_n 2, 1) := by decide +kernel
theorem dX7_fall_53 : decode cX7_fall 53 = .ok (.if_icmp .ne 7, 3) := by decide +kernel
theorem dX7_fall_56 : decode cX7_fall 56 = .ok (.iconst 0, 1) := by decide +kernel
theorem dX7_fall_57 : decode cX7_fall 57 = .ok (.goto 4, 3) := by decide +kernel
theorem dX7_fall_60 : decode cX7_fall 60 = .ok (.iconst 1, 1) := by decide +kernel
theorem dX7_fall_61 : decode cX7_fall 61 = .ok (.ireturn, 1) := by decide +kernel
theorem dX7_lies_0 : decode cX7_lies 0 = .ok (.aload_n 0, 1) := by decide +kernel
theorem dX7_lies_1 : decode cX7_lies 1 = .ok (.getfield 9, 3) := by decide +kernel
theorem dX7_lies_4 : decode cX7_lies 4 = .ok (.sipush 484, 3) := by decide +kernel
theorem dX7_lies_7 : decode cX7_lies 7 = .ok (.iload_n 1, 1) := by decide +kernel
theorem dX7_lies_8 : decode cX7_lies 8 = .ok (.iadd, 1) := by decide +kernel
theorem dX7_lies_9 : decode cX7_lies 9 = .ok (.iload_n 2, 1) := by decide +kernel
theorem dX7_lies_10 : decode cX7_lies 10 = .ok (.iastore, 1) := by decide +kernel
theorem dX7_lies_11 : decode cX7_lies 11 = .ok (.aload_n 0, 1) := by decide +kernel
theorem dX7_lies_12 : decode cX7_lies 12 = .ok (.getfield 9, 3) := by decide +kernel
theorem dX7_lies_15 : decode cX7_lies 15 = .ok (.sipush 544, 3) := by decide +kernel
theorem dX7_lies_18 : decode cX7_lies 18 = .ok (.iload_n 1, 1) := by decide +kernel
theorem dX7_lies_19 : decode cX7_lies 19 = .ok (.iadd, 1) := by decide +kernel
theorem dX7_lies_20 : decode cX7_lies 20 = .ok (.iload_n 3, 1) := by decide +kernel
theorem dX7_lies_21 : decode cX7_lies 21 = .ok (.iastore, 1) := by decide +kernel
theorem dX7_lies_22 : decode cX7_lies 22 = .ok (.aload_n 0, 1) := by decide +kernel
theorem dX7_lies_23 : decode cX7_lies 23 = .ok (.getfield 9, 3) := by decide +kernel
theorem dX7_lies_26 : decode cX7_lies 26 = .ok (.sipush 604, 3) := by decide +kernel
theorem dX7_lies_29 : decode cX7_lies 29 = .ok (.iload_n 1, 1) := by decide +kernel
theorem dX7_lies_30 : decode cX7_lies 30 = .ok (.iadd, 1) := by decide +kernel
theorem dX7_lies_31 : decode cX7_lies 31 = .ok (.iload 4, 2) := by decide +kernel
theorem dX7_lies_33 : decode cX7_lies 33 = .ok (.iastore, 1) := by decide +kernel
theorem dX7_lies_34 : decode cX7_lies 34 = .ok (.return_, 1) := by decide +kernel
theorem dX7_waits_0 : decode cX7_waits 0 = .ok (.aload_n 0, 1) := by decide +kernel
theorem dX7_waits_1 : decode cX7_waits 1 = .ok (.iload_n 1, 1) := by decide +kernel
theorem dX7_waits_2 : decode cX7_waits 2 = .ok (.iconst 0, 1) := by decide +kernel
theorem dX7_waits_3 : decode cX7_waits 3 = .ok (.iload_n 2, 1) := by decide +kernel
theorem dX7_waits_4 : decode cX7_waits 4 = .ok (.aload_n 0, 1) := by decide +kernel
theorem dX7_waits_5 : decode cX7_waits 5 = .ok (.getfield 9, 3) := by decide +kernel
theorem dX7_waits_8 : decode cX7_waits 8 = .ok (.iconst 5, 1) := by decide +kernel
theorem dX7_waits_9 : decode cX7_waits 9 = .ok (.iaload, 1) := by decide +kernel
theorem dX7_waits_10 : decode cX7_waits 10 = .ok (.invokevirtual 45, 3) := by decide +kernel
theorem dX7_waits_13 : decode cX7_waits 13 = .ok (.aload_n 0, 1) := by decide +kernel
theorem dX7_waits_14 : decode cX7_waits 14 = .ok (.getfield 9, 3) := by decide +kernel
theorem dX7_waits_17 : decode cX7_waits 17 = .ok (.iconst 5, 1) := by decide +kernel
theorem dX7_waits_18 : decode cX7_waits 18 = .ok (.dup2, 1) := by decide +kernel
theorem dX7_waits_19 : decode cX7_waits 19 = .ok (.iaload, 1) := by decide +kernel
theorem dX7_waits_20 : decode cX7_waits 20 = .ok (.iconst 1, 1) := by decide +kernel
theorem dX7_waits_21 : decode cX7_waits 21 = .ok (.iadd, 1) := by decide +kernel
theorem dX7_waits_22 : decode cX7_waits 22 = .ok (.iastore, 1) := by decide +kernel
theorem dX7_waits_23 : decode cX7_waits 23 = .ok (.return_, 1) := by decide +kernel
theorem dX7_waitingAt_0 : decode cX7_waitingAt 0 = .ok (.iconst 0, 1) := by decide +kernel
theorem dX7_waitingAt_1 : decode cX7_waitingAt 1 = .ok (.istore_n 2, 1) := by decide +kernel
theorem dX7_waitingAt_2 : decode cX7_waitingAt 2 = .ok (.iconst 0, 1) := by decide +kernel
theorem dX7_waitingAt_3 : decode cX7_waitingAt 3 = .ok (.istore_n 3, 1) := by decide +kernel
theorem dX7_waitingAt_4 : decode cX7_waitingAt 4 = .ok (.iload_n 3, 1) := by decide +kernel
theorem dX7_waitingAt_5 : decode cX7_waitingAt 5 = .ok (.aload_n 0, 1) := by decide +kernel
theorem dX7_waitingAt_6 : decode cX7_waitingAt 6 = .ok (.getfield 9, 3) := by decide +kernel
theorem dX7_waitingAt_9 : decode cX7_waitingAt 9 = .ok (.iconst 3, 1) := by decide +kernel
theorem dX7_waitingAt_10 : decode cX7_waitingAt 10 = .ok (.iaload, 1) := by decide +kernel
theorem dX7_waitingAt_11 : decode cX7_waitingAt 11 = .ok (.if_icmp .ge 44, 3) := by decide +kernel
theorem dX7_waitingAt_14 : decode cX7_waitingAt 14 = .ok (.iload_n 2, 1) := by decide +kernel
theorem dX7_waitingAt_15 : decode cX7_waitingAt 15 = .ok (.aload_n 0, 1) := by decide +kernel
theorem dX7_waitingAt_16 : decode cX7_waitingAt 16 = .ok (.getfield 9, 3) := by decide +kernel
theorem dX7_waitingAt_19 : decode cX7_waitingAt 19 = .ok (.sipush 484, 3) := by decide +kernel
theorem dX7_waitingAt_22 : decode cX7_waitingAt 22 = .ok (.iload_n 3, 1) := by decide +kernel
theorem dX7_waitingAt_23 : decode cX7_waitingAt 23 = .ok (.iadd, 1) := by decide +kernel
theorem dX7_waitingAt_24 : decode cX7_waitingAt 24 = .ok (.iaload, 1) := by decide +kernel
theorem dX7_waitingAt_25 : decode cX7_waitingAt 25 = .ok (.ifCond .ne 21, 3) := by decide +kernel
theorem dX7_waitingAt_28 : decode cX7_waitingAt 28 = .ok (.aload_n 0, 1) := by decide +kernel
theorem dX7_waitingAt_29 : decode cX7_waitingAt 29 = .ok (.getfield 9, 3) := by decide +kernel
theorem dX7_waitingAt_32 : decode cX7_waitingAt 32 = .ok (.sipush 544, 3) := by decide +kernel
theorem dX7_waitingAt_35 : decode cX7_waitingAt 35 = .ok (.iload_n 3, 1) := by decide +kernel
theorem dX7_waitingAt_36 : decode cX7_waitingAt 36 = .ok (.iadd, 1) := by decide +kernel
theorem dX7_waitingAt_37 : decode cX7_waitingAt 37 = .ok (.iaload, 1) := by decide +kernel
theorem dX7_waitingAt_38 : decode cX7_waitingAt 38 = .ok (.iload_n 1, 1) := by decide +kernel
theorem dX7_waitingAt_39 : decode cX7_waitingAt 39 = .ok (.if_icmp .ne 7, 3) := by decide +kernel
theorem dX7_waitingAt_42 : decode cX7_waitingAt 42 = .ok (.iconst 1, 1) := by decide +kernel
theorem dX7_waitingAt_43 : decode cX7_waitingAt 43 = .ok (.goto 4, 3) := by decide +kernel
theorem dX7_waitingAt_46 : decode cX7_waitingAt 46 = .ok (.iconst 0, 1) := by decide +kernel
theorem dX7_waitingAt_47 : decode cX7_waitingAt 47 = .ok (.iadd, 1) := by decide +kernel
theorem dX7_waitingAt_48 : decode cX7_waitingAt 48 = .ok (.istore_n 2, 1) := by decide +kernel
theorem dX7_waitingAt_49 : decode cX7_waitingAt 49 = .ok (.iinc 3 1, 3) := by decide +kernel
theorem dX7_waitingAt_52 : decode cX7_waitingAt 52 = .ok (.goto (-48), 3) := by decide +kernel
theorem dX7_waitingAt_55 : decode cX7_waitingAt 55 = .ok (.iload_n 2, 1) := by decide +kernel
theorem dX7_waitingAt_56 : decode cX7_waitingAt 56 = .ok (.ireturn, 1) := by decide +kernel
theorem dX7_bag_0 : decode cX7_bag 0 = .ok (.aload_n 0, 1) := by decide +kernel
theorem dX7_bag_1 : decode cX7_bag 1 = .ok (.iload_n 1, 1) := by decide +kernel
theorem dX7_bag_2 : decode cX7_bag 2 = .ok (.invokevirtual 35, 3) := by decide +kernel
theorem dX7_bag_5 : decode cX7_bag 5 = .ok (.ifCond .eq 11, 3) := by decide +kernel
theorem dX7_bag_8 : decode cX7_bag 8 = .ok (.aload_n 0, 1) := by decide +kernel
theorem dX7_bag_9 : decode cX7_bag 9 = .ok (.iload_n 2, 1) := by decide +kernel
theorem dX7_bag_10 : decode cX7_bag 10 = .ok (.invokevirtual 49, 3) := by decide +kernel
theorem dX7_bag_13 : decode cX7_bag 13 = .ok (.ifCond .ne 9, 3) := by decide +kernel
theorem dX7_bag_16 : decode cX7_bag 16 = .ok (.aload_n 0, 1) := by decide +kernel
theorem dX7_bag_17 : decode cX7_bag 17 = .ok (.iconst (-1), 1) := by decide +kernel
theorem dX7_bag_18 : decode cX7_bag 18 = .ok (.invokevirtual 31, 3) := by decide +kernel
theorem dX7_bag_21 : decode cX7_bag 21 = .ok (.ireturn, 1) := by decide +kernel
theorem dX7_bag_22 : decode cX7_bag 22 = .ok (.aload_n 0, 1) := by decide +kernel
theorem dX7_bag_23 : decode cX7_bag 23 = .ok (.iload_n 1, 1) := by decide +kernel
theorem dX7_bag_24 : decode cX7_bag 24 = .ok (.invokevirtual 39, 3) := by decide +kernel
theorem dX7_bag_27 : decode cX7_bag 27 = .ok (.ifCond .eq 10, 3) := by decide +kernel
theorem dX7_bag_30 : decode cX7_bag 30 = .ok (.aload_n 0, 1) := by decide +kernel
theorem dX7_bag_31 : decode cX7_bag 31 = .ok (.bipush (-4), 2) := by decide +kernel
theorem dX7_bag_33 : decode cX7_bag 33 = .ok (.invokevirtual 31, 3) := by decide +kernel
theorem dX7_bag_36 : decode cX7_bag 36 = .ok (.ireturn, 1) := by decide +kernel
theorem dX7_bag_37 : decode cX7_bag 37 = .ok (.aload_n 0, 1) := by decide +kernel
theorem dX7_bag_38 : decode cX7_bag 38 = .ok (.getfield 9, 3) := by decide +kernel
theorem dX7_bag_41 : decode cX7_bag 41 = .ok (.iconst 3, 1) := by decide +kernel
theorem dX7_bag_42 : decode cX7_bag 42 = .ok (.iaload, 1) := by decide +kernel
theorem dX7_bag_43 : decode cX7_bag 43 = .ok (.istore 4, 2) := by decide +kernel
theorem dX7_bag_45 : decode cX7_bag 45 = .ok (.iload 4, 2) := by decide +kernel
theorem dX7_bag_47 : decode cX7_bag 47 = .ok (.bipush 60, 2) := by decide +kernel
theorem dX7_bag_49 : decode cX7_bag 49 = .ok (.if_icmp .ne 10, 3) := by decide +kernel
theorem dX7_bag_52 : decode cX7_bag 52 = .ok (.aload_n 0, 1) := by decide +kernel
theorem dX7_bag_53 : decode cX7_bag 53 = .ok (.bipush (-3), 2) := by decide +kernel
theorem dX7_bag_55 : decode cX7_bag 55 = .ok (.invokevirtual 31, 3) := by decide +kernel
theorem dX7_bag_58 : decode cX7_bag 58 = .ok (.ireturn, 1) := by decide +kernel
theorem dX7_bag_59 : decode cX7_bag 59 = .ok (.aload_n 0, 1) := by decide +kernel
theorem dX7_bag_60 : decode cX7_bag 60 = .ok (.getfield 9, 3) := by decide +kernel
theorem dX7_bag_63 : decode cX7_bag 63 = .ok (.sipush 364, 3) := by decide +kernel
theorem dX7_bag_66 : decode cX7_bag 66 = .ok (.iload 4, 2) := by decide +kernel
theorem dX7_bag_68 : decode cX7_bag 68 = .ok (.iadd, 1) := by decide +kernel
theorem dX7_bag_69 : decode cX7_bag 69 = .ok (.iload_n 2, 1) := by decide +kernel
theorem dX7_bag_70 : decode cX7_bag 70 = .ok (.iastore, 1) := by decide +kernel
theorem dX7_bag_71 : decode cX7_bag 71 = .ok (.aload_n 0, 1) := by decide +kernel
theorem dX7_bag_72 : decode cX7_bag 72 = .ok (.getfield 9, 3) := by decide +kernel
theorem dX7_bag_75 : decode cX7_bag 75 = .ok (.sipush 424, 3) := by decide +kernel
theorem dX7_bag_78 : decode cX7_bag 78 = .ok (.iload 4, 2) := by decide +kernel
theorem dX7_bag_80 : decode cX7_bag 80 = .ok (.iadd, 1) := by decide +kernel
theorem dX7_bag_81 : decode cX7_bag 81 = .ok (.iload_n 3, 1) := by decide +kernel
theorem dX7_bag_82 : decode cX7_bag 82 = .ok (.ifCond .eq 7, 3) := by decide +kernel
theorem dX7_bag_85 : decode cX7_bag 85 = .ok (.iconst 1, 1) := by decide +kernel
theorem dX7_bag_86 : decode cX7_bag 86 = .ok (.goto 4, 3) := by decide +kernel
theorem dX7_bag_89 : decode cX7_bag 89 = .ok (.iconst 0, 1) := by decide +kernel
theorem dX7_bag_90 : decode cX7_bag 90 = .ok (.iastore, 1) := by decide +kernel
theorem dX7_bag_91 : decode cX7_bag 91 = .ok (.aload_n 0, 1) := by decide +kernel
theorem dX7_bag_92 : decode cX7_bag 92 = .ok (.getfield 9, 3) := by decide +kernel
theorem dX7_bag_95 : decode cX7_bag 95 = .ok (.sipush 664, 3) := by decide +kernel
theorem dX7_bag_98 : decode cX7_bag 98 = .ok (.iload 4, 2) := by decide +kernel
theorem dX7_bag_100 : decode cX7_bag 100 = .ok (.iadd, 1) := by decide +kernel
theorem dX7_bag_101 : decode cX7_bag 101 = .ok (.iconst 0, 1) := by decide +kernel
theorem dX7_bag_102 : decode cX7_bag 102 = .ok (.iastore, 1) := by decide +kernel
theorem dX7_bag_103 : decode cX7_bag 103 = .ok (.aload_n 0, 1) := by decide +kernel
theorem dX7_bag_104 : decode cX7_bag 104 = .ok (.iload 4, 2) := by decide +kernel
theorem dX7_bag_106 : decode cX7_bag 106 = .ok (.iload_n 1, 1) := by decide +kernel
theorem dX7_bag_107 : decode cX7_bag 107 = .ok (.invokevirtual 52, 3) := by decide +kernel
theorem dX7_bag_110 : decode cX7_bag 110 = .ok (.aload_n 0, 1) := by decide +kernel
theorem dX7_bag_111 : decode cX7_bag 111 = .ok (.getfield 9, 3) := by decide +kernel
theorem dX7_bag_114 : decode cX7_bag 114 = .ok (.iconst 3, 1) := by decide +kernel
theorem dX7_bag_115 : decode cX7_bag 115 = .ok (.dup2, 1) := by decide +kernel
theorem dX7_bag_116 : decode cX7_bag 116 = .ok (.iaload, 1) := by decide +kernel
theorem dX7_bag_117 : decode cX7_bag 117 = .ok (.iconst 1, 1) := by decide +kernel
theorem dX7_bag_118 : decode cX7_bag 118 = .ok (.iadd, 1) := by decide +kernel
theorem dX7_bag_119 : decode cX7_bag 119 = .ok (.iastore, 1) := by decide +kernel
theorem dX7_bag_120 : decode cX7_bag 120 = .ok (.iload 4, 2) := by decide +kernel
theorem dX7_bag_122 : decode cX7_bag 122 = .ok (.ireturn, 1) := by decide +kernel
theorem dX7_take_0 : decode cX7_take 0 = .ok (.aload_n 0, 1) := by decide +kernel
theorem dX7_take_1 : decode cX7_take 1 = .ok (.iload_n 1, 1) := by decide +kernel
theorem dX7_take_2 : decode cX7_take 2 = .ok (.invokevirtual 56, 3) := by decide +kernel
theorem dX7_take_5 : decode cX7_take 5 = .ok (.ifCond .ne 9, 3) := by decide +kernel
theorem dX7_take_8 : decode cX7_take 8 = .ok (.aload_n 0, 1) := by decide +kernel
theorem dX7_take_9 : decode cX7_take 9 = .ok (.iconst (-1), 1) := by decide +kernel
theorem dX7_take_10 : decode cX7_take 10 = .ok (.invokevirtual 31, 3) := by decide +kernel
theorem dX7_take_13 : decode cX7_take 13 = .ok (.ireturn, 1) := by decide +kernel
theorem dX7_take_14 : decode cX7_take 14 = .ok (.aload_n 0, 1) := by decide +kernel
theorem dX7_take_15 : decode cX7_take 15 = .ok (.getfield 9, 3) := by decide +kernel
theorem dX7_take_18 : decode cX7_take 18 = .ok (.sipush 484, 3) := by decide +kernel
theorem dX7_take_21 : decode cX7_take 21 = .ok (.iload_n 1, 1) := by decide +kernel
theorem dX7_take_22 : decode cX7_take 22 = .ok (.iadd, 1) := by decide +kernel
theorem dX7_take_23 : decode cX7_take 23 = .ok (.iaload, 1) := by decide +kernel
theorem dX7_take_24 : decode cX7_take 24 = .ok (.istore_n 2, 1) := by decide +kernel
theorem dX7_take_25 : decode cX7_take 25 = .ok (.aload_n 0, 1) := by decide +kernel
theorem dX7_take_26 : decode cX7_take 26 = .ok (.getfield 9, 3) := by decide +kernel
theorem dX7_take_29 : decode cX7_take 29 = .ok (.sipush 544, 3) := by decide +kernel
theorem dX7_take_32 : decode cX7_take 32 = .ok (.iload_n 1, 1) := by decide +kernel
theorem dX7_take_33 : decode cX7_take 33 = .ok (.iadd, 1) := by decide +kernel
theorem dX7_take_34 : decode cX7_take 34 = .ok (.iaload, 1) := by decide +kernel
theorem dX7_take_35 : decode cX7_take 35 = .ok (.istore_n 3, 1) := by decide +kernel
theorem dX7_take_36 : decode cX7_take 36 = .ok (.iload_n 2, 1) := by decide +kernel
theorem dX7_take_37 : decode cX7_take 37 = .ok (.iconst 4, 1) := by decide +kernel
theorem dX7_take_38 : decode cX7_take 38 = .ok (.if_icmp .lt 10, 3) := by decide +kernel
theorem dX7_take_41 : decode cX7_take 41 = .ok (.aload_n 0, 1) := by decide +kernel
theorem dX7_take_42 : decode cX7_take 42 = .ok (.bipush (-6), 2) := by decide +kernel
theorem dX7_take_44 : decode cX7_take 44 = .ok (.invokevirtual 31, 3) := by decide +kernel
theorem dX7_take_47 : decode cX7_take 47 = .ok (.ireturn, 1) := by decide +kernel
theorem dX7_take_48 : decode cX7_take 48 = .ok (.iload_n 2, 1) := by decide +kernel
theorem dX7_take_49 : decode cX7_take 49 = .ok (.iconst 1, 1) := by decide +kernel
theorem dX7_take_50 : decode cX7_take 50 = .ok (.if_icmp .ne 28, 3) := by decide +kernel
theorem dX7_take_53 : decode cX7_take 53 = .ok (.aload_n 0, 1) := by decide +kernel
theorem dX7_take_54 : decode cX7_take 54 = .ok (.getfield 9, 3) := by decide +kernel
theorem dX7_take_57 : decode cX7_take 57 = .ok (.sipush 148, 3) := by decide +kernel
theorem dX7_take_60 : decode cX7_take 60 = .ok (.bipush 12, 2) := by decide +kernel
theorem dX7_take_62 : decode cX7_take 62 = .ok (.iload_n 3, 1) := by decide +kernel
theorem dX7_take_63 : decode cX7_take 63 = .ok (.imul, 1) := by decide +kernel
theorem dX7_take_64 : decode cX7_take 64 = .ok (.iadd, 1) := by decide +kernel
theorem dX7_take_65 : decode cX7_take 65 = .ok (.aload_n 0, 1) := by decide +kernel
theorem dX7_take_66 : decode cX7_take 66 = .ok (.getfield 9, 3) := by decide +kernel
theorem dX7_take_69 : decode cX7_take 69 = .ok (.sipush 604, 3) := by decide +kernel
theorem dX7_take_72 : decode cX7_take 72 = .ok (.iload_n 1, 1) := by decide +kernel
theorem dX7_take_73 : decode cX7_take 73 = .ok (.iadd, 1) := by decide +kernel
theorem dX7_take_74 : decode cX7_take 74 = .ok (.iaload, 1) := by decide +kernel
theorem dX7_take_75 : decode cX7_take 75 = .ok (.iadd, 1) := by decide +kernel
theorem dX7_take_76 : decode cX7_take 76 = .ok (.iconst 0, 1) := by decide +kernel
theorem dX7_take_77 : decode cX7_take 77 = .ok (.iastore, 1) := by decide +kernel
theorem dX7_take_78 : decode cX7_take 78 = .ok (.iload_n 2, 1) := by decide +kernel
theorem dX7_take_79 : decode cX7_take 79 = .ok (.iconst 2, 1) := by decide +kernel
theorem dX7_take_80 : decode cX7_take 80 = .ok (.if_icmp .ne 13, 3) := by decide +kernel
theorem dX7_take_83 : decode cX7_take 83 = .ok (.aload_n 0, 1) := by decide +kernel
theorem dX7_take_84 : decode cX7_take 84 = .ok (.getfield 9, 3) := by decide +kernel
theorem dX7_take_87 : decode cX7_take 87 = .ok (.bipush 32, 2) := by decide +kernel
theorem dX7_take_89 : decode cX7_take 89 = .ok (.iload_n 3, 1) := by decide +kernel
theorem dX7_take_90 : decode cX7_take 90 = .ok (.iadd, 1) := by decide +kernel
theorem dX7_take_91 : decode cX7_take 91 = .ok (.iconst 0, 1) := by decide +kernel
theorem dX7_take_92 : decode cX7_take 92 = .ok (.iastore, 1) := by decide +kernel
theorem dX7_take_93 : decode cX7_take 93 = .ok (.aload_n 0, 1) := by decide +kernel
theorem dX7_take_94 : decode cX7_take 94 = .ok (.iload_n 1, 1) := by decide +kernel
theorem dX7_take_95 : decode cX7_take 95 = .ok (.iconst 4, 1) := by decide +kernel
theorem dX7_take_96 : decode cX7_take 96 = .ok (.bipush (-100), 2) := by decide +kernel
theorem dX7_take_98 : decode cX7_take 98 = .ok (.iconst 0, 1) := by decide +kernel
theorem dX7_take_99 : decode cX7_take 99 = .ok (.invokevirtual 45, 3) := by decide +kernel
theorem dX7_take_102 : decode cX7_take 102 = .ok (.iconst 1, 1) := by decide +kernel
theorem dX7_take_103 : decode cX7_take 103 = .ok (.ireturn, 1) := by decide +kernel
theorem dX7_give_0 : decode cX7_give 0 = .ok (.aload_n 0, 1) := by decide +kernel
theorem dX7_give_1 : decode cX7_give 1 = .ok (.iload_n 1, 1) := by decide +kernel
theorem dX7_give_2 : decode cX7_give 2 = .ok (.invokevirtual 56, 3) := by decide +kernel
theorem dX7_give_5 : decode cX7_give 5 = .ok (.ifCond .eq 11, 3) := by decide +kernel
theorem dX7_give_8 : decode cX7_give 8 = .ok (.aload_n 0, 1) := by decide +kernel
theorem dX7_give_9 : decode cX7_give 9 = .ok (.iload_n 2, 1) := by decide +kernel
theorem dX7_give_10 : decode cX7_give 10 = .ok (.invokevirtual 35, 3) := by decide +kernel
theorem dX7_give_13 : decode cX7_give 13 = .ok (.ifCond .ne 9, 3) := by decide +kernel
theorem dX7_give_16 : decode cX7_give 16 = .ok (.aload_n 0, 1) := by decide +kernel
theorem dX7_give_17 : decode cX7_give 17 = .ok (.iconst (-1), 1) := by decide +kernel
theorem dX7_give_18 : decode cX7_give 18 = .ok (.invokevirtual 31, 3) := by decide +kernel
theorem dX7_give_21 : decode cX7_give 21 = .ok (.ireturn, 1) := by decide +kernel
theorem dX7_give_22 : decode cX7_give 22 = .ok (.aload_n 0, 1) := by decide +kernel
theorem dX7_give_23 : decode cX7_give 23 = .ok (.iload_n 2, 1) := by decide +kernel
theorem dX7_give_24 : decode cX7_give 24 = .ok (.invokevirtual 39, 3) := by decide +kernel
theorem dX7_give_27 : decode cX7_give 27 = .ok (.ifCond .eq 10, 3) := by decide +kernel
theorem dX7_give_30 : decode cX7_give 30 = .ok (.aload_n 0, 1) := by decide +kernel
theorem dX7_give_31 : decode cX7_give 31 = .ok (.bipush (-4), 2) := by decide +kernel
theorem dX7_give_33 : decode cX7_give 33 = .ok (.invokevirtual 31, 3) := by decide +kernel
theorem dX7_give_36 : decode cX7_give 36 = .ok (.ireturn, 1) := by decide +kernel
theorem dX7_give_37 : decode cX7_give 37 = .ok (.aload_n 0, 1) := by decide +kernel
theorem dX7_give_38 : decode cX7_give 38 = .ok (.getfield 9, 3) := by decide +kernel
theorem dX7_give_41 : decode cX7_give 41 = .ok (.sipush 484, 3) := by decide +kernel
theorem dX7_give_44 : decode cX7_give 44 = .ok (.iload_n 1, 1) := by decide +kernel
theorem dX7_give_45 : decode cX7_give 45 = .ok (.iadd, 1) := by decide +kernel
theorem dX7_give_46 : decode cX7_give 46 = .ok (.iaload, 1) := by decide +kernel
theorem dX7_give_47 : decode cX7_give 47 = .ok (.iconst 4, 1) := by decide +kernel
theorem dX7_give_48 : decode cX7_give 48 = .ok (.if_icmp .eq 10, 3) := by decide +kernel
theorem dX7_give_51 : decode cX7_give 51 = .ok (.aload_n 0, 1) := by decide +kernel
theorem dX7_give_52 : decode cX7_give 52 = .ok (.bipush (-2), 2) := by decide +kernel
theorem dX7_give_54 : decode cX7_give 54 = .ok (.invokevirtual 31, 3) := by decide +kernel
theorem dX7_give_57 : decode cX7_give 57 = .ok (.ireturn, 1) := by decide +kernel
theorem dX7_give_58 : decode cX7_give 58 = .ok (.aload_n 0, 1) := by decide +kernel
theorem dX7_give_59 : decode cX7_give 59 = .ok (.getfield 9, 3) := by decide +kernel
theorem dX7_give_62 : decode cX7_give 62 = .ok (.sipush 424, 3) := by decide +kernel
theorem dX7_give_65 : decode cX7_give 65 = .ok (.iload_n 1, 1) := by decide +kernel
theorem dX7_give_66 : decode cX7_give 66 = .ok (.iadd, 1) := by decide +kernel
theorem dX7_give_67 : decode cX7_give 67 = .ok (.iload_n 3, 1) := by decide +kernel
theorem dX7_give_68 : decode cX7_give 68 = .ok (.ifCond .eq 7, 3) := by decide +kernel
theorem dX7_give_71 : decode cX7_give 71 = .ok (.iconst 1, 1) := by decide +kernel
theorem dX7_give_72 : decode cX7_give 72 = .ok (.goto 4, 3) := by decide +kernel
theorem dX7_give_75 : decode cX7_give 75 = .ok (.iconst 0, 1) := by decide +kernel
theorem dX7_give_76 : decode cX7_give 76 = .ok (.iastore, 1) := by decide +kernel
theorem dX7_give_77 : decode cX7_give 77 = .ok (.aload_n 0, 1) := by decide +kernel
theorem dX7_give_78 : decode cX7_give 78 = .ok (.iload_n 1, 1) := by decide +kernel
theorem dX7_give_79 : decode cX7_give 79 = .ok (.iload_n 2, 1) := by decide +kernel
theorem dX7_give_80 : decode cX7_give 80 = .ok (.invokevirtual 52, 3) := by decide +kernel
theorem dX7_give_83 : decode cX7_give 83 = .ok (.aload_n 0, 1) := by decide +kernel
theorem dX7_give_84 : decode cX7_give 84 = .ok (.iload_n 2, 1) := by decide +kernel
theorem dX7_give_85 : decode cX7_give 85 = .ok (.invokevirtual 59, 3) := by decide +kernel
theorem dX7_give_88 : decode cX7_give 88 = .ok (.ireturn, 1) := by decide +kernel
theorem dX7_where_0 : decode cX7_where 0 = .ok (.aload_n 0, 1) := by decide +kernel
theorem dX7_where_1 : decode cX7_where 1 = .ok (.iload_n 1, 1) := by decide +kernel
theorem dX7_where_2 : decode cX7_where 2 = .ok (.invokevirtual 56, 3) := by decide +kernel
theorem dX7_where_5 : decode cX7_where 5 = .ok (.ifCond .eq 16, 3) := by decide +kernel
theorem dX7_where_8 : decode cX7_where 8 = .ok (.aload_n 0, 1) := by decide +kernel
theorem dX7_where_9 : decode cX7_where 9 = .ok (.getfield 9, 3) := by decide +kernel
theorem dX7_where_12 : decode cX7_where 12 = .ok (.sipush 484, 3) := by decide +kernel
theorem dX7_where_15 : decode cX7_where 15 = .ok (.iload_n 1, 1) := by decide +kernel
theorem dX7_where_16 : decode cX7_where 16 = .ok (.iadd, 1) := by decide +kernel
theorem dX7_where_17 : decode cX7_where 17 = .ok (.iaload, 1) := by decide +kernel
theorem dX7_where_18 : decode cX7_where 18 = .ok (.goto 8, 3) := by decide +kernel
theorem dX7_where_21 : decode cX7_where 21 = .ok (.aload_n 0, 1) := by decide +kernel
theorem dX7_where_22 : decode cX7_where 22 = .ok (.iconst (-1), 1) := by decide +kernel
theorem dX7_where_23 : decode cX7_where 23 = .ok (.invokevirtual 31, 3) := by decide +kernel
theorem dX7_where_26 : decode cX7_where 26 = .ok (.ireturn, 1) := by decide +kernel
theorem dX7_place_0 : decode cX7_place 0 = .ok (.aload_n 0, 1) := by decide +kernel
theorem dX7_place_1 : decode cX7_place 1 = .ok (.iload_n 1, 1) := by decide +kernel
theorem dX7_place_2 : decode cX7_place 2 = .ok (.invokevirtual 56, 3) := by decide +kernel
theorem dX7_place_5 : decode cX7_place 5 = .ok (.ifCond .eq 16, 3) := by decide +kernel
theorem dX7_place_8 : decode cX7_place 8 = .ok (.aload_n 0, 1) := by decide +kernel
theorem dX7_place_9 : decode cX7_place 9 = .ok (.getfield 9, 3) := by decide +kernel
theorem dX7_place_12 : decode cX7_place 12 = .ok (.sipush 544, 3) := by decide +kernel
theorem dX7_place_15 : decode cX7_place 15 = .ok (.iload_n 1, 1) := by decide +kernel
theorem dX7_place_16 : decode cX7_place 16 = .ok (.iadd, 1) := by decide +kernel
theorem dX7_place_17 : decode cX7_place 17 = .ok (.iaload, 1) := by decide +kernel
theorem dX7_place_18 : decode cX7_place 18 = .ok (.goto 8, 3) := by decide +kernel
theorem dX7_place_21 : decode cX7_place 21 = .ok (.aload_n 0, 1) := by decide +kernel
theorem dX7_place_22 : decode cX7_place 22 = .ok (.iconst (-1), 1) := by decide +kernel
theorem dX7_place_23 : decode cX7_place 23 = .ok (.invokevirtual 31, 3) := by decide +kernel
theorem dX7_place_26 : decode cX7_place 26 = .ok (.ireturn, 1) := by decide +kernel
theorem dX7_detail_0 : decode cX7_detail 0 = .ok (.aload_n 0, 1) := by decide +kernel
theorem dX7_detail_1 : decode cX7_detail 1 = .ok (.iload_n 1, 1) := by decide +kernel
theorem dX7_detail_2 : decode cX7_detail 2 = .ok (.invokevirtual 56, 3) := by decide +kernel
theorem dX7_detail_5 : decode cX7_detail 5 = .ok (.ifCond .ne 9, 3) := by decide +kernel
theorem dX7_detail_8 : decode cX7_detail 8 = .ok (.aload_n 0, 1) := by decide +kernel
theorem dX7_detail_9 : decode cX7_detail 9 = .ok (.iconst (-1), 1) := by decide +kernel
theorem dX7_detail_10 : decode cX7_detail 10 = .ok (.invokevirtual 31, 3) := by decide +kernel
theorem dX7_detail_13 : decode cX7_detail 13 = .ok (.ireturn, 1) := by decide +kernel
theorem dX7_detail_14 : decode cX7_detail 14 = .ok (.aload_n 0, 1) := by decide +kernel
theorem dX7_detail_15 : decode cX7_detail 15 = .ok (.getfield 9, 3) := by decide +kernel
theorem dX7_detail_18 : decode cX7_detail 18 = .ok (.sipush 484, 3) := by decide +kernel
theorem dX7_detail_21 : decode cX7_detail 21 = .ok (.iload_n 1, 1) := by decide +kernel
theorem dX7_detail_22 : decode cX7_detail 22 = .ok (.iadd, 1) := by decide +kernel
theorem dX7_detail_23 : decode cX7_detail 23 = .ok (.iaload, 1) := by decide +kernel
theorem dX7_detail_24 : decode cX7_detail 24 = .ok (.iconst 4, 1) := by decide +kernel
theorem dX7_detail_25 : decode cX7_detail 25 = .ok (.if_icmp .ne 10, 3) := by decide +kernel
theorem dX7_detail_28 : decode cX7_detail 28 = .ok (.aload_n 0, 1) := by decide +kernel
theorem dX7_detail_29 : decode cX7_detail 29 = .ok (.bipush (-2), 2) := by decide +kernel
theorem dX7_detail_31 : decode cX7_detail 31 = .ok (.invokevirtual 31, 3) := by decide +kernel
theorem dX7_detail_34 : decode cX7_detail 34 = .ok (.ireturn, 1) := by decide +kernel
theorem dX7_detail_35 : decode cX7_detail 35 = .ok (.aload_n 0, 1) := by decide +kernel
theorem dX7_detail_36 : decode cX7_detail 36 = .ok (.getfield 9, 3) := by decide +kernel
theorem dX7_detail_39 : decode cX7_detail 39 = .ok (.sipush 484, 3) := by decide +kernel
theorem dX7_detail_42 : decode cX7_detail 42 = .ok (.iload_n 1, 1) := by decide +kernel
theorem dX7_detail_43 : decode cX7_detail 43 = .ok (.iadd, 1) := by decide +kernel
theorem dX7_detail_44 : decode cX7_detail 44 = .ok (.iaload, 1) := by decide +kernel
theorem dX7_detail_45 : decode cX7_detail 45 = .ok (.ifCond .eq 14, 3) := by decide +kernel
theorem dX7_detail_48 : decode cX7_detail 48 = .ok (.aload_n 0, 1) := by decide +kernel
theorem dX7_detail_49 : decode cX7_detail 49 = .ok (.getfield 9, 3) := by decide +kernel
theorem dX7_detail_52 : decode cX7_detail 52 = .ok (.sipush 604, 3) := by decide +kernel
theorem dX7_detail_55 : decode cX7_detail 55 = .ok (.iload_n 1, 1) := by decide +kernel
theorem dX7_detail_56 : decode cX7_detail 56 = .ok (.iadd, 1) := by decide +kernel
theorem dX7_detail_57 : decode cX7_detail 57 = .ok (.iaload, 1) := by decide +kernel
theorem dX7_detail_58 : decode cX7_detail 58 = .ok (.ireturn, 1) := by decide +kernel
theorem dX7_detail_59 : decode cX7_detail 59 = .ok (.iconst 0, 1) := by decide +kernel
theorem dX7_detail_60 : decode cX7_detail 60 = .ok (.istore_n 2, 1) := by decide +kernel
theorem dX7_detail_61 : decode cX7_detail 61 = .ok (.iconst 0, 1) := by decide +kernel
theorem dX7_detail_62 : decode cX7_detail 62 = .ok (.istore_n 3, 1) := by decide +kernel
theorem dX7_detail_63 : decode cX7_detail 63 = .ok (.iload_n 3, 1) := by decide +kernel
theorem dX7_detail_64 : decode cX7_detail 64 = .ok (.aload_n 0, 1) := by decide +kernel
theorem dX7_detail_65 : decode cX7_detail 65 = .ok (.getfield 9, 3) := by decide +kernel
theorem dX7_detail_68 : decode cX7_detail 68 = .ok (.iconst 3, 1) := by decide +kernel
theorem dX7_detail_69 : decode cX7_detail 69 = .ok (.iaload, 1) := by decide +kernel
theorem dX7_detail_70 : decode cX7_detail 70 = .ok (.if_icmp .ge 88, 3) := by decide +kernel
theorem dX7_detail_73 : decode cX7_detail 73 = .ok (.aload_n 0, 1) := by decide +kernel
theorem dX7_detail_74 : decode cX7_detail 74 = .ok (.getfield 9, 3) := by decide +kernel
theorem dX7_detail_77 : decode cX7_detail 77 = .ok (.sipush 484, 3) := by decide +kernel
theorem dX7_detail_80 : decode cX7_detail 80 = .ok (.iload_n 3, 1) := by decide +kernel
theorem dX7_detail_81 : decode cX7_detail 81 = .ok (.iadd, 1) := by decide +kernel
theorem dX7_detail_82 : decode cX7_detail 82 = .ok (.iaload, 1) := by decide +kernel
theorem dX7_detail_83 : decode cX7_detail 83 = .ok (.ifCond .ne 30, 3) := by decide +kernel
theorem dX7_detail_86 : decode cX7_detail 86 = .ok (.aload_n 0, 1) := by decide +kernel
theorem dX7_detail_87 : decode cX7_detail 87 = .ok (.getfield 9, 3) := by decide +kernel
theorem dX7_detail_90 : decode cX7_detail 90 = .ok (.sipush 544, 3) := by decide +kernel
theorem dX7_detail_93 : decode cX7_detail 93 = .ok (.iload_n 3, 1) := by decide +kernel
theorem dX7_detail_94 : decode cX7_detail 94 = .ok (.iadd, 1) := by decide +kernel
theorem dX7_detail_95 : decode cX7_detail 95 = .ok (.iaload, 1) := by decide +kernel
theorem dX7_detail_96 : decode cX7_detail 96 = .ok (.aload_n 0, 1) := by decide +kernel
theorem dX7_detail_97 : decode cX7_detail 97 = .ok (.getfield 9, 3) := by decide +kernel
theorem dX7_detail_100 : decode cX7_detail 100 = .ok (.sipush 544, 3) := by decide +kernel
theorem dX7_detail_103 : decode cX7_detail 103 = .ok (.iload_n 1, 1) := by decide +kernel
theorem dX7_detail_104 : decode cX7_detail 104 = .ok (.iadd, 1) := by decide +kernel
theorem dX7_detail_105 : decode cX7_detail 105 = .ok (.iaload, 1) := by decide +kernel
theorem dX7_detail_106 : decode cX7_detail 106 = .ok (.if_icmp .ne 7, 3) := by decide +kernel
theorem dX7_detail_109 : decode cX7_detail 109 = .ok (.iconst 1, 1) := by decide +kernel
theorem dX7_detail_110 : decode cX7_detail 110 = .ok (.goto 4, 3) := by decide +kernel
theorem dX7_detail_113 : decode cX7_detail 113 = .ok (.iconst 0, 1) := by decide +kernel
theorem dX7_detail_114 : decode cX7_detail 114 = .ok (.istore 4, 2) := by decide +kernel
theorem dX7_detail_116 : decode cX7_detail 116 = .ok (.iload_n 2, 1) := by decide +kernel
theorem dX7_detail_117 : decode cX7_detail 117 = .ok (.iload 4, 2) := by decide +kernel
theorem dX7_detail_119 : decode cX7_detail 119 = .ok (.ifCond .eq 30, 3) := by decide +kernel
theorem dX7_detail_122 : decode cX7_detail 122 = .ok (.aload_n 0, 1) := by decide +kernel
theorem dX7_detail_123 : decode cX7_detail 123 = .ok (.getfield 9, 3) := by decide +kernel
theorem dX7_detail_126 : decode cX7_detail 126 = .ok (.sipush 604, 3) := by decide +kernel
theorem dX7_detail_129 : decode cX7_detail 129 = .ok (.iload_n 3, 1) := by decide +kernel
theorem dX7_detail_130 : decode cX7_detail 130 = .ok (.iadd, 1) := by decide +kernel
theorem dX7_detail_131 : decode cX7_detail 131 = .ok (.iaload, 1) := by decide +kernel
theorem dX7_detail_132 : decode cX7_detail 132 = .ok (.aload_n 0, 1) := by decide +kernel
theorem dX7_detail_133 : decode cX7_detail 133 = .ok (.getfield 9, 3) := by decide +kernel
theorem dX7_detail_136 : decode cX7_detail 136 = .ok (.sipush 604, 3) := by decide +kernel
theorem dX7_detail_139 : decode cX7_detail 139 = .ok (.iload_n 1, 1) := by decide +kernel
theorem dX7_detail_140 : decode cX7_detail 140 = .ok (.iadd, 1) := by decide +kernel
theorem dX7_detail_141 : decode cX7_detail 141 = .ok (.iaload, 1) := by decide +kernel
theorem dX7_detail_142 : decode cX7_detail 142 = .ok (.if_icmp .ge 7, 3) := by decide +kernel
theorem dX7_detail_145 : decode cX7_detail 145 = .ok (.iconst 1, 1) := by decide +kernel
theorem dX7_detail_146 : decode cX7_detail 146 = .ok (.goto 4, 3) := by decide +kernel
theorem dX7_detail_149 : decode cX7_detail 149 = .ok (.iconst 0, 1) := by decide +kernel
theorem dX7_detail_150 : decode cX7_detail 150 = .ok (.iadd, 1) := by decide +kernel
theorem dX7_detail_151 : decode cX7_detail 151 = .ok (.istore_n 2, 1) := by decide +kernel
theorem dX7_detail_152 : decode cX7_detail 152 = .ok (.iinc 3 1, 3) := by decide +kernel
theorem dX7_detail_155 : decode cX7_detail 155 = .ok (.goto (-92), 3) := by decide +kernel
theorem dX7_detail_158 : decode cX7_detail 158 = .ok (.iload_n 2, 1) := by decide +kernel
theorem dX7_detail_159 : decode cX7_detail 159 = .ok (.ireturn, 1) := by decide +kernel
theorem dX7_steps_0 : decode cX7_steps 0 = .ok (.aload_n 0, 1) := by decide +kernel
theorem dX7_steps_1 : decode cX7_steps 1 = .ok (.iload_n 1, 1) := by decide +kernel
theorem dX7_steps_2 : decode cX7_steps 2 = .ok (.invokevirtual 56, 3) := by decide +kernel
theorem dX7_steps_5 : decode cX7_steps 5 = .ok (.ifCond .eq 16, 3) := by decide +kernel
theorem dX7_steps_8 : decode cX7_steps 8 = .ok (.aload_n 0, 1) := by decide +kernel
theorem dX7_steps_9 : decode cX7_steps 9 = .ok (.getfield 9, 3) := by decide +kernel
theorem dX7_steps_12 : decode cX7_steps 12 = .ok (.sipush 664, 3) := by decide +kernel
theorem dX7_steps_15 : decode cX7_steps 15 = .ok (.iload_n 1, 1) := by decide +kernel
theorem dX7_steps_16 : decode cX7_steps 16 = .ok (.iadd, 1) := by decide +kernel
theorem dX7_steps_17 : decode cX7_steps 17 = .ok (.iaload, 1) := by decide +kernel
theorem dX7_steps_18 : decode cX7_steps 18 = .ok (.goto 8, 3) := by decide +kernel
theorem dX7_steps_21 : decode cX7_steps 21 = .ok (.aload_n 0, 1) := by decide +kernel
theorem dX7_steps_22 : decode cX7_steps 22 = .ok (.iconst (-1), 1) := by decide +kernel
theorem dX7_steps_23 : decode cX7_steps 23 = .ok (.invokevirtual 31, 3) := by decide +kernel
theorem dX7_steps_26 : decode cX7_steps 26 = .ok (.ireturn, 1) := by decide +kernel
theorem dX7_step_0 : decode cX7_step 0 = .ok (.aload_n 0, 1) := by decide +kernel
theorem dX7_step_1 : decode cX7_step 1 = .ok (.iload_n 1, 1) := by decide +kernel
theorem dX7_step_2 : decode cX7_step 2 = .ok (.invokevirtual 56, 3) := by decide +kernel
theorem dX7_step_5 : decode cX7_step 5 = .ok (.ifCond .eq 28, 3) := by decide +kernel
theorem dX7_step_8 : decode cX7_step 8 = .ok (.iload_n 2, 1) := by decide +kernel
theorem dX7_step_9 : decode cX7_step 9 = .ok (.iconst 0, 1) := by decide +kernel
theorem dX7_step_10 : decode cX7_step 10 = .ok (.aload_n 0, 1) := by decide +kernel
theorem dX7_step_11 : decode cX7_step 11 = .ok (.getfield 9, 3) := by decide +kernel
theorem dX7_step_14 : decode cX7_step 14 = .ok (.sipush 664, 3) := by decide +kernel
theorem dX7_step_17 : decode cX7_step 17 = .ok (.iload_n 1, 1) := by decide +kernel
theorem dX7_step_18 : decode cX7_step 18 = .ok (.iadd, 1) := by decide +kernel
theorem dX7_step_19 : decode cX7_step 19 = .ok (.iaload, 1) := by decide +kernel
theorem dX7_step_20 : decode cX7_step 20 = .ok (.bipush 30, 2) := by decide +kernel
theorem dX7_step_22 : decode cX7_step 22 = .ok (.invokestatic 62, 3) := by decide +kernel
theorem dX7_step_25 : decode cX7_step 25 = .ok (.iconst 1, 1) := by decide +kernel
theorem dX7_step_26 : decode cX7_step 26 = .ok (.isub, 1) := by decide +kernel
theorem dX7_step_27 : decode cX7_step 27 = .ok (.invokestatic 27, 3) := by decide +kernel
theorem dX7_step_30 : decode cX7_step 30 = .ok (.ifCond .ne 9, 3) := by decide +kernel
theorem dX7_step_33 : decode cX7_step 33 = .ok (.aload_n 0, 1) := by decide +kernel
theorem dX7_step_34 : decode cX7_step 34 = .ok (.iconst (-1), 1) := by decide +kernel
theorem dX7_step_35 : decode cX7_step 35 = .ok (.invokevirtual 31, 3) := by decide +kernel
theorem dX7_step_38 : decode cX7_step 38 = .ok (.ireturn, 1) := by decide +kernel
theorem dX7_step_39 : decode cX7_step 39 = .ok (.aload_n 0, 1) := by decide +kernel
theorem dX7_step_40 : decode cX7_step 40 = .ok (.getfield 9, 3) := by decide +kernel
theorem dX7_step_43 : decode cX7_step 43 = .ok (.iload_n 3, 1) := by decide +kernel
theorem dX7_step_44 : decode cX7_step 44 = .ok (.ifCond .eq 9, 3) := by decide +kernel
theorem dX7_step_47 : decode cX7_step 47 = .ok (.sipush 2524, 3) := by decide +kernel
theorem dX7_step_50 : decode cX7_step 50 = .ok (.goto 6, 3) := by decide +kernel
theorem dX7_step_53 : decode cX7_step 53 = .ok (.sipush 724, 3) := by decide +kernel
theorem dX7_step_56 : decode cX7_step 56 = .ok (.bipush 30, 2) := by decide +kernel
theorem dX7_step_58 : decode cX7_step 58 = .ok (.iload_n 1, 1) := by decide +kernel
theorem dX7_step_59 : decode cX7_step 59 = .ok (.imul, 1) := by decide +kernel
theorem dX7_step_60 : decode cX7_step 60 = .ok (.iadd, 1) := by decide +kernel
theorem dX7_step_61 : decode cX7_step 61 = .ok (.iload_n 2, 1) := by decide +kernel
theorem dX7_step_62 : decode cX7_step 62 = .ok (.iadd, 1) := by decide +kernel
theorem dX7_step_63 : decode cX7_step 63 = .ok (.iaload, 1) := by decide +kernel
theorem dX7_step_64 : decode cX7_step 64 = .ok (.ireturn, 1) := by decide +kernel
theorem dX7_goes_0 : decode cX7_goes 0 = .ok (.aload_n 0, 1) := by decide +kernel
theorem dX7_goes_1 : decode cX7_goes 1 = .ok (.getfield 9, 3) := by decide +kernel
theorem dX7_goes_4 : decode cX7_goes 4 = .ok (.sipush 664, 3) := by decide +kernel
theorem dX7_goes_7 : decode cX7_goes 7 = .ok (.iload_n 1, 1) := by decide +kernel
theorem dX7_goes_8 : decode cX7_goes 8 = .ok (.iadd, 1) := by decide +kernel
theorem dX7_goes_9 : decode cX7_goes 9 = .ok (.iaload, 1) := by decide +kernel
theorem dX7_goes_10 : decode cX7_goes 10 = .ok (.istore_n 3, 1) := by decide +kernel
theorem dX7_goes_11 : decode cX7_goes 11 = .ok (.iload_n 3, 1) := by decide +kernel
theorem dX7_goes_12 : decode cX7_goes 12 = .ok (.bipush 30, 2) := by decide +kernel
theorem dX7_goes_14 : decode cX7_goes 14 = .ok (.if_icmp .ge 40, 3) := by decide +kernel
theorem dX7_goes_17 : decode cX7_goes 17 = .ok (.aload_n 0, 1) := by decide +kernel
theorem dX7_goes_18 : decode cX7_goes 18 = .ok (.getfield 9, 3) := by decide +kernel
theorem dX7_goes_21 : decode cX7_goes 21 = .ok (.sipush 724, 3) := by decide +kernel
theorem dX7_goes_24 : decode cX7_goes 24 = .ok (.bipush 30, 2) := by decide +kernel
theorem dX7_goes_26 : decode cX7_goes 26 = .ok (.iload_n 1, 1) := by decide +kernel
theorem dX7_goes_27 : decode cX7_goes 27 = .ok (.imul, 1) := by decide +kernel
theorem dX7_goes_28 : decode cX7_goes 28 = .ok (.iadd, 1) := by decide +kernel
theorem dX7_goes_29 : decode cX7_goes 29 = .ok (.iload_n 3, 1) := by decide +kernel
theorem dX7_goes_30 : decode cX7_goes 30 = .ok (.iadd, 1) := by decide +kernel
theorem dX7_goes_31 : decode cX7_goes 31 = .ok (.iload_n 2, 1) := by decide +kernel
theorem dX7_goes_32 : decode cX7_goes 32 = .ok (.iastore, 1) := by decide +kernel
theorem dX7_goes_33 : decode cX7_goes 33 = .ok (.aload_n 0, 1) := by decide +kernel
theorem dX7_goes_34 : decode cX7_goes 34 = .ok (.getfield 9, 3) := by decide +kernel
theorem dX7_goes_37 : decode cX7_goes 37 = .ok (.sipush 2524, 3) := by decide +kernel
theorem dX7_goes_40 : decode cX7_goes 40 = .ok (.bipush 30, 2) := by decide +kernel
theorem dX7_goes_42 : decode cX7_goes 42 = .ok (.iload_n 1, 1) := by decide +kernel
theorem dX7_goes_43 : decode cX7_goes 43 = .ok (.imul, 1) := by decide +kernel
theorem dX7_goes_44 : decode cX7_goes 44 = .ok (.iadd, 1) := by decide +kernel
theorem dX7_goes_45 : decode cX7_goes 45 = .ok (.iload_n 3, 1) := by decide +kernel
theorem dX7_goes_46 : decode cX7_goes 46 = .ok (.iadd, 1) := by decide +kernel
theorem dX7_goes_47 : decode cX7_goes 47 = .ok (.aload_n 0, 1) := by decide +kernel
theorem dX7_goes_48 : decode cX7_goes 48 = .ok (.getfield 9, 3) := by decide +kernel
theorem dX7_goes_51 : decode cX7_goes 51 = .ok (.iconst 4, 1) := by decide +kernel
theorem dX7_goes_52 : decode cX7_goes 52 = .ok (.iaload, 1) := by decide +kernel
theorem dX7_goes_53 : decode cX7_goes 53 = .ok (.iastore, 1) := by decide +kernel
theorem dX7_goes_54 : decode cX7_goes 54 = .ok (.aload_n 0, 1) := by decide +kernel
theorem dX7_goes_55 : decode cX7_goes 55 = .ok (.getfield 9, 3) := by decide +kernel
theorem dX7_goes_58 : decode cX7_goes 58 = .ok (.sipush 664, 3) := by decide +kernel
theorem dX7_goes_61 : decode cX7_goes 61 = .ok (.iload_n 1, 1) := by decide +kernel
theorem dX7_goes_62 : decode cX7_goes 62 = .ok (.iadd, 1) := by decide +kernel
theorem dX7_goes_63 : decode cX7_goes 63 = .ok (.dup2, 1) := by decide +kernel
theorem dX7_goes_64 : decode cX7_goes 64 = .ok (.iaload, 1) := by decide +kernel
theorem dX7_goes_65 : decode cX7_goes 65 = .ok (.iconst 1, 1) := by decide +kernel
theorem dX7_goes_66 : decode cX7_goes 66 = .ok (.iadd, 1) := by decide +kernel
theorem dX7_goes_67 : decode cX7_goes 67 = .ok (.iastore, 1) := by decide +kernel
theorem dX7_goes_68 : decode cX7_goes 68 = .ok (.return_, 1) := by decide +kernel
theorem dX7_findFar_0 : decode cX7_findFar 0 = .ok (.iconst 0, 1) := by decide +kernel
theorem dX7_findFar_1 : decode cX7_findFar 1 = .ok (.istore_n 2, 1) := by decide +kernel
theorem dX7_findFar_2 : decode cX7_findFar 2 = .ok (.iload_n 2, 1) := by decide +kernel
theorem dX7_findFar_3 : decode cX7_findFar 3 = .ok (.bipush 12, 2) := by decide +kernel
theorem dX7_findFar_5 : decode cX7_findFar 5 = .ok (.if_icmp .ge 16, 3) := by decide +kernel
theorem dX7_findFar_8 : decode cX7_findFar 8 = .ok (.aload_n 0, 1) := by decide +kernel
theorem dX7_findFar_9 : decode cX7_findFar 9 = .ok (.getfield 20, 3) := by decide +kernel
theorem dX7_findFar_12 : decode cX7_findFar 12 = .ok (.iload_n 2, 1) := by decide +kernel
theorem dX7_findFar_13 : decode cX7_findFar 13 = .ok (.iconst (-1), 1) := by decide +kernel
theorem dX7_findFar_14 : decode cX7_findFar 14 = .ok (.iastore, 1) := by decide +kernel
theorem dX7_findFar_15 : decode cX7_findFar 15 = .ok (.iinc 2 1, 3) := by decide +kernel
theorem dX7_findFar_18 : decode cX7_findFar 18 = .ok (.goto (-16), 3) := by decide +kernel
theorem dX7_findFar_21 : decode cX7_findFar 21 = .ok (.aload_n 0, 1) := by decide +kernel
theorem dX7_findFar_22 : decode cX7_findFar 22 = .ok (.getfield 20, 3) := by decide +kernel
theorem dX7_findFar_25 : decode cX7_findFar 25 = .ok (.iload_n 1, 1) := by decide +kernel
theorem dX7_findFar_26 : decode cX7_findFar 26 = .ok (.iconst 0, 1) := by decide +kernel
theorem dX7_findFar_27 : decode cX7_findFar 27 = .ok (.iastore, 1) := by decide +kernel
theorem dX7_findFar_28 : decode cX7_findFar 28 = .ok (.iconst 1, 1) := by decide +kernel
theorem dX7_findFar_29 : decode cX7_findFar 29 = .ok (.istore_n 2, 1) := by decide +kernel
theorem dX7_findFar_30 : decode cX7_findFar 30 = .ok (.iload_n 2, 1) := by decide +kernel
theorem dX7_findFar_31 : decode cX7_findFar 31 = .ok (.ifCond .eq 163, 3) := by decide +kernel
theorem dX7_findFar_34 : decode cX7_findFar 34 = .ok (.iconst 0, 1) := by decide +kernel
theorem dX7_findFar_35 : decode cX7_findFar 35 = .ok (.istore_n 2, 1) := by decide +kernel
theorem dX7_findFar_36 : decode cX7_findFar 36 = .ok (.iconst 0, 1) := by decide +kernel
theorem dX7_findFar_37 : decode cX7_findFar 37 = .ok (.istore_n 3, 1) := by decide +kernel
theorem dX7_findFar_38 : decode cX7_findFar 38 = .ok (.iload_n 3, 1) := by decide +kernel
theorem dX7_findFar_39 : decode cX7_findFar 39 = .ok (.aload_n 0, 1) := by decide +kernel
theorem dX7_findFar_40 : decode cX7_findFar 40 = .ok (.getfield 9, 3) := by decide +kernel
theorem dX7_findFar_43 : decode cX7_findFar 43 = .ok (.iconst 1, 1) := by decide +kernel
theorem dX7_findFar_44 : decode cX7_findFar 44 = .ok (.iaload, 1) := by decide +kernel
theorem dX7_findFar_45 : decode cX7_findFar 45 = .ok (.if_icmp .ge 146, 3) := by decide +kernel
theorem dX7_findFar_48 : decode cX7_findFar 48 = .ok (.aload_n 0, 1) := by decide +kernel
theorem dX7_findFar_49 : decode cX7_findFar 49 = .ok (.getfield 9, 3) := by decide +kernel
theorem dX7_findFar_52 : decode cX7_findFar 52 = .ok (.bipush 68, 2) := by decide +kernel
theorem dX7_findFar_54 : decode cX7_findFar 54 = .ok (.iload_n 3, 1) := by decide +kernel
theorem dX7_findFar_55 : decode cX7_findFar 55 = .ok (.iadd, 1) := by decide +kernel
theorem dX7_findFar_56 : decode cX7_findFar 56 = .ok (.iaload, 1) := by decide +kernel
theorem dX7_findFar_57 : decode cX7_findFar 57 = .ok (.istore 4, 2) := by decide +kernel
theorem dX7_findFar_59 : decode cX7_findFar 59 = .ok (.aload_n 0, 1) := by decide +kernel
theorem dX7_findFar_60 : decode cX7_findFar 60 = .ok (.getfield 9, 3) := by decide +kernel
theorem dX7_findFar_63 : decode cX7_findFar 63 = .ok (.bipush 84, 2) := by decide +kernel
theorem dX7_findFar_65 : decode cX7_findFar 65 = .ok (.iload_n 3, 1) := by decide +kernel
theorem dX7_findFar_66 : decode cX7_findFar 66 = .ok (.iadd, 1) := by decide +kernel
theorem dX7_findFar_67 : decode cX7_findFar 67 = .ok (.iaload, 1) := by decide +kernel
theorem dX7_findFar_68 : decode cX7_findFar 68 = .ok (.istore 5, 2) := by decide +kernel
theorem dX7_findFar_70 : decode cX7_findFar 70 = .ok (.iload 5, 2) := by decide +kernel
theorem dX7_findFar_72 : decode cX7_findFar 72 = .ok (.iload_n 1, 1) := by decide +kernel
theorem dX7_findFar_73 : decode cX7_findFar 73 = .ok (.if_icmp .eq 22, 3) := by decide +kernel
theorem dX7_findFar_76 : decode cX7_findFar 76 = .ok (.aload_n 0, 1) := by decide +kernel
theorem dX7_findFar_77 : decode cX7_findFar 77 = .ok (.iload 5, 2) := by decide +kernel
theorem dX7_findFar_79 : decode cX7_findFar 79 = .ok (.invokevirtual 39, 3) := by decide +kernel
theorem dX7_findFar_82 : decode cX7_findFar 82 = .ok (.ifCond .eq 17, 3) := by decide +kernel
theorem dX7_findFar_85 : decode cX7_findFar 85 = .ok (.aload_n 0, 1) := by decide +kernel
theorem dX7_findFar_86 : decode cX7_findFar 86 = .ok (.iload 5, 2) := by decide +kernel
theorem dX7_findFar_88 : decode cX7_findFar 88 = .ok (.invokevirtual 39, 3) := by decide +kernel
theorem dX7_findFar_91 : decode cX7_findFar 91 = .ok (.iconst 5, 1) := by decide +kernel
theorem dX7_findFar_92 : decode cX7_findFar 92 = .ok (.if_icmp .eq 7, 3) := by decide +kernel
theorem dX7_findFar_95 : decode cX7_findFar 95 = .ok (.iconst 1, 1) := by decide +kernel
theorem dX7_findFar_96 : decode cX7_findFar 96 = .ok (.goto 4, 3) := by decide +kernel
theorem dX7_findFar_99 : decode cX7_findFar 99 = .ok (.iconst 0, 1) := by decide +kernel
theorem dX7_findFar_100 : decode cX7_findFar 100 = .ok (.istore 6, 2) := by decide +kernel
theorem dX7_findFar_102 : decode cX7_findFar 102 = .ok (.aload_n 0, 1) := by decide +kernel
theorem dX7_findFar_103 : decode cX7_findFar 103 = .ok (.getfield 9, 3) := by decide +kernel
theorem dX7_findFar_106 : decode cX7_findFar 106 = .ok (.bipush 116, 2) := by decide +kernel
theorem dX7_findFar_108 : decode cX7_findFar 108 = .ok (.iload_n 3, 1) := by decide +kernel
theorem dX7_findFar_109 : decode cX7_findFar 109 = .ok (.iadd, 1) := by decide +kernel
theorem dX7_findFar_110 : decode cX7_findFar 110 = .ok (.iaload, 1) := by decide +kernel
theorem dX7_findFar_111 : decode cX7_findFar 111 = .ok (.iconst 1, 1) := by decide +kernel
theorem dX7_findFar_112 : decode cX7_findFar 112 = .ok (.if_icmp .eq 73, 3) := by decide +kernel
theorem dX7_findFar_115 : decode cX7_findFar 115 = .ok (.iload 6, 2) := by decide +kernel
theorem dX7_findFar_117 : decode cX7_findFar 117 = .ok (.ifCond .eq 68, 3) := by decide +kernel
theorem dX7_findFar_120 : decode cX7_findFar 120 = .ok (.aload_n 0, 1) := by decide +kernel
theorem dX7_findFar_121 : decode cX7_findFar 121 = .ok (.getfield 20, 3) := by decide +kernel
theorem dX7_findFar_124 : decode cX7_findFar 124 = .ok (.iload 5, 2) := by decide +kernel
theorem dX7_findFar_126 : decode cX7_findFar 126 = .ok (.iaload, 1) := by decide +kernel
theorem dX7_findFar_127 : decode cX7_findFar 127 = .ok (.ifCond .ge 6, 3) := by decide +kernel
theorem dX7_findFar_130 : decode cX7_findFar 130 = .ok (.goto 55, 3) := by decide +kernel
theorem dX7_findFar_133 : decode cX7_findFar 133 = .ok (.aload_n 0, 1) := by decide +kernel
theorem dX7_findFar_134 : decode cX7_findFar 134 = .ok (.getfield 9, 3) := by decide +kernel
theorem dX7_findFar_137 : decode cX7_findFar 137 = .ok (.bipush 100, 2) := by decide +kernel
theorem dX7_findFar_139 : decode cX7_findFar 139 = .ok (.iload_n 3, 1) := by decide +kernel
theorem dX7_findFar_140 : decode cX7_findFar 140 = .ok (.iadd, 1) := by decide +kernel
theorem dX7_findFar_141 : decode cX7_findFar 141 = .ok (.iaload, 1) := by decide +kernel
theorem dX7_findFar_142 : decode cX7_findFar 142 = .ok (.aload_n 0, 1) := by decide +kernel
theorem dX7_findFar_143 : decode cX7_findFar 143 = .ok (.getfield 20, 3) := by decide +kernel
theorem dX7_findFar_146 : decode cX7_findFar 146 = .ok (.iload 5, 2) := by decide +kernel
theorem dX7_findFar_148 : decode cX7_findFar 148 = .ok (.iaload, 1) := by decide +kernel
theorem dX7_findFar_149 : decode cX7_findFar 149 = .ok (.iadd, 1) := by decide +kernel
theorem dX7_findFar_150 : decode cX7_findFar 150 = .ok (.istore 7, 2) := by decide +kernel
theorem dX7_findFar_152 : decode cX7_findFar 152 = .ok (.aload_n 0, 1) := by decide +kernel
theorem dX7_findFar_153 : decode cX7_findFar 153 = .ok (.getfield 20, 3) := by decide +kernel
theorem dX7_findFar_156 : decode cX7_findFar 156 = .ok (.iload 4, 2) := by decide +kernel
theorem dX7_findFar_158 : decode cX7_findFar 158 = .ok (.iaload, 1) := by decide +kernel
theorem dX7_findFar_159 : decode cX7_findFar 159 = .ok (.ifCond .lt 15, 3) := by decide +kernel
theorem dX7_findFar_162 : decode cX7_findFar 162 = .ok (.iload 7, 2) := by decide +kernel
theorem dX7_findFar_164 : decode cX7_findFar 164 = .ok (.aload_n 0, 1) := by decide +kernel
theorem dX7_findFar_165 : decode cX7_findFar 165 = .ok (.getfield 20, 3) := by decide +kernel
theorem dX7_findFar_168 : decode cX7_findFar 168 = .ok (.iload 4, 2) := by decide +kernel
theorem dX7_findFar_170 : decode cX7_findFar 170 = .ok (.iaload, 1) := by decide +kernel
theorem dX7_findFar_171 : decode cX7_findFar 171 = .ok (.if_icmp .ge 14, 3) := by decide +kernel
theorem dX7_findFar_174 : decode cX7_findFar 174 = .ok (.aload_n 0, 1) := by decide +kernel
theorem dX7_findFar_175 : decode cX7_findFar 175 = .ok (.getfield 20, 3) := by decide +kernel
theorem dX7_findFar_178 : decode cX7_findFar 178 = .ok (.iload 4, 2) := by decide +kernel
theorem dX7_findFar_180 : decode cX7_findFar 180 = .ok (.iload 7, 2) := by decide +kernel
theorem dX7_findFar_182 : decode cX7_findFar 182 = .ok (.iastore, 1) := by decide +kernel
theorem dX7_findFar_183 : decode cX7_findFar 183 = .ok (.iconst 1, 1) := by decide +kernel
theorem dX7_findFar_184 : decode cX7_findFar 184 = .ok (.istore_n 2, 1) := by decide +kernel
theorem dX7_findFar_185 : decode cX7_findFar 185 = .ok (.iinc 3 1, 3) := by decide +kernel
theorem dX7_findFar_188 : decode cX7_findFar 188 = .ok (.goto (-150), 3) := by decide +kernel
theorem dX7_findFar_191 : decode cX7_findFar 191 = .ok (.goto (-161), 3) := by decide +kernel
theorem dX7_findFar_194 : decode cX7_findFar 194 = .ok (.return_, 1) := by decide +kernel
theorem dX7_far_0 : decode cX7_far 0 = .ok (.aload_n 0, 1) := by decide +kernel
theorem dX7_far_1 : decode cX7_far 1 = .ok (.iload_n 1, 1) := by decide +kernel
theorem dX7_far_2 : decode cX7_far 2 = .ok (.invokevirtual 35, 3) := by decide +kernel
theorem dX7_far_5 : decode cX7_far 5 = .ok (.ifCond .eq 11, 3) := by decide +kernel
theorem dX7_far_8 : decode cX7_far 8 = .ok (.aload_n 0, 1) := by decide +kernel
theorem dX7_far_9 : decode cX7_far 9 = .ok (.iload_n 2, 1) := by decide +kernel
theorem dX7_far_10 : decode cX7_far 10 = .ok (.invokevirtual 35, 3) := by decide +kernel
theorem dX7_far_13 : decode cX7_far 13 = .ok (.ifCond .ne 9, 3) := by decide +kernel
theorem dX7_far_16 : decode cX7_far 16 = .ok (.aload_n 0, 1) := by decide +kernel
theorem dX7_far_17 : decode cX7_far 17 = .ok (.iconst (-1), 1) := by decide +kernel
theorem dX7_far_18 : decode cX7_far 18 = .ok (.invokevirtual 31, 3) := by decide +kernel
theorem dX7_far_21 : decode cX7_far 21 = .ok (.ireturn, 1) := by decide +kernel
theorem dX7_far_22 : decode cX7_far 22 = .ok (.aload_n 0, 1) := by decide +kernel
theorem dX7_far_23 : decode cX7_far 23 = .ok (.iload_n 2, 1) := by decide +kernel
theorem dX7_far_24 : decode cX7_far 24 = .ok (.invokevirtual 39, 3) := by decide +kernel
theorem dX7_far_27 : decode cX7_far 27 = .ok (.iconst 5, 1) := by decide +kernel
theorem dX7_far_28 : decode cX7_far 28 = .ok (.if_icmp .eq 10, 3) := by decide +kernel
theorem dX7_far_31 : decode cX7_far 31 = .ok (.aload_n 0, 1) := by decide +kernel
theorem dX7_far_32 : decode cX7_far 32 = .ok (.bipush (-4), 2) := by decide +kernel
theorem dX7_far_34 : decode cX7_far 34 = .ok (.invokevirtual 31, 3) := by decide +kernel
theorem dX7_far_37 : decode cX7_far 37 = .ok (.ireturn, 1) := by decide +kernel
theorem dX7_far_38 : decode cX7_far 38 = .ok (.aload_n 0, 1) := by decide +kernel
theorem dX7_far_39 : decode cX7_far 39 = .ok (.iload_n 2, 1) := by decide +kernel
theorem dX7_far_40 : decode cX7_far 40 = .ok (.invokevirtual 68, 3) := by decide +kernel
theorem dX7_far_43 : decode cX7_far 43 = .ok (.aload_n 0, 1) := by decide +kernel
theorem dX7_far_44 : decode cX7_far 44 = .ok (.getfield 20, 3) := by decide +kernel
theorem dX7_far_47 : decode cX7_far 47 = .ok (.iload_n 1, 1) := by decide +kernel
theorem dX7_far_48 : decode cX7_far 48 = .ok (.iaload, 1) := by decide +kernel
theorem dX7_far_49 : decode cX7_far 49 = .ok (.ifCond .ge 12, 3) := by decide +kernel
theorem dX7_far_52 : decode cX7_far 52 = .ok (.aload_n 0, 1) := by decide +kernel
theorem dX7_far_53 : decode cX7_far 53 = .ok (.bipush (-2), 2) := by decide +kernel
theorem dX7_far_55 : decode cX7_far 55 = .ok (.invokevirtual 31, 3) := by decide +kernel
theorem dX7_far_58 : decode cX7_far 58 = .ok (.goto 9, 3) := by decide +kernel
theorem dX7_far_61 : decode cX7_far 61 = .ok (.aload_n 0, 1) := by decide +kernel
theorem dX7_far_62 : decode cX7_far 62 = .ok (.getfield 20, 3) := by decide +kernel
theorem dX7_far_65 : decode cX7_far 65 = .ok (.iload_n 1, 1) := by decide +kernel
theorem dX7_far_66 : decode cX7_far 66 = .ok (.iaload, 1) := by decide +kernel
theorem dX7_far_67 : decode cX7_far 67 = .ok (.ireturn, 1) := by decide +kernel
theorem dX7_outletFor_0 : decode cX7_outletFor 0 = .ok (.aload_n 0, 1) := by decide +kernel
theorem dX7_outletFor_1 : decode cX7_outletFor 1 = .ok (.aload_n 0, 1) := by decide +kernel
theorem dX7_outletFor_2 : decode cX7_outletFor 2 = .ok (.getfield 9, 3) := by decide +kernel
theorem dX7_outletFor_5 : decode cX7_outletFor 5 = .ok (.sipush 340, 3) := by decide +kernel
theorem dX7_outletFor_8 : decode cX7_outletFor 8 = .ok (.iload_n 2, 1) := by decide +kernel
theorem dX7_outletFor_9 : decode cX7_outletFor 9 = .ok (.iadd, 1) := by decide +kernel
theorem dX7_outletFor_10 : decode cX7_outletFor 10 = .ok (.iaload, 1) := by decide +kernel
theorem dX7_outletFor_11 : decode cX7_outletFor 11 = .ok (.invokevirtual 68, 3) := by decide +kernel
theorem dX7_outletFor_14 : decode cX7_outletFor 14 = .ok (.iconst (-1), 1) := by decide +kernel
theorem dX7_outletFor_15 : decode cX7_outletFor 15 = .ok (.istore_n 3, 1) := by decide +kernel
theorem dX7_outletFor_16 : decode cX7_outletFor 16 = .ok (.iconst 0, 1) := by decide +kernel
theorem dX7_outletFor_17 : decode cX7_outletFor 17 = .ok (.istore 4, 2) := by decide +kernel
theorem dX7_outletFor_19 : decode cX7_outletFor 19 = .ok (.iconst 0, 1) := by decide +kernel
theorem dX7_outletFor_20 : decode cX7_outletFor 20 = .ok (.istore 5, 2) := by decide +kernel
theorem dX7_outletFor_22 : decode cX7_outletFor 22 = .ok (.iload 5, 2) := by decide +kernel
theorem dX7_outletFor_24 : decode cX7_outletFor 24 = .ok (.aload_n 0, 1) := by decide +kernel
theorem dX7_outletFor_25 : decode cX7_outletFor 25 = .ok (.getfield 9, 3) := by decide +kernel
theorem dX7_outletFor_28 : decode cX7_outletFor 28 = .ok (.iconst 1, 1) := by decide +kernel
theorem dX7_outletFor_29 : decode cX7_outletFor 29 = .ok (.iaload, 1) := by decide +kernel
theorem dX7_outletFor_30 : decode cX7_outletFor 30 = .ok (.if_icmp .ge 100, 3) := by decide +kernel
theorem dX7_outletFor_33 : decode cX7_outletFor 33 = .ok (.aload_n 0, 1) := by decide +kernel
theorem dX7_outletFor_34 : decode cX7_outletFor 34 = .ok (.getfield 9, 3) := by decide +kernel
theorem dX7_outletFor_37 : decode cX7_outletFor 37 = .ok (.bipush 84, 2) := by decide +kernel
theorem dX7_outletFor_39 : decode cX7_outletFor 39 = .ok (.iload 5, 2) := by decide +kernel
theorem dX7_outletFor_41 : decode cX7_outletFor 41 = .ok (.iadd, 1) := by decide +kernel
theorem dX7_outletFor_42 : decode cX7_outletFor 42 = .ok (.iaload, 1) := by decide +kernel
theorem dX7_outletFor_43 : decode cX7_outletFor 43 = .ok (.istore 6, 2) := by decide +kernel
theorem dX7_outletFor_45 : decode cX7_outletFor 45 = .ok (.aload_n 0, 1) := by decide +kernel
theorem dX7_outletFor_46 : decode cX7_outletFor 46 = .ok (.getfield 9, 3) := by decide +kernel
theorem dX7_outletFor_49 : decode cX7_outletFor 49 = .ok (.bipush 68, 2) := by decide +kernel
theorem dX7_outletFor_51 : decode cX7_outletFor 51 = .ok (.iload 5, 2) := by decide +kernel
theorem dX7_outletFor_53 : decode cX7_outletFor 53 = .ok (.iadd, 1) := by decide +kernel
theorem dX7_outletFor_54 : decode cX7_outletFor 54 = .ok (.iaload, 1) := by decide +kernel
theorem dX7_outletFor_55 : decode cX7_outletFor 55 = .ok (.iload_n 1, 1) := by decide +kernel
theorem dX7_outletFor_56 : decode cX7_outletFor 56 = .ok (.if_icmp .ne 68, 3) := by decide +kernel
theorem dX7_outletFor_59 : decode cX7_outletFor 59 = .ok (.aload_n 0, 1) := by decide +kernel
theorem dX7_outletFor_60 : decode cX7_outletFor 60 = .ok (.getfield 9, 3) := by decide +kernel
theorem dX7_outletFor_63 : decode cX7_outletFor 63 = .ok (.bipush 116, 2) := by decide +kernel
theorem dX7_outletFor_65 : decode cX7_outletFor 65 = .ok (.iload 5, 2) := by decide +kernel
theorem dX7_outletFor_67 : decode cX7_outletFor 67 = .ok (.iadd, 1) := by decide +kernel
theorem dX7_outletFor_68 : decode cX7_outletFor 68 = .ok (.iaload, 1) := by decide +kernel
theorem dX7_outletFor_69 : decode cX7_outletFor 69 = .ok (.iconst 1, 1) := by decide +kernel
theorem dX7_outletFor_70 : decode cX7_outletFor 70 = .ok (.if_icmp .eq 54, 3) := by decide +kernel
theorem dX7_outletFor_73 : decode cX7_outletFor 73 = .ok (.aload_n 0, 1) := by decide +kernel
theorem dX7_outletFor_74 : decode cX7_outletFor 74 = .ok (.getfield 20, 3) := by decide +kernel
theorem dX7_outletFor_77 : decode cX7_outletFor 77 = .ok (.iload 6, 2) := by decide +kernel
theorem dX7_outletFor_79 : decode cX7_outletFor 79 = .ok (.iaload, 1) := by decide +kernel
theorem dX7_outletFor_80 : decode cX7_outletFor 80 = .ok (.ifCond .ge 6, 3) := by decide +kernel
theorem dX7_outletFor_83 : decode cX7_outletFor 83 = .ok (.goto 41, 3) := by decide +kernel
theorem dX7_outletFor_86 : decode cX7_outletFor 86 = .ok (.aload_n 0, 1) := by decide +kernel
theorem dX7_outletFor_87 : decode cX7_outletFor 87 = .ok (.getfield 9, 3) := by decide +kernel
theorem dX7_outletFor_90 : decode cX7_outletFor 90 = .ok (.bipush 100, 2) := by decide +kernel
theorem dX7_outletFor_92 : decode cX7_outletFor 92 = .ok (.iload 5, 2) := by decide +kernel
theorem dX7_outletFor_94 : decode cX7_outletFor 94 = .ok (.iadd, 1) := by decide +kernel
theorem dX7_outletFor_95 : decode cX7_outletFor 95 = .ok (.iaload, 1) := by decide +kernel
theorem dX7_outletFor_96 : decode cX7_outletFor 96 = .ok (.aload_n 0, 1) := by decide +kernel
theorem dX7_outletFor_97 : decode cX7_outletFor 97 = .ok (.getfield 20, 3) := by decide +kernel
theorem dX7_outletFor_100 : decode cX7_outletFor 100 = .ok (.iload 6, 2) := by decide +kernel
theorem dX7_outletFor_102 : decode cX7_outletFor 102 = .ok (.iaload, 1) := by decide +kernel
theorem dX7_outletFor_103 : decode cX7_outletFor 103 = .ok (.iadd, 1) := by decide +kernel
theorem dX7_outletFor_104 : decode cX7_outletFor 104 = .ok (.istore 7, 2) := by decide +kernel
theorem dX7_outletFor_106 : decode cX7_outletFor 106 = .ok (.iload_n 3, 1) := by decide +kernel
theorem dX7_outletFor_107 : decode cX7_outletFor 107 = .ok (.ifCond .lt 10, 3) := by decide +kernel
theorem dX7_outletFor_110 : decode cX7_outletFor 110 = .ok (.iload 7, 2) := by decide +kernel
theorem dX7_outletFor_112 : decode cX7_outletFor 112 = .ok (.iload 4, 2) := by decide +kernel
theorem dX7_outletFor_114 : decode cX7_outletFor 114 = .ok (.if_icmp .ge 10, 3) := by decide +kernel
theorem dX7_outletFor_117 : decode cX7_outletFor 117 = .ok (.iload 5, 2) := by decide +kernel
theorem dX7_outletFor_119 : decode cX7_outletFor 119 = .ok (.istore_n 3, 1) := by decide +kernel
theorem dX7_outletFor_120 : decode cX7_outletFor 120 = .ok (.iload 7, 2) := by decide +kernel
theorem dX7_outletFor_122 : decode cX7_outletFor 122 = .ok (.istore 4, 2) := by decide +kernel
theorem dX7_outletFor_124 : decode cX7_outletFor 124 = .ok (.iinc 5 1, 3) := by decide +kernel
theorem dX7_outletFor_127 : decode cX7_outletFor 127 = .ok (.goto (-105), 3) := by decide +kernel
theorem dX7_outletFor_130 : decode cX7_outletFor 130 = .ok (.iload_n 3, 1) := by decide +kernel
theorem dX7_outletFor_131 : decode cX7_outletFor 131 = .ok (.ireturn, 1) := by decide +kernel
theorem dX7_route_0 : decode cX7_route 0 = .ok (.aload_n 0, 1) := by decide +kernel
theorem dX7_route_1 : decode cX7_route 1 = .ok (.iload_n 1, 1) := by decide +kernel
theorem dX7_route_2 : decode cX7_route 2 = .ok (.invokevirtual 35, 3) := by decide +kernel
theorem dX7_route_5 : decode cX7_route 5 = .ok (.ifCond .eq 11, 3) := by decide +kernel
theorem dX7_route_8 : decode cX7_route 8 = .ok (.aload_n 0, 1) := by decide +kernel
theorem dX7_route_9 : decode cX7_route 9 = .ok (.iload_n 2, 1) := by decide +kernel
theorem dX7_route_10 : decode cX7_route 10 = .ok (.invokevirtual 49, 3) := by decide +kernel
theorem dX7_route_13 : decode cX7_route 13 = .ok (.ifCond .ne 9, 3) := by decide +kernel
theorem dX7_route_16 : decode cX7_route 16 = .ok (.aload_n 0, 1) := by decide +kernel
theorem dX7_route_17 : decode cX7_route 17 = .ok (.iconst (-1), 1) := by decide +kernel
theorem dX7_route_18 : decode cX7_route 18 = .ok (.invokevirtual 31, 3) := by decide +kernel
theorem dX7_route_21 : decode cX7_route 21 = .ok (.ireturn, 1) := by decide +kernel
theorem dX7_route_22 : decode cX7_route 22 = .ok (.aload_n 0, 1) := by decide +kernel
theorem dX7_route_23 : decode cX7_route 23 = .ok (.iload_n 1, 1) := by decide +kernel
theorem dX7_route_24 : decode cX7_route 24 = .ok (.invokevirtual 39, 3) := by decide +kernel
theorem dX7_route_27 : decode cX7_route 27 = .ok (.iconst 3, 1) := by decide +kernel
theorem dX7_route_28 : decode cX7_route 28 = .ok (.if_icmp .eq 10, 3) := by decide +kernel
theorem dX7_route_31 : decode cX7_route 31 = .ok (.aload_n 0, 1) := by decide +kernel
theorem dX7_route_32 : decode cX7_route 32 = .ok (.bipush (-4), 2) := by decide +kernel
theorem dX7_route_34 : decode cX7_route 34 = .ok (.invokevirtual 31, 3) := by decide +kernel
theorem dX7_route_37 : decode cX7_route 37 = .ok (.ireturn, 1) := by decide +kernel
theorem dX7_route_38 : decode cX7_route 38 = .ok (.aload_n 0, 1) := by decide +kernel
theorem dX7_route_39 : decode cX7_route 39 = .ok (.iload_n 1, 1) := by decide +kernel
theorem dX7_route_40 : decode cX7_route 40 = .ok (.iload_n 2, 1) := by decide +kernel
theorem dX7_route_41 : decode cX7_route 41 = .ok (.invokevirtual 72, 3) := by decide +kernel
theorem dX7_route_44 : decode cX7_route 44 = .ok (.istore_n 3, 1) := by decide +kernel
theorem dX7_route_45 : decode cX7_route 45 = .ok (.iload_n 3, 1) := by decide +kernel
theorem dX7_route_46 : decode cX7_route 46 = .ok (.ifCond .ge 12, 3) := by decide +kernel
theorem dX7_route_49 : decode cX7_route 49 = .ok (.aload_n 0, 1) := by decide +kernel
theorem dX7_route_50 : decode cX7_route 50 = .ok (.bipush (-2), 2) := by decide +kernel
theorem dX7_route_52 : decode cX7_route 52 = .ok (.invokevirtual 31, 3) := by decide +kernel
theorem dX7_route_55 : decode cX7_route 55 = .ok (.goto 4, 3) := by decide +kernel
theorem dX7_route_58 : decode cX7_route 58 = .ok (.iload_n 3, 1) := by decide +kernel
theorem dX7_route_59 : decode cX7_route 59 = .ok (.ireturn, 1) := by decide +kernel
theorem dX7_outlet_0 : decode cX7_outlet 0 = .ok (.iconst 0, 1) := by decide +kernel
theorem dX7_outlet_1 : decode cX7_outlet 1 = .ok (.istore_n 2, 1) := by decide +kernel
theorem dX7_outlet_2 : decode cX7_outlet 2 = .ok (.iload_n 2, 1) := by decide +kernel
theorem dX7_outlet_3 : decode cX7_outlet 3 = .ok (.aload_n 0, 1) := by decide +kernel
theorem dX7_outlet_4 : decode cX7_outlet 4 = .ok (.getfield 9, 3) := by decide +kernel
theorem dX7_outlet_7 : decode cX7_outlet 7 = .ok (.iconst 1, 1) := by decide +kernel
theorem dX7_outlet_8 : decode cX7_outlet 8 = .ok (.iaload, 1) := by decide +kernel
theorem dX7_outlet_9 : decode cX7_outlet 9 = .ok (.if_icmp .ge 36, 3) := by decide +kernel
theorem dX7_outlet_12 : decode cX7_outlet 12 = .ok (.aload_n 0, 1) := by decide +kernel
theorem dX7_outlet_13 : decode cX7_outlet 13 = .ok (.getfield 9, 3) := by decide +kernel
theorem dX7_outlet_16 : decode cX7_outlet 16 = .ok (.bipush 68, 2) := by decide +kernel
theorem dX7_outlet_18 : decode cX7_outlet 18 = .ok (.iload_n 2, 1) := by decide +kernel
theorem dX7_outlet_19 : decode cX7_outlet 19 = .ok (.iadd, 1) := by decide +kernel
theorem dX7_outlet_20 : decode cX7_outlet 20 = .ok (.iaload, 1) := by decide +kernel
theorem dX7_outlet_21 : decode cX7_outlet 21 = .ok (.iload_n 1, 1) := by decide +kernel
theorem dX7_outlet_22 : decode cX7_outlet 22 = .ok (.if_icmp .ne 17, 3) := by decide +kernel
theorem dX7_outlet_25 : decode cX7_outlet 25 = .ok (.aload_n 0, 1) := by decide +kernel
theorem dX7_outlet_26 : decode cX7_outlet 26 = .ok (.getfield 9, 3) := by decide +kernel
theorem dX7_outlet_29 : decode cX7_outlet 29 = .ok (.bipush 116, 2) := by decide +kernel
theorem dX7_outlet_31 : decode cX7_outlet 31 = .ok (.iload_n 2, 1) := by decide +kernel
theorem dX7_outlet_32 : decode cX7_outlet 32 = .ok (.iadd, 1) := by decide +kernel
theorem dX7_outlet_33 : decode cX7_outlet 33 = .ok (.iaload, 1) := by decide +kernel
theorem dX7_outlet_34 : decode cX7_outlet 34 = .ok (.ifCond .ne 5, 3) := by decide +kernel
theorem dX7_outlet_37 : decode cX7_outlet 37 = .ok (.iload_n 2, 1) := by decide +kernel
theorem dX7_outlet_38 : decode cX7_outlet 38 = .ok (.ireturn, 1) := by decide +kernel
theorem dX7_outlet_39 : decode cX7_outlet 39 = .ok (.iinc 2 1, 3) := by decide +kernel
theorem dX7_outlet_42 : decode cX7_outlet 42 = .ok (.goto (-40), 3) := by decide +kernel
theorem dX7_outlet_45 : decode cX7_outlet 45 = .ok (.iconst (-1), 1) := by decide +kernel
theorem dX7_outlet_46 : decode cX7_outlet 46 = .ok (.ireturn, 1) := by decide +kernel
theorem dX7_outletAt_0 : decode cX7_outletAt 0 = .ok (.iload_n 2, 1) := by decide +kernel
theorem dX7_outletAt_1 : decode cX7_outletAt 1 = .ok (.istore_n 3, 1) := by decide +kernel
theorem dX7_outletAt_2 : decode cX7_outletAt 2 = .ok (.iconst 0, 1) := by decide +kernel
theorem dX7_outletAt_3 : decode cX7_outletAt 3 = .ok (.istore 4, 2) := by decide +kernel
theorem dX7_outletAt_5 : decode cX7_outletAt 5 = .ok (.iload 4, 2) := by decide +kernel
theorem dX7_outletAt_7 : decode cX7_outletAt 7 = .ok (.aload_n 0, 1) := by decide +kernel
theorem dX7_outletAt_8 : decode cX7_outletAt 8 = .ok (.getfield 9, 3) := by decide +kernel
theorem dX7_outletAt_11 : decode cX7_outletAt 11 = .ok (.iconst 1, 1) := by decide +kernel
theorem dX7_outletAt_12 : decode cX7_outletAt 12 = .ok (.iaload, 1) := by decide +kernel
theorem dX7_outletAt_13 : decode cX7_outletAt 13 = .ok (.if_icmp .ge 36, 3) := by decide +kernel
theorem dX7_outletAt_16 : decode cX7_outletAt 16 = .ok (.aload_n 0, 1) := by decide +kernel
theorem dX7_outletAt_17 : decode cX7_outletAt 17 = .ok (.getfield 9, 3) := by decide +kernel
theorem dX7_outletAt_20 : decode cX7_outletAt 20 = .ok (.bipush 68, 2) := by decide +kernel
theorem dX7_outletAt_22 : decode cX7_outletAt 22 = .ok (.iload 4, 2) := by decide +kernel
theorem dX7_outletAt_24 : decode cX7_outletAt 24 = .ok (.iadd, 1) := by decide +kernel
theorem dX7_outletAt_25 : decode cX7_outletAt 25 = .ok (.iaload, 1) := by decide +kernel
theorem dX7_outletAt_26 : decode cX7_outletAt 26 = .ok (.iload_n 1, 1) := by decide +kernel
theorem dX7_outletAt_27 : decode cX7_outletAt 27 = .ok (.if_icmp .eq 6, 3) := by decide +kernel
theorem dX7_outletAt_30 : decode cX7_outletAt 30 = .ok (.goto 13, 3) := by decide +kernel
theorem dX7_outletAt_33 : decode cX7_outletAt 33 = .ok (.iload_n 3, 1) := by decide +kernel
theorem dX7_outletAt_34 : decode cX7_outletAt 34 = .ok (.ifCond .ne 6, 3) := by decide +kernel
theorem dX7_outletAt_37 : decode cX7_outletAt 37 = .ok (.iload 4, 2) := by decide +kernel
theorem dX7_outletAt_39 : decode cX7_outletAt 39 = .ok (.ireturn, 1) := by decide +kernel
theorem dX7_outletAt_40 : decode cX7_outletAt 40 = .ok (.iinc 3 (-1), 3) := by decide +kernel
theorem dX7_outletAt_43 : decode cX7_outletAt 43 = .ok (.iinc 4 1, 3) := by decide +kernel
theorem dX7_outletAt_46 : decode cX7_outletAt 46 = .ok (.goto (-41), 3) := by decide +kernel
theorem dX7_outletAt_49 : decode cX7_outletAt 49 = .ok (.iconst (-1), 1) := by decide +kernel
theorem dX7_outletAt_50 : decode cX7_outletAt 50 = .ok (.ireturn, 1) := by decide +kernel
theorem dX7_isFree_0 : decode cX7_isFree 0 = .ok (.iload_n 1, 1) := by decide +kernel
theorem dX7_isFree_1 : decode cX7_isFree 1 = .ok (.ifCond .lt 35, 3) := by decide +kernel
theorem dX7_isFree_4 : decode cX7_isFree 4 = .ok (.aload_n 0, 1) := by decide +kernel
theorem dX7_isFree_5 : decode cX7_isFree 5 = .ok (.getfield 9, 3) := by decide +kernel
theorem dX7_isFree_8 : decode cX7_isFree 8 = .ok (.bipush 116, 2) := by decide +kernel
theorem dX7_isFree_10 : decode cX7_isFree 10 = .ok (.iload_n 1, 1) := by decide +kernel
theorem dX7_isFree_11 : decode cX7_isFree 11 = .ok (.iadd, 1) := by decide +kernel
theorem dX7_isFree_12 : decode cX7_isFree 12 = .ok (.iaload, 1) := by decide +kernel
theorem dX7_isFree_13 : decode cX7_isFree 13 = .ok (.ifCond .ne 23, 3) := by decide +kernel
theorem dX7_isFree_16 : decode cX7_isFree 16 = .ok (.aload_n 0, 1) := by decide +kernel
theorem dX7_isFree_17 : decode cX7_isFree 17 = .ok (.getfield 9, 3) := by decide +kernel
theorem dX7_isFree_20 : decode cX7_isFree 20 = .ok (.sipush 148, 3) := by decide +kernel
theorem dX7_isFree_23 : decode cX7_isFree 23 = .ok (.bipush 12, 2) := by decide +kernel
theorem dX7_isFree_25 : decode cX7_isFree 25 = .ok (.iload_n 1, 1) := by decide +kernel
theorem dX7_isFree_26 : decode cX7_isFree 26 = .ok (.imul, 1) := by decide +kernel
theorem dX7_isFree_27 : decode cX7_isFree 27 = .ok (.iadd, 1) := by decide +kernel
theorem dX7_isFree_28 : decode cX7_isFree 28 = .ok (.iaload, 1) := by decide +kernel
theorem dX7_isFree_29 : decode cX7_isFree 29 = .ok (.ifCond .ne 7, 3) := by decide +kernel
theorem dX7_isFree_32 : decode cX7_isFree 32 = .ok (.iconst 1, 1) := by decide +kernel
theorem dX7_isFree_33 : decode cX7_isFree 33 = .ok (.goto 4, 3) := by decide +kernel
theorem dX7_isFree_36 : decode cX7_isFree 36 = .ok (.iconst 0, 1) := by decide +kernel
theorem dX7_isFree_37 : decode cX7_isFree 37 = .ok (.ireturn, 1) := by decide +kernel
theorem dX7_put_0 : decode cX7_put 0 = .ok (.aload_n 0, 1) := by decide +kernel
theorem dX7_put_1 : decode cX7_put 1 = .ok (.iload_n 2, 1) := by decide +kernel
theorem dX7_put_2 : decode cX7_put 2 = .ok (.invokevirtual 75, 3) := by decide +kernel
theorem dX7_put_5 : decode cX7_put 5 = .ok (.ifCond .ne 5, 3) := by decide +kernel
theorem dX7_put_8 : decode cX7_put 8 = .ok (.iconst 0, 1) := by decide +kernel
theorem dX7_put_9 : decode cX7_put 9 = .ok (.ireturn, 1) := by decide +kernel
theorem dX7_put_10 : decode cX7_put 10 = .ok (.aload_n 0, 1) := by decide +kernel
theorem dX7_put_11 : decode cX7_put 11 = .ok (.getfield 9, 3) := by decide +kernel
theorem dX7_put_14 : decode cX7_put 14 = .ok (.sipush 148, 3) := by decide +kernel
theorem dX7_put_17 : decode cX7_put 17 = .ok (.bipush 12, 2) := by decide +kernel
theorem dX7_put_19 : decode cX7_put 19 = .ok (.iload_n 2, 1) := by decide +kernel
theorem dX7_put_20 : decode cX7_put 20 = .ok (.imul, 1) := by decide +kernel
theorem dX7_put_21 : decode cX7_put 21 = .ok (.iadd, 1) := by decide +kernel
theorem dX7_put_22 : decode cX7_put 22 = .ok (.iload_n 1, 1) := by decide +kernel
theorem dX7_put_23 : decode cX7_put 23 = .ok (.iconst 1, 1) := by decide +kernel
theorem dX7_put_24 : decode cX7_put 24 = .ok (.iadd, 1) := by decide +kernel
theorem dX7_put_25 : decode cX7_put 25 = .ok (.iastore, 1) := by decide +kernel
theorem dX7_put_26 : decode cX7_put 26 = .ok (.aload_n 0, 1) := by decide +kernel
theorem dX7_put_27 : decode cX7_put 27 = .ok (.iload_n 1, 1) := by decide +kernel
theorem dX7_put_28 : decode cX7_put 28 = .ok (.iconst 1, 1) := by decide +kernel
theorem dX7_put_29 : decode cX7_put 29 = .ok (.iload_n 2, 1) := by decide +kernel
theorem dX7_put_30 : decode cX7_put 30 = .ok (.iconst 0, 1) := by decide +kernel
theorem dX7_put_31 : decode cX7_put 31 = .ok (.invokevirtual 45, 3) := by decide +kernel
theorem dX7_put_34 : decode cX7_put 34 = .ok (.aload_n 0, 1) := by decide +kernel
theorem dX7_put_35 : decode cX7_put 35 = .ok (.getfield 16, 3) := by decide +kernel
theorem dX7_put_38 : decode cX7_put 38 = .ok (.iload_n 1, 1) := by decide +kernel
theorem dX7_put_39 : decode cX7_put 39 = .ok (.iconst 1, 1) := by decide +kernel
theorem dX7_put_40 : decode cX7_put 40 = .ok (.bastore, 1) := by decide +kernel
theorem dX7_put_41 : decode cX7_put 41 = .ok (.iconst 1, 1) := by decide +kernel
theorem dX7_put_42 : decode cX7_put 42 = .ok (.ireturn, 1) := by decide +kernel
theorem dX7_firstWaiting_0 : decode cX7_firstWaiting 0 = .ok (.iconst (-1), 1) := by decide +kernel
theorem dX7_firstWaiting_1 : decode cX7_firstWaiting 1 = .ok (.istore_n 2, 1) := by decide +kernel
theorem dX7_firstWaiting_2 : decode cX7_firstWaiting 2 = .ok (.iconst 0, 1) := by decide +kernel
theorem dX7_firstWaiting_3 : decode cX7_firstWaiting 3 = .ok (.istore_n 3, 1) := by decide +kernel
theorem dX7_firstWaiting_4 : decode cX7_firstWaiting 4 = .ok (.iload_n 3, 1) := by decide +kernel
theorem dX7_firstWaiting_5 : decode cX7_firstWaiting 5 = .ok (.aload_n 0, 1) := by decide +kernel
theorem dX7_firstWaiting_6 : decode cX7_firstWaiting 6 = .ok (.getfield 9, 3) := by decide +kernel
theorem dX7_firstWaiting_9 : decode cX7_firstWaiting 9 = .ok (.iconst 3, 1) := by decide +kernel
theorem dX7_firstWaiting_10 : decode cX7_firstWaiting 10 = .ok (.iaload, 1) := by decide +kernel
theorem dX7_firstWaiting_11 : decode cX7_firstWaiting 11 = .ok (.if_icmp .ge 81, 3) := by decide +kernel
theorem dX7_firstWaiting_14 : decode cX7_firstWaiting 14 = .ok (.aload_n 0, 1) := by decide +kernel
theorem dX7_firstWaiting_15 : decode cX7_firstWaiting 15 = .ok (.getfield 9, 3) := by decide +kernel
theorem dX7_firstWaiting_18 : decode cX7_firstWaiting 18 = .ok (.sipush 484, 3) := by decide +kernel
theorem dX7_firstWaiting_21 : decode cX7_firstWaiting 21 = .ok (.iload_n 3, 1) := by decide +kernel
theorem dX7_firstWaiting_22 : decode cX7_firstWaiting 22 = .ok (.iadd, 1) := by decide +kernel
theorem dX7_firstWaiting_23 : decode cX7_firstWaiting 23 = .ok (.iaload, 1) := by decide +kernel
theorem dX7_firstWaiting_24 : decode cX7_firstWaiting 24 = .ok (.ifCond .ne 21, 3) := by decide +kernel
theorem dX7_firstWaiting_27 : decode cX7_firstWaiting 27 = .ok (.aload_n 0, 1) := by decide +kernel
theorem dX7_firstWaiting_28 : decode cX7_firstWaiting 28 = .ok (.getfield 9, 3) := by decide +kernel
theorem dX7_firstWaiting_31 : decode cX7_firstWaiting 31 = .ok (.sipush 544, 3) := by decide +kernel
theorem dX7_firstWaiting_34 : decode cX7_firstWaiting 34 = .ok (.iload_n 3, 1) := by decide +kernel
theorem dX7_firstWaiting_35 : decode cX7_firstWaiting 35 = .ok (.iadd, 1) := by decide +kernel
theorem dX7_firstWaiting_36 : decode cX7_firstWaiting 36 = .ok (.iaload, 1) := by decide +kernel
theorem dX7_firstWaiting_37 : decode cX7_firstWaiting 37 = .ok (.iload_n 1, 1) := by decide +kernel
theorem dX7_firstWaiting_38 : decode cX7_firstWaiting 38 = .ok (.if_icmp .ne 7, 3) := by decide +kernel
theorem dX7_firstWaiting_41 : decode cX7_firstWaiting 41 = .ok (.iconst 1, 1) := by decide +kernel
theorem dX7_firstWaiting_42 : decode cX7_firstWaiting 42 = .ok (.goto 4, 3) := by decide +kernel
theorem dX7_firstWaiting_45 : decode cX7_firstWaiting 45 = .ok (.iconst 0, 1) := by decide +kernel
theorem dX7_firstWaiting_46 : decode cX7_firstWaiting 46 = .ok (.istore 4, 2) := by decide +kernel
theorem dX7_firstWaiting_48 : decode cX7_firstWaiting 48 = .ok (.iload 4, 2) := by decide +kernel
theorem dX7_firstWaiting_50 : decode cX7_firstWaiting 50 = .ok (.ifCond .eq 34, 3) := by decide +kernel
theorem dX7_firstWaiting_53 : decode cX7_firstWaiting 53 = .ok (.iload_n 2, 1) := by decide +kernel
theorem dX7_firstWaiting_54 : decode cX7_firstWaiting 54 = .ok (.ifCond .lt 26, 3) := by decide +kernel
theorem dX7_firstWaiting_57 : decode cX7_firstWaiting 57 = .ok (.aload_n 0, 1) := by decide +kernel
theorem dX7_firstWaiting_58 : decode cX7_firstWaiting 58 = .ok (.getfield 9, 3) := by decide +kernel
theorem dX7_firstWaiting_61 : decode cX7_firstWaiting 61 = .ok (.sipush 604, 3) := by decide +kernel
theorem dX7_firstWaiting_64 : decode cX7_firstWaiting 64 = .ok (.iload_n 3, 1) := by decide +kernel
theorem dX7_firstWaiting_65 : decode cX7_firstWaiting 65 = .ok (.iadd, 1) := by decide +kernel
theorem dX7_firstWaiting_66 : decode cX7_firstWaiting 66 = .ok (.iaload, 1) := by decide +kernel
theorem dX7_firstWaiting_67 : decode cX7_firstWaiting 67 = .ok (.aload_n 0, 1) := by decide +kernel
theorem dX7_firstWaiting_68 : decode cX7_firstWaiting 68 = .ok (.getfield 9, 3) := by decide +kernel
theorem dX7_firstWaiting_71 : decode cX7_firstWaiting 71 = .ok (.sipush 604, 3) := by decide +kernel
theorem dX7_firstWaiting_74 : decode cX7_firstWaiting 74 = .ok (.iload_n 2, 1) := by decide +kernel
theorem dX7_firstWaiting_75 : decode cX7_firstWaiting 75 = .ok (.iadd, 1) := by decide +kernel
theorem dX7_firstWaiting_76 : decode cX7_firstWaiting 76 = .ok (.iaload, 1) := by decide +kernel
theorem dX7_firstWaiting_77 : decode cX7_firstWaiting 77 = .ok (.if_icmp .ge 7, 3) := by decide +kernel
theorem dX7_firstWaiting_80 : decode cX7_firstWaiting 80 = .ok (.iload_n 3, 1) := by decide +kernel
theorem dX7_firstWaiting_81 : decode cX7_firstWaiting 81 = .ok (.goto 4, 3) := by decide +kernel
theorem dX7_firstWaiting_84 : decode cX7_firstWaiting 84 = .ok (.iload_n 2, 1) := by decide +kernel
theorem dX7_firstWaiting_85 : decode cX7_firstWaiting 85 = .ok (.istore_n 2, 1) := by decide +kernel
theorem dX7_firstWaiting_86 : decode cX7_firstWaiting 86 = .ok (.iinc 3 1, 3) := by decide +kernel
theorem dX7_firstWaiting_89 : decode cX7_firstWaiting 89 = .ok (.goto (-85), 3) := by decide +kernel
theorem dX7_firstWaiting_92 : decode cX7_firstWaiting 92 = .ok (.iload_n 2, 1) := by decide +kernel
theorem dX7_firstWaiting_93 : decode cX7_firstWaiting 93 = .ok (.ireturn, 1) := by decide +kernel
theorem dX7_firstOpened_0 : decode cX7_firstOpened 0 = .ok (.iconst (-1), 1) := by decide +kernel
theorem dX7_firstOpened_1 : decode cX7_firstOpened 1 = .ok (.istore_n 2, 1) := by decide +kernel
theorem dX7_firstOpened_2 : decode cX7_firstOpened 2 = .ok (.iconst 0, 1) := by decide +kernel
theorem dX7_firstOpened_3 : decode cX7_firstOpened 3 = .ok (.istore_n 3, 1) := by decide +kernel
theorem dX7_firstOpened_4 : decode cX7_firstOpened 4 = .ok (.iload_n 3, 1) := by decide +kernel
theorem dX7_firstOpened_5 : decode cX7_firstOpened 5 = .ok (.aload_n 0, 1) := by decide +kernel
theorem dX7_firstOpened_6 : decode cX7_firstOpened 6 = .ok (.getfield 9, 3) := by decide +kernel
theorem dX7_firstOpened_9 : decode cX7_firstOpened 9 = .ok (.iconst 3, 1) := by decide +kernel
theorem dX7_firstOpened_10 : decode cX7_firstOpened 10 = .ok (.iaload, 1) := by decide +kernel
theorem dX7_firstOpened_11 : decode cX7_firstOpened 11 = .ok (.if_icmp .ge 110, 3) := by decide +kernel
theorem dX7_firstOpened_14 : decode cX7_firstOpened 14 = .ok (.aload_n 0, 1) := by decide +kernel
theorem dX7_firstOpened_15 : decode cX7_firstOpened 15 = .ok (.getfield 9, 3) := by decide +kernel
theorem dX7_firstOpened_18 : decode cX7_firstOpened 18 = .ok (.sipush 484, 3) := by decide +kernel
theorem dX7_firstOpened_21 : decode cX7_firstOpened 21 = .ok (.iload_n 3, 1) := by decide +kernel
theorem dX7_firstOpened_22 : decode cX7_firstOpened 22 = .ok (.iadd, 1) := by decide +kernel
theorem dX7_firstOpened_23 : decode cX7_firstOpened 23 = .ok (.iaload, 1) := by decide +kernel
theorem dX7_firstOpened_24 : decode cX7_firstOpened 24 = .ok (.iconst 3, 1) := by decide +kernel
theorem dX7_firstOpened_25 : decode cX7_firstOpened 25 = .ok (.if_icmp .ne 49, 3) := by decide +kernel
theorem dX7_firstOpened_28 : decode cX7_firstOpened 28 = .ok (.aload_n 0, 1) := by decide +kernel
theorem dX7_firstOpened_29 : decode cX7_firstOpened 29 = .ok (.getfield 9, 3) := by decide +kernel
theorem dX7_firstOpened_32 : decode cX7_firstOpened 32 = .ok (.sipush 544, 3) := by decide +kernel
theorem dX7_firstOpened_35 : decode cX7_firstOpened 35 = .ok (.iload_n 3, 1) := by decide +kernel
theorem dX7_firstOpened_36 : decode cX7_firstOpened 36 = .ok (.iadd, 1) := by decide +kernel
theorem dX7_firstOpened_37 : decode cX7_firstOpened 37 = .ok (.iaload, 1) := by decide +kernel
theorem dX7_firstOpened_38 : decode cX7_firstOpened 38 = .ok (.iload_n 1, 1) := by decide +kernel
theorem dX7_firstOpened_39 : decode cX7_firstOpened 39 = .ok (.if_icmp .ne 35, 3) := by decide +kernel
theorem dX7_firstOpened_42 : decode cX7_firstOpened 42 = .ok (.aload_n 0, 1) := by decide +kernel
theorem dX7_firstOpened_43 : decode cX7_firstOpened 43 = .ok (.getfield 9, 3) := by decide +kernel
theorem dX7_firstOpened_46 : decode cX7_firstOpened 46 = .ok (.sipush 348, 3) := by decide +kernel
theorem dX7_firstOpened_49 : decode cX7_firstOpened 49 = .ok (.aload_n 0, 1) := by decide +kernel
theorem dX7_firstOpened_50 : decode cX7_firstOpened 50 = .ok (.getfield 9, 3) := by decide +kernel
theorem dX7_firstOpened_53 : decode cX7_firstOpened 53 = .ok (.sipush 364, 3) := by decide +kernel
theorem dX7_firstOpened_56 : decode cX7_firstOpened 56 = .ok (.iload_n 3, 1) := by decide +kernel
theorem dX7_firstOpened_57 : decode cX7_firstOpened 57 = .ok (.iadd, 1) := by decide +kernel
theorem dX7_firstOpened_58 : decode cX7_firstOpened 58 = .ok (.iaload, 1) := by decide +kernel
theorem dX7_firstOpened_59 : decode cX7_firstOpened 59 = .ok (.iadd, 1) := by decide +kernel
theorem dX7_firstOpened_60 : decode cX7_firstOpened 60 = .ok (.iaload, 1) := by decide +kernel
theorem dX7_firstOpened_61 : decode cX7_firstOpened 61 = .ok (.aload_n 0, 1) := by decide +kernel
theorem dX7_firstOpened_62 : decode cX7_firstOpened 62 = .ok (.getfield 9, 3) := by decide +kernel
theorem dX7_firstOpened_65 : decode cX7_firstOpened 65 = .ok (.iconst 4, 1) := by decide +kernel
theorem dX7_firstOpened_66 : decode cX7_firstOpened 66 = .ok (.iaload, 1) := by decide +kernel
theorem dX7_firstOpened_67 : decode cX7_firstOpened 67 = .ok (.if_icmp .gt 7, 3) := by decide +kernel
theorem dX7_firstOpened_70 : decode cX7_firstOpened 70 = .ok (.iconst 1, 1) := by decide +kernel
theorem dX7_firstOpened_71 : decode cX7_firstOpened 71 = .ok (.goto 4, 3) := by decide +kernel
theorem dX7_firstOpened_74 : decode cX7_firstOpened 74 = .ok (.iconst 0, 1) := by decide +kernel
theorem dX7_firstOpened_75 : decode cX7_firstOpened 75 = .ok (.istore 4, 2) := by decide +kernel
theorem dX7_firstOpened_77 : decode cX7_firstOpened 77 = .ok (.iload 4, 2) := by decide +kernel
theorem dX7_firstOpened_79 : decode cX7_firstOpened 79 = .ok (.ifCond .eq 34, 3) := by decide +kernel
theorem dX7_firstOpened_82 : decode cX7_firstOpened 82 = .ok (.iload_n 2, 1) := by decide +kernel
theorem dX7_firstOpened_83 : decode cX7_firstOpened 83 = .ok (.ifCond .lt 26, 3) := by decide +kernel
theorem dX7_firstOpened_86 : decode cX7_firstOpened 86 = .ok (.aload_n 0, 1) := by decide +kernel
theorem dX7_firstOpened_87 : decode cX7_firstOpened 87 = .ok (.getfield 9, 3) := by decide +kernel
theorem dX7_firstOpened_90 : decode cX7_firstOpened 90 = .ok (.sipush 604, 3) := by decide +kernel
theorem dX7_firstOpened_93 : decode cX7_firstOpened 93 = .ok (.iload_n 3, 1) := by decide +kernel
theorem dX7_firstOpened_94 : decode cX7_firstOpened 94 = .ok (.iadd, 1) := by decide +kernel
theorem dX7_firstOpened_95 : decode cX7_firstOpened 95 = .ok (.iaload, 1) := by decide +kernel
theorem dX7_firstOpened_96 : decode cX7_firstOpened 96 = .ok (.aload_n 0, 1) := by decide +kernel
theorem dX7_firstOpened_97 : decode cX7_firstOpened 97 = .ok (.getfield 9, 3) := by decide +kernel
theorem dX7_firstOpened_100 : decode cX7_firstOpened 100 = .ok (.sipush 604, 3) := by decide +kernel
theorem dX7_firstOpened_103 : decode cX7_firstOpened 103 = .ok (.iload_n 2, 1) := by decide +kernel
theorem dX7_firstOpened_104 : decode cX7_firstOpened 104 = .ok (.iadd, 1) := by decide +kernel
theorem dX7_firstOpened_105 : decode cX7_firstOpened 105 = .ok (.iaload, 1) := by decide +kernel
theorem dX7_firstOpened_106 : decode cX7_firstOpened 106 = .ok (.if_icmp .ge 7, 3) := by decide +kernel
theorem dX7_firstOpened_109 : decode cX7_firstOpened 109 = .ok (.iload_n 3, 1) := by decide +kernel
theorem dX7_firstOpened_110 : decode cX7_firstOpened 110 = .ok (.goto 4, 3) := by decide +kernel
theorem dX7_firstOpened_113 : decode cX7_firstOpened 113 = .ok (.iload_n 2, 1) := by decide +kernel
theorem dX7_firstOpened_114 : decode cX7_firstOpened 114 = .ok (.istore_n 2, 1) := by decide +kernel
theorem dX7_firstOpened_115 : decode cX7_firstOpened 115 = .ok (.iinc 3 1, 3) := by decide +kernel
theorem dX7_firstOpened_118 : decode cX7_firstOpened 118 = .ok (.goto (-114), 3) := by decide +kernel
theorem dX7_firstOpened_121 : decode cX7_firstOpened 121 = .ok (.iload_n 2, 1) := by decide +kernel
theorem dX7_firstOpened_122 : decode cX7_firstOpened 122 = .ok (.ireturn, 1) := by decide +kernel
theorem dX7_screened_0 : decode cX7_screened 0 = .ok (.aload_n 0, 1) := by decide +kernel
theorem dX7_screened_1 : decode cX7_screened 1 = .ok (.getfield 9, 3) := by decide +kernel
theorem dX7_screened_4 : decode cX7_screened 4 = .ok (.iconst 4, 1) := by decide +kernel
theorem dX7_screened_5 : decode cX7_screened 5 = .ok (.iaload, 1) := by decide +kernel
theorem dX7_screened_6 : decode cX7_screened 6 = .ok (.aload_n 0, 1) := by decide +kernel
theorem dX7_screened_7 : decode cX7_screened 7 = .ok (.getfield 9, 3) := by decide +kernel
theorem dX7_screened_10 : decode cX7_screened 10 = .ok (.sipush 604, 3) := by decide +kernel
theorem dX7_screened_13 : decode cX7_screened 13 = .ok (.iload_n 2, 1) := by decide +kernel
theorem dX7_screened_14 : decode cX7_screened 14 = .ok (.iadd, 1) := by decide +kernel
theorem dX7_screened_15 : decode cX7_screened 15 = .ok (.iaload, 1) := by decide +kernel
theorem dX7_screened_16 : decode cX7_screened 16 = .ok (.aload_n 0, 1) := by decide +kernel
theorem dX7_screened_17 : decode cX7_screened 17 = .ok (.getfield 9, 3) := by decide +kernel
theorem dX7_screened_20 : decode cX7_screened 20 = .ok (.bipush 20, 2) := by decide +kernel
theorem dX7_screened_22 : decode cX7_screened 22 = .ok (.iload_n 1, 1) := by decide +kernel
theorem dX7_screened_23 : decode cX7_screened 23 = .ok (.iadd, 1) := by decide +kernel
theorem dX7_screened_24 : decode cX7_screened 24 = .ok (.iaload, 1) := by decide +kernel
theorem dX7_screened_25 : decode cX7_screened 25 = .ok (.iadd, 1) := by decide +kernel
theorem dX7_screened_26 : decode cX7_screened 26 = .ok (.if_icmp .ge 5, 3) := by decide +kernel
theorem dX7_screened_29 : decode cX7_screened 29 = .ok (.iconst (-1), 1) := by decide +kernel
theorem dX7_screened_30 : decode cX7_screened 30 = .ok (.ireturn, 1) := by decide +kernel
theorem dX7_screened_31 : decode cX7_screened 31 = .ok (.aload_n 0, 1) := by decide +kernel
theorem dX7_screened_32 : decode cX7_screened 32 = .ok (.iload_n 1, 1) := by decide +kernel
theorem dX7_screened_33 : decode cX7_screened 33 = .ok (.iconst 1, 1) := by decide +kernel
theorem dX7_screened_34 : decode cX7_screened 34 = .ok (.invokevirtual 78, 3) := by decide +kernel
theorem dX7_screened_37 : decode cX7_screened 37 = .ok (.istore_n 3, 1) := by decide +kernel
theorem dX7_screened_38 : decode cX7_screened 38 = .ok (.aload_n 0, 1) := by decide +kernel
theorem dX7_screened_39 : decode cX7_screened 39 = .ok (.getfield 9, 3) := by decide +kernel
theorem dX7_screened_42 : decode cX7_screened 42 = .ok (.sipush 424, 3) := by decide +kernel
theorem dX7_screened_45 : decode cX7_screened 45 = .ok (.iload_n 2, 1) := by decide +kernel
theorem dX7_screened_46 : decode cX7_screened 46 = .ok (.iadd, 1) := by decide +kernel
theorem dX7_screened_47 : decode cX7_screened 47 = .ok (.iaload, 1) := by decide +kernel
theorem dX7_screened_48 : decode cX7_screened 48 = .ok (.iconst 1, 1) := by decide +kernel
theorem dX7_screened_49 : decode cX7_screened 49 = .ok (.if_icmp .ne 11, 3) := by decide +kernel
theorem dX7_screened_52 : decode cX7_screened 52 = .ok (.iload_n 3, 1) := by decide +kernel
theorem dX7_screened_53 : decode cX7_screened 53 = .ok (.ifCond .lt 7, 3) := by decide +kernel
theorem dX7_screened_56 : decode cX7_screened 56 = .ok (.iload_n 3, 1) := by decide +kernel
theorem dX7_screened_57 : decode cX7_screened 57 = .ok (.goto 9, 3) := by decide +kernel
theorem dX7_screened_60 : decode cX7_screened 60 = .ok (.aload_n 0, 1) := by decide +kernel
theorem dX7_screened_61 : decode cX7_screened 61 = .ok (.iload_n 1, 1) := by decide +kernel
theorem dX7_screened_62 : decode cX7_screened 62 = .ok (.iconst 0, 1) := by decide +kernel
theorem dX7_screened_63 : decode cX7_screened 63 = .ok (.invokevirtual 78, 3) := by decide +kernel
theorem dX7_screened_66 : decode cX7_screened 66 = .ok (.ireturn, 1) := by decide +kernel
theorem dX7_giveAt_0 : decode cX7_giveAt 0 = .ok (.aload_n 0, 1) := by decide +kernel
theorem dX7_giveAt_1 : decode cX7_giveAt 1 = .ok (.iload_n 1, 1) := by decide +kernel
theorem dX7_giveAt_2 : decode cX7_giveAt 2 = .ok (.invokevirtual 39, 3) := by decide +kernel
theorem dX7_giveAt_5 : decode cX7_giveAt 5 = .ok (.istore_n 2, 1) := by decide +kernel
theorem dX7_giveAt_6 : decode cX7_giveAt 6 = .ok (.iload_n 2, 1) := by decide +kernel
theorem dX7_giveAt_7 : decode cX7_giveAt 7 = .ok (.ifCond .ne 33, 3) := by decide +kernel
theorem dX7_giveAt_10 : decode cX7_giveAt 10 = .ok (.aload_n 0, 1) := by decide +kernel
theorem dX7_giveAt_11 : decode cX7_giveAt 11 = .ok (.iload_n 1, 1) := by decide +kernel
theorem dX7_giveAt_12 : decode cX7_giveAt 12 = .ok (.invokevirtual 81, 3) := by decide +kernel
theorem dX7_giveAt_15 : decode cX7_giveAt 15 = .ok (.istore_n 3, 1) := by decide +kernel
theorem dX7_giveAt_16 : decode cX7_giveAt 16 = .ok (.iload_n 3, 1) := by decide +kernel
theorem dX7_giveAt_17 : decode cX7_giveAt 17 = .ok (.ifCond .lt 22, 3) := by decide +kernel
theorem dX7_giveAt_20 : decode cX7_giveAt 20 = .ok (.aload_n 0, 1) := by decide +kernel
theorem dX7_giveAt_21 : decode cX7_giveAt 21 = .ok (.iload_n 3, 1) := by decide +kernel
theorem dX7_giveAt_22 : decode cX7_giveAt 22 = .ok (.aload_n 0, 1) := by decide +kernel
theorem dX7_giveAt_23 : decode cX7_giveAt 23 = .ok (.iload_n 1, 1) := by decide +kernel
theorem dX7_giveAt_24 : decode cX7_giveAt 24 = .ok (.invokevirtual 84, 3) := by decide +kernel
theorem dX7_giveAt_27 : decode cX7_giveAt 27 = .ok (.invokevirtual 87, 3) := by decide +kernel
theorem dX7_giveAt_30 : decode cX7_giveAt 30 = .ok (.ifCond .eq 9, 3) := by decide +kernel
theorem dX7_giveAt_33 : decode cX7_giveAt 33 = .ok (.aload_n 0, 1) := by decide +kernel
theorem dX7_giveAt_34 : decode cX7_giveAt 34 = .ok (.iload_n 3, 1) := by decide +kernel
theorem dX7_giveAt_35 : decode cX7_giveAt 35 = .ok (.iload_n 1, 1) := by decide +kernel
theorem dX7_giveAt_36 : decode cX7_giveAt 36 = .ok (.invokevirtual 91, 3) := by decide +kernel
theorem dX7_giveAt_39 : decode cX7_giveAt 39 = .ok (.return_, 1) := by decide +kernel
theorem dX7_giveAt_40 : decode cX7_giveAt 40 = .ok (.iload_n 2, 1) := by decide +kernel
theorem dX7_giveAt_41 : decode cX7_giveAt 41 = .ok (.iconst 4, 1) := by decide +kernel
theorem dX7_giveAt_42 : decode cX7_giveAt 42 = .ok (.if_icmp .ne 34, 3) := by decide +kernel
theorem dX7_giveAt_45 : decode cX7_giveAt 45 = .ok (.aload_n 0, 1) := by decide +kernel
theorem dX7_giveAt_46 : decode cX7_giveAt 46 = .ok (.iload_n 1, 1) := by decide +kernel
theorem dX7_giveAt_47 : decode cX7_giveAt 47 = .ok (.invokevirtual 94, 3) := by decide +kernel
theorem dX7_giveAt_50 : decode cX7_giveAt 50 = .ok (.istore_n 3, 1) := by decide +kernel
theorem dX7_giveAt_51 : decode cX7_giveAt 51 = .ok (.iload_n 3, 1) := by decide +kernel
theorem dX7_giveAt_52 : decode cX7_giveAt 52 = .ok (.ifCond .lt 20, 3) := by decide +kernel
theorem dX7_giveAt_55 : decode cX7_giveAt 55 = .ok (.aload_n 0, 1) := by decide +kernel
theorem dX7_giveAt_56 : decode cX7_giveAt 56 = .ok (.iload_n 3, 1) := by decide +kernel
theorem dX7_giveAt_57 : decode cX7_giveAt 57 = .ok (.aload_n 0, 1) := by decide +kernel
theorem dX7_giveAt_58 : decode cX7_giveAt 58 = .ok (.iload_n 1, 1) := by decide +kernel
theorem dX7_giveAt_59 : decode cX7_giveAt 59 = .ok (.invokevirtual 84, 3) := by decide +kernel
theorem dX7_giveAt_62 : decode cX7_giveAt 62 = .ok (.invokevirtual 87, 3) := by decide +kernel
theorem dX7_giveAt_65 : decode cX7_giveAt 65 = .ok (.ifCond .eq 7, 3) := by decide +kernel
theorem dX7_giveAt_68 : decode cX7_giveAt 68 = .ok (.iconst 1, 1) := by decide +kernel
theorem dX7_giveAt_69 : decode cX7_giveAt 69 = .ok (.goto 4, 3) := by decide +kernel
theorem dX7_giveAt_72 : decode cX7_giveAt 72 = .ok (.iconst 0, 1) := by decide +kernel
theorem dX7_giveAt_73 : decode cX7_giveAt 73 = .ok (.istore 4, 2) := by decide +kernel
theorem dX7_giveAt_75 : decode cX7_giveAt 75 = .ok (.return_, 1) := by decide +kernel
theorem dX7_giveAt_76 : decode cX7_giveAt 76 = .ok (.aload_n 0, 1) := by decide +kernel
theorem dX7_giveAt_77 : decode cX7_giveAt 77 = .ok (.getfield 9, 3) := by decide +kernel
theorem dX7_giveAt_80 : decode cX7_giveAt 80 = .ok (.bipush 32, 2) := by decide +kernel
theorem dX7_giveAt_82 : decode cX7_giveAt 82 = .ok (.iload_n 1, 1) := by decide +kernel
theorem dX7_giveAt_83 : decode cX7_giveAt 83 = .ok (.iadd, 1) := by decide +kernel
theorem dX7_giveAt_84 : decode cX7_giveAt 84 = .ok (.iaload, 1) := by decide +kernel
theorem dX7_giveAt_85 : decode cX7_giveAt 85 = .ok (.iconst 1, 1) := by decide +kernel
theorem dX7_giveAt_86 : decode cX7_giveAt 86 = .ok (.isub, 1) := by decide +kernel
theorem dX7_giveAt_87 : decode cX7_giveAt 87 = .ok (.istore_n 3, 1) := by decide +kernel
theorem dX7_giveAt_88 : decode cX7_giveAt 88 = .ok (.iload_n 2, 1) := by decide +kernel
theorem dX7_giveAt_89 : decode cX7_giveAt 89 = .ok (.iconst 5, 1) := by decide +kernel
theorem dX7_giveAt_90 : decode cX7_giveAt 90 = .ok (.if_icmp .eq 7, 3) := by decide +kernel
theorem dX7_giveAt_93 : decode cX7_giveAt 93 = .ok (.iload_n 3, 1) := by decide +kernel
theorem dX7_giveAt_94 : decode cX7_giveAt 94 = .ok (.ifCond .ge 4, 3) := by decide +kernel
theorem dX7_giveAt_97 : decode cX7_giveAt 97 = .ok (.return_, 1) := by decide +kernel
theorem dX7_giveAt_98 : decode cX7_giveAt 98 = .ok (.iload_n 2, 1) := by decide +kernel
theorem dX7_giveAt_99 : decode cX7_giveAt 99 = .ok (.iconst 1, 1) := by decide +kernel
theorem dX7_giveAt_100 : decode cX7_giveAt 100 = .ok (.if_icmp .ne 11, 3) := by decide +kernel
theorem dX7_giveAt_103 : decode cX7_giveAt 103 = .ok (.aload_n 0, 1) := by decide +kernel
theorem dX7_giveAt_104 : decode cX7_giveAt 104 = .ok (.iload_n 1, 1) := by decide +kernel
theorem dX7_giveAt_105 : decode cX7_giveAt 105 = .ok (.invokevirtual 84, 3) := by decide +kernel
theorem dX7_giveAt_108 : decode cX7_giveAt 108 = .ok (.goto 32, 3) := by decide +kernel
theorem dX7_giveAt_111 : decode cX7_giveAt 111 = .ok (.iload_n 2, 1) := by decide +kernel
theorem dX7_giveAt_112 : decode cX7_giveAt 112 = .ok (.iconst 2, 1) := by decide +kernel
theorem dX7_giveAt_113 : decode cX7_giveAt 113 = .ok (.if_icmp .ne 12, 3) := by decide +kernel
theorem dX7_giveAt_116 : decode cX7_giveAt 116 = .ok (.aload_n 0, 1) := by decide +kernel
theorem dX7_giveAt_117 : decode cX7_giveAt 117 = .ok (.iload_n 1, 1) := by decide +kernel
theorem dX7_giveAt_118 : decode cX7_giveAt 118 = .ok (.iload_n 3, 1) := by decide +kernel
theorem dX7_giveAt_119 : decode cX7_giveAt 119 = .ok (.invokevirtual 97, 3) := by decide +kernel
theorem dX7_giveAt_122 : decode cX7_giveAt 122 = .ok (.goto 18, 3) := by decide +kernel
theorem dX7_giveAt_125 : decode cX7_giveAt 125 = .ok (.aload_n 0, 1) := by decide +kernel
theorem dX7_giveAt_126 : decode cX7_giveAt 126 = .ok (.iload_n 1, 1) := by decide +kernel
theorem dX7_giveAt_127 : decode cX7_giveAt 127 = .ok (.aload_n 0, 1) := by decide +kernel
theorem dX7_giveAt_128 : decode cX7_giveAt 128 = .ok (.getfield 9, 3) := by decide +kernel
theorem dX7_giveAt_131 : decode cX7_giveAt 131 = .ok (.sipush 364, 3) := by decide +kernel
theorem dX7_giveAt_134 : decode cX7_giveAt 134 = .ok (.iload_n 3, 1) := by decide +kernel
theorem dX7_giveAt_135 : decode cX7_giveAt 135 = .ok (.iadd, 1) := by decide +kernel
theorem dX7_giveAt_136 : decode cX7_giveAt 136 = .ok (.iaload, 1) := by decide +kernel
theorem dX7_giveAt_137 : decode cX7_giveAt 137 = .ok (.invokevirtual 72, 3) := by decide +kernel
theorem dX7_giveAt_140 : decode cX7_giveAt 140 = .ok (.istore 4, 2) := by decide +kernel
theorem dX7_giveAt_142 : decode cX7_giveAt 142 = .ok (.aload_n 0, 1) := by decide +kernel
theorem dX7_giveAt_143 : decode cX7_giveAt 143 = .ok (.iload_n 3, 1) := by decide +kernel
theorem dX7_giveAt_144 : decode cX7_giveAt 144 = .ok (.iload 4, 2) := by decide +kernel
theorem dX7_giveAt_146 : decode cX7_giveAt 146 = .ok (.invokevirtual 87, 3) := by decide +kernel
theorem dX7_giveAt_149 : decode cX7_giveAt 149 = .ok (.ifCond .eq 13, 3) := by decide +kernel
theorem dX7_giveAt_152 : decode cX7_giveAt 152 = .ok (.aload_n 0, 1) := by decide +kernel
theorem dX7_giveAt_153 : decode cX7_giveAt 153 = .ok (.getfield 9, 3) := by decide +kernel
theorem dX7_giveAt_156 : decode cX7_giveAt 156 = .ok (.bipush 32, 2) := by decide +kernel
theorem dX7_giveAt_158 : decode cX7_giveAt 158 = .ok (.iload_n 1, 1) := by decide +kernel
theorem dX7_giveAt_159 : decode cX7_giveAt 159 = .ok (.iadd, 1) := by decide +kernel
theorem dX7_giveAt_160 : decode cX7_giveAt 160 = .ok (.iconst 0, 1) := by decide +kernel
theorem dX7_giveAt_161 : decode cX7_giveAt 161 = .ok (.iastore, 1) := by decide +kernel
theorem dX7_giveAt_162 : decode cX7_giveAt 162 = .ok (.return_, 1) := by decide +kernel
theorem dX7_move_0 : decode cX7_move 0 = .ok (.aload_n 0, 1) := by decide +kernel
theorem dX7_move_1 : decode cX7_move 1 = .ok (.getfield 9, 3) := by decide +kernel
theorem dX7_move_4 : decode cX7_move 4 = .ok (.bipush 116, 2) := by decide +kernel
theorem dX7_move_6 : decode cX7_move 6 = .ok (.iload_n 1, 1) := by decide +kernel
theorem dX7_move_7 : decode cX7_move 7 = .ok (.iadd, 1) := by decide +kernel
theorem dX7_move_8 : decode cX7_move 8 = .ok (.iaload, 1) := by decide +kernel
theorem dX7_move_9 : decode cX7_move 9 = .ok (.iconst 1, 1) := by decide +kernel
theorem dX7_move_10 : decode cX7_move 10 = .ok (.if_icmp .ne 4, 3) := by decide +kernel
theorem dX7_move_13 : decode cX7_move 13 = .ok (.return_, 1) := by decide +kernel
theorem dX7_move_14 : decode cX7_move 14 = .ok (.aload_n 0, 1) := by decide +kernel
theorem dX7_move_15 : decode cX7_move 15 = .ok (.getfield 9, 3) := by decide +kernel
theorem dX7_move_18 : decode cX7_move 18 = .ok (.bipush 100, 2) := by decide +kernel
theorem dX7_move_20 : decode cX7_move 20 = .ok (.iload_n 1, 1) := by decide +kernel
theorem dX7_move_21 : decode cX7_move 21 = .ok (.iadd, 1) := by decide +kernel
theorem dX7_move_22 : decode cX7_move 22 = .ok (.iaload, 1) := by decide +kernel
theorem dX7_move_23 : decode cX7_move 23 = .ok (.iconst 2, 1) := by decide +kernel
theorem dX7_move_24 : decode cX7_move 24 = .ok (.isub, 1) := by decide +kernel
theorem dX7_move_25 : decode cX7_move 25 = .ok (.istore_n 2, 1) := by decide +kernel
theorem dX7_move_26 : decode cX7_move 26 = .ok (.iload_n 2, 1) := by decide +kernel
theorem dX7_move_27 : decode cX7_move 27 = .ok (.ifCond .lt 92, 3) := by decide +kernel
theorem dX7_move_30 : decode cX7_move 30 = .ok (.sipush 148, 3) := by decide +kernel
theorem dX7_move_33 : decode cX7_move 33 = .ok (.bipush 12, 2) := by decide +kernel
theorem dX7_move_35 : decode cX7_move 35 = .ok (.iload_n 1, 1) := by decide +kernel
theorem dX7_move_36 : decode cX7_move 36 = .ok (.imul, 1) := by decide +kernel
theorem dX7_move_37 : decode cX7_move 37 = .ok (.iadd, 1) := by decide +kernel
theorem dX7_move_38 : decode cX7_move 38 = .ok (.iload_n 2, 1) := by decide +kernel
theorem dX7_move_39 : decode cX7_move 39 = .ok (.iadd, 1) := by decide +kernel
theorem dX7_move_40 : decode cX7_move 40 = .ok (.istore_n 3, 1) := by decide +kernel
theorem dX7_move_41 : decode cX7_move 41 = .ok (.aload_n 0, 1) := by decide +kernel
theorem dX7_move_42 : decode cX7_move 42 = .ok (.getfield 9, 3) := by decide +kernel
theorem dX7_move_45 : decode cX7_move 45 = .ok (.iload_n 3, 1) := by decide +kernel
theorem dX7_move_46 : decode cX7_move 46 = .ok (.iaload, 1) := by decide +kernel
theorem dX7_move_47 : decode cX7_move 47 = .ok (.iconst 1, 1) := by decide +kernel
theorem dX7_move_48 : decode cX7_move 48 = .ok (.isub, 1) := by decide +kernel
theorem dX7_move_49 : decode cX7_move 49 = .ok (.istore 4, 2) := by decide +kernel
theorem dX7_move_51 : decode cX7_move 51 = .ok (.iload 4, 2) := by decide +kernel
theorem dX7_move_53 : decode cX7_move 53 = .ok (.ifCond .lt 60, 3) := by decide +kernel
theorem dX7_move_56 : decode cX7_move 56 = .ok (.aload_n 0, 1) := by decide +kernel
theorem dX7_move_57 : decode cX7_move 57 = .ok (.getfield 16, 3) := by decide +kernel
theorem dX7_move_60 : decode cX7_move 60 = .ok (.iload 4, 2) := by decide +kernel
theorem dX7_move_62 : decode cX7_move 62 = .ok (.baload, 1) := by decide +kernel
theorem dX7_move_63 : decode cX7_move 63 = .ok (.ifCond .ne 50, 3) := by decide +kernel
theorem dX7_move_66 : decode cX7_move 66 = .ok (.aload_n 0, 1) := by decide +kernel
theorem dX7_move_67 : decode cX7_move 67 = .ok (.getfield 9, 3) := by decide +kernel
theorem dX7_move_70 : decode cX7_move 70 = .ok (.iload_n 3, 1) := by decide +kernel
theorem dX7_move_71 : decode cX7_move 71 = .ok (.iconst 1, 1) := by decide +kernel
theorem dX7_move_72 : decode cX7_move 72 = .ok (.iadd, 1) := by decide +kernel
theorem dX7_move_73 : decode cX7_move 73 = .ok (.iaload, 1) := by decide +kernel
theorem dX7_move_74 : decode cX7_move 74 = .ok (.ifCond .eq 6, 3) := by decide +kernel
theorem dX7_move_77 : decode cX7_move 77 = .ok (.goto 36, 3) := by decide +kernel
theorem dX7_move_80 : decode cX7_move 80 = .ok (.aload_n 0, 1) := by decide +kernel
theorem dX7_move_81 : decode cX7_move 81 = .ok (.getfield 9, 3) := by decide +kernel
theorem dX7_move_84 : decode cX7_move 84 = .ok (.iload_n 3, 1) := by decide +kernel
theorem dX7_move_85 : decode cX7_move 85 = .ok (.iconst 1, 1) := by decide +kernel
theorem dX7_move_86 : decode cX7_move 86 = .ok (.iadd, 1) := by decide +kernel
theorem dX7_move_87 : decode cX7_move 87 = .ok (.iload 4, 2) := by decide +kernel
theorem dX7_move_89 : decode cX7_move 89 = .ok (.iconst 1, 1) := by decide +kernel
theorem dX7_move_90 : decode cX7_move 90 = .ok (.iadd, 1) := by decide +kernel
theorem dX7_move_91 : decode cX7_move 91 = .ok (.iastore, 1) := by decide +kernel
theorem dX7_move_92 : decode cX7_move 92 = .ok (.aload_n 0, 1) := by decide +kernel
theorem dX7_move_93 : decode cX7_move 93 = .ok (.getfield 9, 3) := by decide +kernel
theorem dX7_move_96 : decode cX7_move 96 = .ok (.iload_n 3, 1) := by decide +kernel
theorem dX7_move_97 : decode cX7_move 97 = .ok (.iconst 0, 1) := by decide +kernel
theorem dX7_move_98 : decode cX7_move 98 = .ok (.iastore, 1) := by decide +kernel
theorem dX7_move_99 : decode cX7_move 99 = .ok (.aload_n 0, 1) := by decide +kernel
theorem dX7_move_100 : decode cX7_move 100 = .ok (.getfield 9, 3) := by decide +kernel
theorem dX7_move_103 : decode cX7_move 103 = .ok (.sipush 604, 3) := by decide +kernel
theorem dX7_move_106 : decode cX7_move 106 = .ok (.iload 4, 2) := by decide +kernel
theorem dX7_move_108 : decode cX7_move 108 = .ok (.iadd, 1) := by decide +kernel
theorem dX7_move_109 : decode cX7_move 109 = .ok (.iload_n 2, 1) := by decide +kernel
theorem dX7_move_110 : decode cX7_move 110 = .ok (.iconst 1, 1) := by decide +kernel
theorem dX7_move_111 : decode cX7_move 111 = .ok (.iadd, 1) := by decide +kernel
theorem dX7_move_112 : decode cX7_move 112 = .ok (.iastore, 1) := by decide +kernel
theorem dX7_move_113 : decode cX7_move 113 = .ok (.iinc 2 (-1), 3) := by decide +kernel
theorem dX7_move_116 : decode cX7_move 116 = .ok (.goto (-90), 3) := by decide +kernel
theorem dX7_move_119 : decode cX7_move 119 = .ok (.return_, 1) := by decide +kernel
theorem dX7_ready_0 : decode cX7_ready 0 = .ok (.aload_n 0, 1) := by decide +kernel
theorem dX7_ready_1 : decode cX7_ready 1 = .ok (.getfield 9, 3) := by decide +kernel
theorem dX7_ready_4 : decode cX7_ready 4 = .ok (.bipush 116, 2) := by decide +kernel
theorem dX7_ready_6 : decode cX7_ready 6 = .ok (.iload_n 1, 1) := by decide +kernel
theorem dX7_ready_7 : decode cX7_ready 7 = .ok (.iadd, 1) := by decide +kernel
theorem dX7_ready_8 : decode cX7_ready 8 = .ok (.iaload, 1) := by decide +kernel
theorem dX7_ready_9 : decode cX7_ready 9 = .ok (.iconst 1, 1) := by decide +kernel
theorem dX7_ready_10 : decode cX7_ready 10 = .ok (.if_icmp .ne 5, 3) := by decide +kernel
theorem dX7_ready_13 : decode cX7_ready 13 = .ok (.iconst (-1), 1) := by decide +kernel
theorem dX7_ready_14 : decode cX7_ready 14 = .ok (.ireturn, 1) := by decide +kernel
theorem dX7_ready_15 : decode cX7_ready 15 = .ok (.aload_n 0, 1) := by decide +kernel
theorem dX7_ready_16 : decode cX7_ready 16 = .ok (.getfield 9, 3) := by decide +kernel
theorem dX7_ready_19 : decode cX7_ready 19 = .ok (.sipush 148, 3) := by decide +kernel
theorem dX7_ready_22 : decode cX7_ready 22 = .ok (.bipush 12, 2) := by decide +kernel
theorem dX7_ready_24 : decode cX7_ready 24 = .ok (.iload_n 1, 1) := by decide +kernel
theorem dX7_ready_25 : decode cX7_ready 25 = .ok (.imul, 1) := by decide +kernel
theorem dX7_ready_26 : decode cX7_ready 26 = .ok (.iadd, 1) := by decide +kernel
theorem dX7_ready_27 : decode cX7_ready 27 = .ok (.aload_n 0, 1) := by decide +kernel
theorem dX7_ready_28 : decode cX7_ready 28 = .ok (.getfield 9, 3) := by decide +kernel
theorem dX7_ready_31 : decode cX7_ready 31 = .ok (.bipush 100, 2) := by decide +kernel
theorem dX7_ready_33 : decode cX7_ready 33 = .ok (.iload_n 1, 1) := by decide +kernel
theorem dX7_ready_34 : decode cX7_ready 34 = .ok (.iadd, 1) := by decide +kernel
theorem dX7_ready_35 : decode cX7_ready 35 = .ok (.iaload, 1) := by decide +kernel
theorem dX7_ready_36 : decode cX7_ready 36 = .ok (.iadd, 1) := by decide +kernel
theorem dX7_ready_37 : decode cX7_ready 37 = .ok (.iconst 1, 1) := by decide +kernel
theorem dX7_ready_38 : decode cX7_ready 38 = .ok (.isub, 1) := by decide +kernel
theorem dX7_ready_39 : decode cX7_ready 39 = .ok (.iaload, 1) := by decide +kernel
theorem dX7_ready_40 : decode cX7_ready 40 = .ok (.iconst 1, 1) := by decide +kernel
theorem dX7_ready_41 : decode cX7_ready 41 = .ok (.isub, 1) := by decide +kernel
theorem dX7_ready_42 : decode cX7_ready 42 = .ok (.istore_n 2, 1) := by decide +kernel
theorem dX7_ready_43 : decode cX7_ready 43 = .ok (.iload_n 2, 1) := by decide +kernel
theorem dX7_ready_44 : decode cX7_ready 44 = .ok (.ifCond .lt 12, 3) := by decide +kernel
theorem dX7_ready_47 : decode cX7_ready 47 = .ok (.aload_n 0, 1) := by decide +kernel
theorem dX7_ready_48 : decode cX7_ready 48 = .ok (.getfield 16, 3) := by decide +kernel
theorem dX7_ready_51 : decode cX7_ready 51 = .ok (.iload_n 2, 1) := by decide +kernel
theorem dX7_ready_52 : decode cX7_ready 52 = .ok (.baload, 1) := by decide +kernel
theorem dX7_ready_53 : decode cX7_ready 53 = .ok (.ifCond .eq 7, 3) := by decide +kernel
theorem dX7_ready_56 : decode cX7_ready 56 = .ok (.iconst (-1), 1) := by decide +kernel
theorem dX7_ready_57 : decode cX7_ready 57 = .ok (.goto 4, 3) := by decide +kernel
theorem dX7_ready_60 : decode cX7_ready 60 = .ok (.iload_n 2, 1) := by decide +kernel
theorem dX7_ready_61 : decode cX7_ready 61 = .ok (.ireturn, 1) := by decide +kernel
theorem dX7_takeFrom_0 : decode cX7_takeFrom 0 = .ok (.aload_n 0, 1) := by decide +kernel
theorem dX7_takeFrom_1 : decode cX7_takeFrom 1 = .ok (.iload_n 1, 1) := by decide +kernel
theorem dX7_takeFrom_2 : decode cX7_takeFrom 2 = .ok (.invokevirtual 100, 3) := by decide +kernel
theorem dX7_takeFrom_5 : decode cX7_takeFrom 5 = .ok (.istore 4, 2) := by decide +kernel
theorem dX7_takeFrom_7 : decode cX7_takeFrom 7 = .ok (.aload_n 0, 1) := by decide +kernel
theorem dX7_takeFrom_8 : decode cX7_takeFrom 8 = .ok (.getfield 9, 3) := by decide +kernel
theorem dX7_takeFrom_11 : decode cX7_takeFrom 11 = .ok (.sipush 148, 3) := by decide +kernel
theorem dX7_takeFrom_14 : decode cX7_takeFrom 14 = .ok (.bipush 12, 2) := by decide +kernel
theorem dX7_takeFrom_16 : decode cX7_takeFrom 16 = .ok (.iload_n 1, 1) := by decide +kernel
theorem dX7_takeFrom_17 : decode cX7_takeFrom 17 = .ok (.imul, 1) := by decide +kernel
theorem dX7_takeFrom_18 : decode cX7_takeFrom 18 = .ok (.iadd, 1) := by decide +kernel
theorem dX7_takeFrom_19 : decode cX7_takeFrom 19 = .ok (.aload_n 0, 1) := by decide +kernel
theorem dX7_takeFrom_20 : decode cX7_takeFrom 20 = .ok (.getfield 9, 3) := by decide +kernel
theorem dX7_takeFrom_23 : decode cX7_takeFrom 23 = .ok (.bipush 100, 2) := by decide +kernel
theorem dX7_takeFrom_25 : decode cX7_takeFrom 25 = .ok (.iload_n 1, 1) := by decide +kernel
theorem dX7_takeFrom_26 : decode cX7_takeFrom 26 = .ok (.iadd, 1) := by decide +kernel
theorem dX7_takeFrom_27 : decode cX7_takeFrom 27 = .ok (.iaload, 1) := by decide +kernel
theorem dX7_takeFrom_28 : decode cX7_takeFrom 28 = .ok (.iadd, 1) := by decide +kernel
theorem dX7_takeFrom_29 : decode cX7_takeFrom 29 = .ok (.iconst 1, 1) := by decide +kernel
theorem dX7_takeFrom_30 : decode cX7_takeFrom 30 = .ok (.isub, 1) := by decide +kernel
theorem dX7_takeFrom_31 : decode cX7_takeFrom 31 = .ok (.iconst 0, 1) := by decide +kernel
theorem dX7_takeFrom_32 : decode cX7_takeFrom 32 = .ok (.iastore, 1) := by decide +kernel
theorem dX7_takeFrom_33 : decode cX7_takeFrom 33 = .ok (.aload_n 0, 1) := by decide +kernel
theorem dX7_takeFrom_34 : decode cX7_takeFrom 34 = .ok (.iload 4, 2) := by decide +kernel
theorem dX7_takeFrom_36 : decode cX7_takeFrom 36 = .ok (.iload_n 3, 1) := by decide +kernel
theorem dX7_takeFrom_37 : decode cX7_takeFrom 37 = .ok (.iload_n 2, 1) := by decide +kernel
theorem dX7_takeFrom_38 : decode cX7_takeFrom 38 = .ok (.aload_n 0, 1) := by decide +kernel
theorem dX7_takeFrom_39 : decode cX7_takeFrom 39 = .ok (.getfield 9, 3) := by decide +kernel
theorem dX7_takeFrom_42 : decode cX7_takeFrom 42 = .ok (.iconst 4, 1) := by decide +kernel
theorem dX7_takeFrom_43 : decode cX7_takeFrom 43 = .ok (.iaload, 1) := by decide +kernel
theorem dX7_takeFrom_44 : decode cX7_takeFrom 44 = .ok (.invokevirtual 45, 3) := by decide +kernel
theorem dX7_takeFrom_47 : decode cX7_takeFrom 47 = .ok (.iload_n 3, 1) := by decide +kernel
theorem dX7_takeFrom_48 : decode cX7_takeFrom 48 = .ok (.iconst 2, 1) := by decide +kernel
theorem dX7_takeFrom_49 : decode cX7_takeFrom 49 = .ok (.if_icmp .ne 16, 3) := by decide +kernel
theorem dX7_takeFrom_52 : decode cX7_takeFrom 52 = .ok (.aload_n 0, 1) := by decide +kernel
theorem dX7_takeFrom_53 : decode cX7_takeFrom 53 = .ok (.getfield 9, 3) := by decide +kernel
theorem dX7_takeFrom_56 : decode cX7_takeFrom 56 = .ok (.bipush 32, 2) := by decide +kernel
theorem dX7_takeFrom_58 : decode cX7_takeFrom 58 = .ok (.iload_n 2, 1) := by decide +kernel
theorem dX7_takeFrom_59 : decode cX7_takeFrom 59 = .ok (.iadd, 1) := by decide +kernel
theorem dX7_takeFrom_60 : decode cX7_takeFrom 60 = .ok (.iload 4, 2) := by decide +kernel
theorem dX7_takeFrom_62 : decode cX7_takeFrom 62 = .ok (.iconst 1, 1) := by decide +kernel
theorem dX7_takeFrom_63 : decode cX7_takeFrom 63 = .ok (.iadd, 1) := by decide +kernel
theorem dX7_takeFrom_64 : decode cX7_takeFrom 64 = .ok (.iastore, 1) := by decide +kernel
theorem dX7_takeFrom_65 : decode cX7_takeFrom 65 = .ok (.aload_n 0, 1) := by decide +kernel
theorem dX7_takeFrom_66 : decode cX7_takeFrom 66 = .ok (.iload 4, 2) := by decide +kernel
theorem dX7_takeFrom_68 : decode cX7_takeFrom 68 = .ok (.iload_n 2, 1) := by decide +kernel
theorem dX7_takeFrom_69 : decode cX7_takeFrom 69 = .ok (.invokevirtual 91, 3) := by decide +kernel
theorem dX7_takeFrom_72 : decode cX7_takeFrom 72 = .ok (.return_, 1) := by decide +kernel
theorem dX7_readyInlet_0 : decode cX7_readyInlet 0 = .ok (.iconst 0, 1) := by decide +kernel
theorem dX7_readyInlet_1 : decode cX7_readyInlet 1 = .ok (.istore_n 2, 1) := by decide +kernel
theorem dX7_readyInlet_2 : decode cX7_readyInlet 2 = .ok (.iload_n 2, 1) := by decide +kernel
theorem dX7_readyInlet_3 : decode cX7_readyInlet 3 = .ok (.aload_n 0, 1) := by decide +kernel
theorem dX7_readyInlet_4 : decode cX7_readyInlet 4 = .ok (.getfield 9, 3) := by decide +kernel
theorem dX7_readyInlet_7 : decode cX7_readyInlet 7 = .ok (.iconst 1, 1) := by decide +kernel
theorem dX7_readyInlet_8 : decode cX7_readyInlet 8 = .ok (.iaload, 1) := by decide +kernel
theorem dX7_readyInlet_9 : decode cX7_readyInlet 9 = .ok (.if_icmp .ge 32, 3) := by decide +kernel
theorem dX7_readyInlet_12 : decode cX7_readyInlet 12 = .ok (.aload_n 0, 1) := by decide +kernel
theorem dX7_readyInlet_13 : decode cX7_readyInlet 13 = .ok (.getfield 9, 3) := by decide +kernel
theorem dX7_readyInlet_16 : decode cX7_readyInlet 16 = .ok (.bipush 84, 2) := by decide +kernel
theorem dX7_readyInlet_18 : decode cX7_readyInlet 18 = .ok (.iload_n 2, 1) := by decide +kernel
theorem dX7_readyInlet_19 : decode cX7_readyInlet 19 = .ok (.iadd, 1) := by decide +kernel
theorem dX7_readyInlet_20 : decode cX7_readyInlet 20 = .ok (.iaload, 1) := by decide +kernel
theorem dX7_readyInlet_21 : decode cX7_readyInlet 21 = .ok (.iload_n 1, 1) := by decide +kernel
theorem dX7_readyInlet_22 : decode cX7_readyInlet 22 = .ok (.if_icmp .ne 13, 3) := by decide +kernel
theorem dX7_readyInlet_25 : decode cX7_readyInlet 25 = .ok (.aload_n 0, 1) := by decide +kernel
theorem dX7_readyInlet_26 : decode cX7_readyInlet 26 = .ok (.iload_n 2, 1) := by decide +kernel
theorem dX7_readyInlet_27 : decode cX7_readyInlet 27 = .ok (.invokevirtual 100, 3) := by decide +kernel
theorem dX7_readyInlet_30 : decode cX7_readyInlet 30 = .ok (.ifCond .lt 5, 3) := by decide +kernel
theorem dX7_readyInlet_33 : decode cX7_readyInlet 33 = .ok (.iload_n 2, 1) := by decide +kernel
theorem dX7_readyInlet_34 : decode cX7_readyInlet 34 = .ok (.ireturn, 1) := by decide +kernel
theorem dX7_readyInlet_35 : decode cX7_readyInlet 35 = .ok (.iinc 2 1, 3) := by decide +kernel
theorem dX7_readyInlet_38 : decode cX7_readyInlet 38 = .ok (.goto (-36), 3) := by decide +kernel
theorem dX7_readyInlet_41 : decode cX7_readyInlet 41 = .ok (.iconst (-1), 1) := by decide +kernel
theorem dX7_readyInlet_42 : decode cX7_readyInlet 42 = .ok (.ireturn, 1) := by decide +kernel
theorem dX7_nextInlet_0 : decode cX7_nextInlet 0 = .ok (.iconst (-1), 1) := by decide +kernel
theorem dX7_nextInlet_1 : decode cX7_nextInlet 1 = .ok (.istore_n 3, 1) := by decide +kernel
theorem dX7_nextInlet_2 : decode cX7_nextInlet 2 = .ok (.aload_n 0, 1) := by decide +kernel
theorem dX7_nextInlet_3 : decode cX7_nextInlet 3 = .ok (.getfield 9, 3) := by decide +kernel
theorem dX7_nextInlet_6 : decode cX7_nextInlet 6 = .ok (.iconst 1, 1) := by decide +kernel
theorem dX7_nextInlet_7 : decode cX7_nextInlet 7 = .ok (.iaload, 1) := by decide +kernel
theorem dX7_nextInlet_8 : decode cX7_nextInlet 8 = .ok (.iconst 1, 1) := by decide +kernel
theorem dX7_nextInlet_9 : decode cX7_nextInlet 9 = .ok (.isub, 1) := by decide +kernel
theorem dX7_nextInlet_10 : decode cX7_nextInlet 10 = .ok (.istore 4, 2) := by decide +kernel
theorem dX7_nextInlet_12 : decode cX7_nextInlet 12 = .ok (.iload 4, 2) := by decide +kernel
theorem dX7_nextInlet_14 : decode cX7_nextInlet 14 = .ok (.ifCond .lt 30, 3) := by decide +kernel
theorem dX7_nextInlet_17 : decode cX7_nextInlet 17 = .ok (.aload_n 0, 1) := by decide +kernel
theorem dX7_nextInlet_18 : decode cX7_nextInlet 18 = .ok (.getfield 9, 3) := by decide +kernel
theorem dX7_nextInlet_21 : decode cX7_nextInlet 21 = .ok (.bipush 84, 2) := by decide +kernel
theorem dX7_nextInlet_23 : decode cX7_nextInlet 23 = .ok (.iload 4, 2) := by decide +kernel
theorem dX7_nextInlet_25 : decode cX7_nextInlet 25 = .ok (.iadd, 1) := by decide +kernel
theorem dX7_nextInlet_26 : decode cX7_nextInlet 26 = .ok (.iaload, 1) := by decide +kernel
theorem dX7_nextInlet_27 : decode cX7_nextInlet 27 = .ok (.iload_n 1, 1) := by decide +kernel
theorem dX7_nextInlet_28 : decode cX7_nextInlet 28 = .ok (.if_icmp .ne 8, 3) := by decide +kernel
theorem dX7_nextInlet_31 : decode cX7_nextInlet 31 = .ok (.iload 4, 2) := by decide +kernel
theorem dX7_nextInlet_33 : decode cX7_nextInlet 33 = .ok (.goto 4, 3) := by decide +kernel
theorem dX7_nextInlet_36 : decode cX7_nextInlet 36 = .ok (.iload_n 3, 1) := by decide +kernel
theorem dX7_nextInlet_37 : decode cX7_nextInlet 37 = .ok (.istore_n 3, 1) := by decide +kernel
theorem dX7_nextInlet_38 : decode cX7_nextInlet 38 = .ok (.iinc 4 (-1), 3) := by decide +kernel
theorem dX7_nextInlet_41 : decode cX7_nextInlet 41 = .ok (.goto (-29), 3) := by decide +kernel
theorem dX7_nextInlet_44 : decode cX7_nextInlet 44 = .ok (.iload_n 2, 1) := by decide +kernel
theorem dX7_nextInlet_45 : decode cX7_nextInlet 45 = .ok (.iconst 1, 1) := by decide +kernel
theorem dX7_nextInlet_46 : decode cX7_nextInlet 46 = .ok (.iadd, 1) := by decide +kernel
theorem dX7_nextInlet_47 : decode cX7_nextInlet 47 = .ok (.istore 4, 2) := by decide +kernel
theorem dX7_nextInlet_49 : decode cX7_nextInlet 49 = .ok (.iload 4, 2) := by decide +kernel
theorem dX7_nextInlet_51 : decode cX7_nextInlet 51 = .ok (.aload_n 0, 1) := by decide +kernel
theorem dX7_nextInlet_52 : decode cX7_nextInlet 52 = .ok (.getfield 9, 3) := by decide +kernel
theorem dX7_nextInlet_55 : decode cX7_nextInlet 55 = .ok (.iconst 1, 1) := by decide +kernel
theorem dX7_nextInlet_56 : decode cX7_nextInlet 56 = .ok (.iaload, 1) := by decide +kernel
theorem dX7_nextInlet_57 : decode cX7_nextInlet 57 = .ok (.if_icmp .ge 26, 3) := by decide +kernel
theorem dX7_nextInlet_60 : decode cX7_nextInlet 60 = .ok (.aload_n 0, 1) := by decide +kernel
theorem dX7_nextInlet_61 : decode cX7_nextInlet 61 = .ok (.getfield 9, 3) := by decide +kernel
theorem dX7_nextInlet_64 : decode cX7_nextInlet 64 = .ok (.bipush 84, 2) := by decide +kernel
theorem dX7_nextInlet_66 : decode cX7_nextInlet 66 = .ok (.iload 4, 2) := by decide +kernel
theorem dX7_nextInlet_68 : decode cX7_nextInlet 68 = .ok (.iadd, 1) := by decide +kernel
theorem dX7_nextInlet_69 : decode cX7_nextInlet 69 = .ok (.iaload, 1) := by decide +kernel
theorem dX7_nextInlet_70 : decode cX7_nextInlet 70 = .ok (.iload_n 1, 1) := by decide +kernel
theorem dX7_nextInlet_71 : decode cX7_nextInlet 71 = .ok (.if_icmp .ne 6, 3) := by decide +kernel
theorem dX7_nextInlet_74 : decode cX7_nextInlet 74 = .ok (.iload 4, 2) := by decide +kernel
theorem dX7_nextInlet_76 : decode cX7_nextInlet 76 = .ok (.ireturn, 1) := by decide +kernel
theorem dX7_nextInlet_77 : decode cX7_nextInlet 77 = .ok (.iinc 4 1, 3) := by decide +kernel
theorem dX7_nextInlet_80 : decode cX7_nextInlet 80 = .ok (.goto (-31), 3) := by decide +kernel
theorem dX7_nextInlet_83 : decode cX7_nextInlet 83 = .ok (.iload_n 3, 1) := by decide +kernel
theorem dX7_nextInlet_84 : decode cX7_nextInlet 84 = .ok (.ireturn, 1) := by decide +kernel
theorem dX7_inlets_0 : decode cX7_inlets 0 = .ok (.iconst 0, 1) := by decide +kernel
theorem dX7_inlets_1 : decode cX7_inlets 1 = .ok (.istore_n 2, 1) := by decide +kernel
theorem dX7_inlets_2 : decode cX7_inlets 2 = .ok (.iconst 0, 1) := by decide +kernel
theorem dX7_inlets_3 : decode cX7_inlets 3 = .ok (.istore_n 3, 1) := by decide +kernel
theorem dX7_inlets_4 : decode cX7_inlets 4 = .ok (.iload_n 3, 1) := by decide +kernel
theorem dX7_inlets_5 : decode cX7_inlets 5 = .ok (.aload_n 0, 1) := by decide +kernel
theorem dX7_inlets_6 : decode cX7_inlets 6 = .ok (.getfield 9, 3) := by decide +kernel
theorem dX7_inlets_9 : decode cX7_inlets 9 = .ok (.iconst 1, 1) := by decide +kernel
theorem dX7_inlets_10 : decode cX7_inlets 10 = .ok (.iaload, 1) := by decide +kernel
theorem dX7_inlets_11 : decode cX7_inlets 11 = .ok (.if_icmp .ge 30, 3) := by decide +kernel
theorem dX7_inlets_14 : decode cX7_inlets 14 = .ok (.iload_n 2, 1) := by decide +kernel
theorem dX7_inlets_15 : decode cX7_inlets 15 = .ok (.aload_n 0, 1) := by decide +kernel
theorem dX7_inlets_16 : decode cX7_inlets 16 = .ok (.getfield 9, 3) := by decide +kernel
theorem dX7_inlets_19 : decode cX7_inlets 19 = .ok (.bipush 84, 2) := by decide +kernel
theorem dX7_inlets_21 : decode cX7_inlets 21 = .ok (.iload_n 3, 1) := by decide +kernel
theorem dX7_inlets_22 : decode cX7_inlets 22 = .ok (.iadd, 1) := by decide +kernel
theorem dX7_inlets_23 : decode cX7_inlets 23 = .ok (.iaload, 1) := by decide +kernel
theorem dX7_inlets_24 : decode cX7_inlets 24 = .ok (.iload_n 1, 1) := by decide +kernel
theorem dX7_inlets_25 : decode cX7_inlets 25 = .ok (.if_icmp .ne 7, 3) := by decide +kernel
theorem dX7_inlets_28 : decode cX7_inlets 28 = .ok (.iconst 1, 1) := by decide +kernel
theorem dX7_inlets_29 : decode cX7_inlets 29 = .ok (.goto 4, 3) := by decide +kernel
theorem dX7_inlets_32 : decode cX7_inlets 32 = .ok (.iconst 0, 1) := by decide +kernel
theorem dX7_inlets_33 : decode cX7_inlets 33 = .ok (.iadd, 1) := by decide +kernel
theorem dX7_inlets_34 : decode cX7_inlets 34 = .ok (.istore_n 2, 1) := by decide +kernel
theorem dX7_inlets_35 : decode cX7_inlets 35 = .ok (.iinc 3 1, 3) := by decide +kernel
theorem dX7_inlets_38 : decode cX7_inlets 38 = .ok (.goto (-34), 3) := by decide +kernel
theorem dX7_inlets_41 : decode cX7_inlets 41 = .ok (.iload_n 2, 1) := by decide +kernel
theorem dX7_inlets_42 : decode cX7_inlets 42 = .ok (.ireturn, 1) := by decide +kernel
theorem dX7_merge_0 : decode cX7_merge 0 = .ok (.aload_n 0, 1) := by decide +kernel
theorem dX7_merge_1 : decode cX7_merge 1 = .ok (.iload_n 1, 1) := by decide +kernel
theorem dX7_merge_2 : decode cX7_merge 2 = .ok (.invokevirtual 103, 3) := by decide +kernel
theorem dX7_merge_5 : decode cX7_merge 5 = .ok (.istore_n 2, 1) := by decide +kernel
theorem dX7_merge_6 : decode cX7_merge 6 = .ok (.iconst 0, 1) := by decide +kernel
theorem dX7_merge_7 : decode cX7_merge 7 = .ok (.istore_n 3, 1) := by decide +kernel
theorem dX7_merge_8 : decode cX7_merge 8 = .ok (.iload_n 3, 1) := by decide +kernel
theorem dX7_merge_9 : decode cX7_merge 9 = .ok (.iload_n 2, 1) := by decide +kernel
theorem dX7_merge_10 : decode cX7_merge 10 = .ok (.if_icmp .gt 124, 3) := by decide +kernel
theorem dX7_merge_13 : decode cX7_merge 13 = .ok (.iload_n 2, 1) := by decide +kernel
theorem dX7_merge_14 : decode cX7_merge 14 = .ok (.ifCond .le 120, 3) := by decide +kernel
theorem dX7_merge_17 : decode cX7_merge 17 = .ok (.iload_n 3, 1) := by decide +kernel
theorem dX7_merge_18 : decode cX7_merge 18 = .ok (.ifCond .le 54, 3) := by decide +kernel
theorem dX7_merge_21 : decode cX7_merge 21 = .ok (.aload_n 0, 1) := by decide +kernel
theorem dX7_merge_22 : decode cX7_merge 22 = .ok (.iload_n 1, 1) := by decide +kernel
theorem dX7_merge_23 : decode cX7_merge 23 = .ok (.aload_n 0, 1) := by decide +kernel
theorem dX7_merge_24 : decode cX7_merge 24 = .ok (.getfield 9, 3) := by decide +kernel
theorem dX7_merge_27 : decode cX7_merge 27 = .ok (.bipush 44, 2) := by decide +kernel
theorem dX7_merge_29 : decode cX7_merge 29 = .ok (.iload_n 1, 1) := by decide +kernel
theorem dX7_merge_30 : decode cX7_merge 30 = .ok (.iadd, 1) := by decide +kernel
theorem dX7_merge_31 : decode cX7_merge 31 = .ok (.iaload, 1) := by decide +kernel
theorem dX7_merge_32 : decode cX7_merge 32 = .ok (.iconst 1, 1) := by decide +kernel
theorem dX7_merge_33 : decode cX7_merge 33 = .ok (.isub, 1) := by decide +kernel
theorem dX7_merge_34 : decode cX7_merge 34 = .ok (.invokevirtual 106, 3) := by decide +kernel
theorem dX7_merge_37 : decode cX7_merge 37 = .ok (.istore 4, 2) := by decide +kernel
theorem dX7_merge_39 : decode cX7_merge 39 = .ok (.aload_n 0, 1) := by decide +kernel
theorem dX7_merge_40 : decode cX7_merge 40 = .ok (.getfield 9, 3) := by decide +kernel
theorem dX7_merge_43 : decode cX7_merge 43 = .ok (.bipush 44, 2) := by decide +kernel
theorem dX7_merge_45 : decode cX7_merge 45 = .ok (.iload_n 1, 1) := by decide +kernel
theorem dX7_merge_46 : decode cX7_merge 46 = .ok (.iadd, 1) := by decide +kernel
theorem dX7_merge_47 : decode cX7_merge 47 = .ok (.iload 4, 2) := by decide +kernel
theorem dX7_merge_49 : decode cX7_merge 49 = .ok (.iconst 1, 1) := by decide +kernel
theorem dX7_merge_50 : decode cX7_merge 50 = .ok (.iadd, 1) := by decide +kernel
theorem dX7_merge_51 : decode cX7_merge 51 = .ok (.iastore, 1) := by decide +kernel
theorem dX7_merge_52 : decode cX7_merge 52 = .ok (.aload_n 0, 1) := by decide +kernel
theorem dX7_merge_53 : decode cX7_merge 53 = .ok (.getfield 9, 3) := by decide +kernel
theorem dX7_merge_56 : decode cX7_merge 56 = .ok (.bipush 56, 2) := by decide +kernel
theorem dX7_merge_58 : decode cX7_merge 58 = .ok (.iload_n 1, 1) := by decide +kernel
theorem dX7_merge_59 : decode cX7_merge 59 = .ok (.iadd, 1) := by decide +kernel
theorem dX7_merge_60 : decode cX7_merge 60 = .ok (.aload_n 0, 1) := by decide +kernel
theorem dX7_merge_61 : decode cX7_merge 61 = .ok (.getfield 9, 3) := by decide +kernel
theorem dX7_merge_64 : decode cX7_merge 64 = .ok (.sipush 132, 3) := by decide +kernel
theorem dX7_merge_67 : decode cX7_merge 67 = .ok (.iload 4, 2) := by decide +kernel
theorem dX7_merge_69 : decode cX7_merge 69 = .ok (.iadd, 1) := by decide +kernel
theorem dX7_merge_70 : decode cX7_merge 70 = .ok (.iaload, 1) := by decide +kernel
theorem dX7_merge_71 : decode cX7_merge 71 = .ok (.iastore, 1) := by decide +kernel
theorem dX7_merge_72 : decode cX7_merge 72 = .ok (.aload_n 0, 1) := by decide +kernel
theorem dX7_merge_73 : decode cX7_merge 73 = .ok (.getfield 9, 3) := by decide +kernel
theorem dX7_merge_76 : decode cX7_merge 76 = .ok (.bipush 44, 2) := by decide +kernel
theorem dX7_merge_78 : decode cX7_merge 78 = .ok (.iload_n 1, 1) := by decide +kernel
theorem dX7_merge_79 : decode cX7_merge 79 = .ok (.iadd, 1) := by decide +kernel
theorem dX7_merge_80 : decode cX7_merge 80 = .ok (.iaload, 1) := by decide +kernel
theorem dX7_merge_81 : decode cX7_merge 81 = .ok (.iconst 1, 1) := by decide +kernel
theorem dX7_merge_82 : decode cX7_merge 82 = .ok (.isub, 1) := by decide +kernel
theorem dX7_merge_83 : decode cX7_merge 83 = .ok (.istore 4, 2) := by decide +kernel
theorem dX7_merge_85 : decode cX7_merge 85 = .ok (.aload_n 0, 1) := by decide +kernel
theorem dX7_merge_86 : decode cX7_merge 86 = .ok (.getfield 9, 3) := by decide +kernel
theorem dX7_merge_89 : decode cX7_merge 89 = .ok (.bipush 56, 2) := by decide +kernel
theorem dX7_merge_91 : decode cX7_merge 91 = .ok (.iload_n 1, 1) := by decide +kernel
theorem dX7_merge_92 : decode cX7_merge 92 = .ok (.iadd, 1) := by decide +kernel
theorem dX7_merge_93 : decode cX7_merge 93 = .ok (.iaload, 1) := by decide +kernel
theorem dX7_merge_94 : decode cX7_merge 94 = .ok (.ifCond .le 34, 3) := by decide +kernel
theorem dX7_merge_97 : decode cX7_merge 97 = .ok (.aload_n 0, 1) := by decide +kernel
theorem dX7_merge_98 : decode cX7_merge 98 = .ok (.iload 4, 2) := by decide +kernel
theorem dX7_merge_100 : decode cX7_merge 100 = .ok (.invokevirtual 100, 3) := by decide +kernel
theorem dX7_merge_103 : decode cX7_merge 103 = .ok (.ifCond .lt 25, 3) := by decide +kernel
theorem dX7_merge_106 : decode cX7_merge 106 = .ok (.aload_n 0, 1) := by decide +kernel
theorem dX7_merge_107 : decode cX7_merge 107 = .ok (.getfield 9, 3) := by decide +kernel
theorem dX7_merge_110 : decode cX7_merge 110 = .ok (.bipush 56, 2) := by decide +kernel
theorem dX7_merge_112 : decode cX7_merge 112 = .ok (.iload_n 1, 1) := by decide +kernel
theorem dX7_merge_113 : decode cX7_merge 113 = .ok (.iadd, 1) := by decide +kernel
theorem dX7_merge_114 : decode cX7_merge 114 = .ok (.dup2, 1) := by decide +kernel
theorem dX7_merge_115 : decode cX7_merge 115 = .ok (.iaload, 1) := by decide +kernel
theorem dX7_merge_116 : decode cX7_merge 116 = .ok (.iconst 1, 1) := by decide +kernel
theorem dX7_merge_117 : decode cX7_merge 117 = .ok (.isub, 1) := by decide +kernel
theorem dX7_merge_118 : decode cX7_merge 118 = .ok (.iastore, 1) := by decide +kernel
theorem dX7_merge_119 : decode cX7_merge 119 = .ok (.aload_n 0, 1) := by decide +kernel
theorem dX7_merge_120 : decode cX7_merge 120 = .ok (.iload 4, 2) := by decide +kernel
theorem dX7_merge_122 : decode cX7_merge 122 = .ok (.iload_n 1, 1) := by decide +kernel
theorem dX7_merge_123 : decode cX7_merge 123 = .ok (.iconst 2, 1) := by decide +kernel
theorem dX7_merge_124 : decode cX7_merge 124 = .ok (.invokevirtual 109, 3) := by decide +kernel
theorem dX7_merge_127 : decode cX7_merge 127 = .ok (.return_, 1) := by decide +kernel
theorem dX7_merge_128 : decode cX7_merge 128 = .ok (.iinc 3 1, 3) := by decide +kernel
theorem dX7_merge_131 : decode cX7_merge 131 = .ok (.goto (-123), 3) := by decide +kernel
theorem dX7_merge_134 : decode cX7_merge 134 = .ok (.return_, 1) := by decide +kernel
theorem dX7_storedAt_0 : decode cX7_storedAt 0 = .ok (.iconst 0, 1) := by decide +kernel
theorem dX7_storedAt_1 : decode cX7_storedAt 1 = .ok (.istore_n 2, 1) := by decide +kernel
theorem dX7_storedAt_2 : decode cX7_storedAt 2 = .ok (.iconst 0, 1) := by decide +kernel
theorem dX7_storedAt_3 : decode cX7_storedAt 3 = .ok (.istore_n 3, 1) := by decide +kernel
theorem dX7_storedAt_4 : decode cX7_storedAt 4 = .ok (.iload_n 3, 1) := by decide +kernel
theorem dX7_storedAt_5 : decode cX7_storedAt 5 = .ok (.aload_n 0, 1) := by decide +kernel
theorem dX7_storedAt_6 : decode cX7_storedAt 6 = .ok (.getfield 9, 3) := by decide +kernel
theorem dX7_storedAt_9 : decode cX7_storedAt 9 = .ok (.iconst 3, 1) := by decide +kernel
theorem dX7_storedAt_10 : decode cX7_storedAt 10 = .ok (.iaload, 1) := by decide +kernel
theorem dX7_storedAt_11 : decode cX7_storedAt 11 = .ok (.if_icmp .ge 45, 3) := by decide +kernel
theorem dX7_storedAt_14 : decode cX7_storedAt 14 = .ok (.iload_n 2, 1) := by decide +kernel
theorem dX7_storedAt_15 : decode cX7_storedAt 15 = .ok (.aload_n 0, 1) := by decide +kernel
theorem dX7_storedAt_16 : decode cX7_storedAt 16 = .ok (.getfield 9, 3) := by decide +kernel
theorem dX7_storedAt_19 : decode cX7_storedAt 19 = .ok (.sipush 484, 3) := by decide +kernel
theorem dX7_storedAt_22 : decode cX7_storedAt 22 = .ok (.iload_n 3, 1) := by decide +kernel
theorem dX7_storedAt_23 : decode cX7_storedAt 23 = .ok (.iadd, 1) := by decide +kernel
theorem dX7_storedAt_24 : decode cX7_storedAt 24 = .ok (.iaload, 1) := by decide +kernel
theorem dX7_storedAt_25 : decode cX7_storedAt 25 = .ok (.iconst 3, 1) := by decide +kernel
theorem dX7_storedAt_26 : decode cX7_storedAt 26 = .ok (.if_icmp .ne 21, 3) := by decide +kernel
theorem dX7_storedAt_29 : decode cX7_storedAt 29 = .ok (.aload_n 0, 1) := by decide +kernel
theorem dX7_storedAt_30 : decode cX7_storedAt 30 = .ok (.getfield 9, 3) := by decide +kernel
theorem dX7_storedAt_33 : decode cX7_storedAt 33 = .ok (.sipush 544, 3) := by decide +kernel
theorem dX7_storedAt_36 : decode cX7_storedAt 36 = .ok (.iload_n 3, 1) := by decide +kernel
theorem dX7_storedAt_37 : decode cX7_storedAt 37 = .ok (.iadd, 1) := by decide +kernel
theorem dX7_storedAt_38 : decode cX7_storedAt 38 = .ok (.iaload, 1) := by decide +kernel
theorem dX7_storedAt_39 : decode cX7_storedAt 39 = .ok (.iload_n 1, 1) := by decide +kernel
theorem dX7_storedAt_40 : decode cX7_storedAt 40 = .ok (.if_icmp .ne 7, 3) := by decide +kernel
theorem dX7_storedAt_43 : decode cX7_storedAt 43 = .ok (.iconst 1, 1) := by decide +kernel
theorem dX7_storedAt_44 : decode cX7_storedAt 44 = .ok (.goto 4, 3) := by decide +kernel
theorem dX7_storedAt_47 : decode cX7_storedAt 47 = .ok (.iconst 0, 1) := by decide +kernel
theorem dX7_storedAt_48 : decode cX7_storedAt 48 = .ok (.iadd, 1) := by decide +kernel
theorem dX7_storedAt_49 : decode cX7_storedAt 49 = .ok (.istore_n 2, 1) := by decide +kernel
theorem dX7_storedAt_50 : decode cX7_storedAt 50 = .ok (.iinc 3 1, 3) := by decide +kernel
theorem dX7_storedAt_53 : decode cX7_storedAt 53 = .ok (.goto (-49), 3) := by decide +kernel
theorem dX7_storedAt_56 : decode cX7_storedAt 56 = .ok (.iload_n 2, 1) := by decide +kernel
theorem dX7_storedAt_57 : decode cX7_storedAt 57 = .ok (.ireturn, 1) := by decide +kernel
theorem dX7_takeAt_0 : decode cX7_takeAt 0 = .ok (.aload_n 0, 1) := by decide +kernel
theorem dX7_takeAt_1 : decode cX7_takeAt 1 = .ok (.iload_n 1, 1) := by decide +kernel
theorem dX7_takeAt_2 : decode cX7_takeAt 2 = .ok (.invokevirtual 39, 3) := by decide +kernel
theorem dX7_takeAt_5 : decode cX7_takeAt 5 = .ok (.istore_n 2, 1) := by decide +kernel
theorem dX7_takeAt_6 : decode cX7_takeAt 6 = .ok (.iload_n 2, 1) := by decide +kernel
theorem dX7_takeAt_7 : decode cX7_takeAt 7 = .ok (.iconst 5, 1) := by decide +kernel
theorem dX7_takeAt_8 : decode cX7_takeAt 8 = .ok (.if_icmp .ne 123, 3) := by decide +kernel
theorem dX7_takeAt_11 : decode cX7_takeAt 11 = .ok (.iconst 0, 1) := by decide +kernel
theorem dX7_takeAt_12 : decode cX7_takeAt 12 = .ok (.istore_n 3, 1) := by decide +kernel
theorem dX7_takeAt_13 : decode cX7_takeAt 13 = .ok (.iload_n 3, 1) := by decide +kernel
theorem dX7_takeAt_14 : decode cX7_takeAt 14 = .ok (.aload_n 0, 1) := by decide +kernel
theorem dX7_takeAt_15 : decode cX7_takeAt 15 = .ok (.getfield 9, 3) := by decide +kernel
theorem dX7_takeAt_18 : decode cX7_takeAt 18 = .ok (.iconst 1, 1) := by decide +kernel
theorem dX7_takeAt_19 : decode cX7_takeAt 19 = .ok (.iaload, 1) := by decide +kernel
theorem dX7_takeAt_20 : decode cX7_takeAt 20 = .ok (.if_icmp .ge 110, 3) := by decide +kernel
theorem dX7_takeAt_23 : decode cX7_takeAt 23 = .ok (.aload_n 0, 1) := by decide +kernel
theorem dX7_takeAt_24 : decode cX7_takeAt 24 = .ok (.getfield 9, 3) := by decide +kernel
theorem dX7_takeAt_27 : decode cX7_takeAt 27 = .ok (.bipush 84, 2) := by decide +kernel
theorem dX7_takeAt_29 : decode cX7_takeAt 29 = .ok (.iload_n 3, 1) := by decide +kernel
theorem dX7_takeAt_30 : decode cX7_takeAt 30 = .ok (.iadd, 1) := by decide +kernel
theorem dX7_takeAt_31 : decode cX7_takeAt 31 = .ok (.iaload, 1) := by decide +kernel
theorem dX7_takeAt_32 : decode cX7_takeAt 32 = .ok (.iload_n 1, 1) := by decide +kernel
theorem dX7_takeAt_33 : decode cX7_takeAt 33 = .ok (.if_icmp .ne 91, 3) := by decide +kernel
theorem dX7_takeAt_36 : decode cX7_takeAt 36 = .ok (.aload_n 0, 1) := by decide +kernel
theorem dX7_takeAt_37 : decode cX7_takeAt 37 = .ok (.iload_n 3, 1) := by decide +kernel
theorem dX7_takeAt_38 : decode cX7_takeAt 38 = .ok (.invokevirtual 100, 3) := by decide +kernel
theorem dX7_takeAt_41 : decode cX7_takeAt 41 = .ok (.ifCond .lt 83, 3) := by decide +kernel
theorem dX7_takeAt_44 : decode cX7_takeAt 44 = .ok (.aload_n 0, 1) := by decide +kernel
theorem dX7_takeAt_45 : decode cX7_takeAt 45 = .ok (.getfield 9, 3) := by decide +kernel
theorem dX7_takeAt_48 : decode cX7_takeAt 48 = .ok (.sipush 364, 3) := by decide +kernel
theorem dX7_takeAt_51 : decode cX7_takeAt 51 = .ok (.aload_n 0, 1) := by decide +kernel
theorem dX7_takeAt_52 : decode cX7_takeAt 52 = .ok (.iload_n 3, 1) := by decide +kernel
theorem dX7_takeAt_53 : decode cX7_takeAt 53 = .ok (.invokevirtual 100, 3) := by decide +kernel
theorem dX7_takeAt_56 : decode cX7_takeAt 56 = .ok (.iadd, 1) := by decide +kernel
theorem dX7_takeAt_57 : decode cX7_takeAt 57 = .ok (.iaload, 1) := by decide +kernel
theorem dX7_takeAt_58 : decode cX7_takeAt 58 = .ok (.istore 4, 2) := by decide +kernel
theorem dX7_takeAt_60 : decode cX7_takeAt 60 = .ok (.aload_n 0, 1) := by decide +kernel
theorem dX7_takeAt_61 : decode cX7_takeAt 61 = .ok (.getfield 9, 3) := by decide +kernel
theorem dX7_takeAt_64 : decode cX7_takeAt 64 = .ok (.sipush 340, 3) := by decide +kernel
theorem dX7_takeAt_67 : decode cX7_takeAt 67 = .ok (.iload 4, 2) := by decide +kernel
theorem dX7_takeAt_69 : decode cX7_takeAt 69 = .ok (.iadd, 1) := by decide +kernel
theorem dX7_takeAt_70 : decode cX7_takeAt 70 = .ok (.iaload, 1) := by decide +kernel
theorem dX7_takeAt_71 : decode cX7_takeAt 71 = .ok (.iload_n 1, 1) := by decide +kernel
theorem dX7_takeAt_72 : decode cX7_takeAt 72 = .ok (.if_icmp .ne 7, 3) := by decide +kernel
theorem dX7_takeAt_75 : decode cX7_takeAt 75 = .ok (.iconst 1, 1) := by decide +kernel
theorem dX7_takeAt_76 : decode cX7_takeAt 76 = .ok (.goto 4, 3) := by decide +kernel
theorem dX7_takeAt_79 : decode cX7_takeAt 79 = .ok (.iconst 0, 1) := by decide +kernel
theorem dX7_takeAt_80 : decode cX7_takeAt 80 = .ok (.istore 5, 2) := by decide +kernel
theorem dX7_takeAt_82 : decode cX7_takeAt 82 = .ok (.aload_n 0, 1) := by decide +kernel
theorem dX7_takeAt_83 : decode cX7_takeAt 83 = .ok (.iload_n 3, 1) := by decide +kernel
theorem dX7_takeAt_84 : decode cX7_takeAt 84 = .ok (.iload_n 1, 1) := by decide +kernel
theorem dX7_takeAt_85 : decode cX7_takeAt 85 = .ok (.iload 5, 2) := by decide +kernel
theorem dX7_takeAt_87 : decode cX7_takeAt 87 = .ok (.ifCond .ne 8, 3) := by decide +kernel
theorem dX7_takeAt_90 : decode cX7_takeAt 90 = .ok (.bipush 7, 2) := by decide +kernel
theorem dX7_takeAt_92 : decode cX7_takeAt 92 = .ok (.goto 29, 3) := by decide +kernel
theorem dX7_takeAt_95 : decode cX7_takeAt 95 = .ok (.aload_n 0, 1) := by decide +kernel
theorem dX7_takeAt_96 : decode cX7_takeAt 96 = .ok (.getfield 9, 3) := by decide +kernel
theorem dX7_takeAt_99 : decode cX7_takeAt 99 = .ok (.iconst 4, 1) := by decide +kernel
theorem dX7_takeAt_100 : decode cX7_takeAt 100 = .ok (.iaload, 1) := by decide +kernel
theorem dX7_takeAt_101 : decode cX7_takeAt 101 = .ok (.aload_n 0, 1) := by decide +kernel
theorem dX7_takeAt_102 : decode cX7_takeAt 102 = .ok (.getfield 9, 3) := by decide +kernel
theorem dX7_takeAt_105 : decode cX7_takeAt 105 = .ok (.sipush 356, 3) := by decide +kernel
theorem dX7_takeAt_108 : decode cX7_takeAt 108 = .ok (.iload 4, 2) := by decide +kernel
theorem dX7_takeAt_110 : decode cX7_takeAt 110 = .ok (.iadd, 1) := by decide +kernel
theorem dX7_takeAt_111 : decode cX7_takeAt 111 = .ok (.iaload, 1) := by decide +kernel
theorem dX7_takeAt_112 : decode cX7_takeAt 112 = .ok (.if_icmp .ge 7, 3) := by decide +kernel
theorem dX7_takeAt_115 : decode cX7_takeAt 115 = .ok (.iconst 5, 1) := by decide +kernel
theorem dX7_takeAt_116 : decode cX7_takeAt 116 = .ok (.goto 5, 3) := by decide +kernel
theorem dX7_takeAt_119 : decode cX7_takeAt 119 = .ok (.bipush 6, 2) := by decide +kernel
theorem dX7_takeAt_121 : decode cX7_takeAt 121 = .ok (.invokevirtual 109, 3) := by decide +kernel
theorem dX7_takeAt_124 : decode cX7_takeAt 124 = .ok (.iinc 3 1, 3) := by decide +kernel
theorem dX7_takeAt_127 : decode cX7_takeAt 127 = .ok (.goto (-114), 3) := by decide +kernel
theorem dX7_takeAt_130 : decode cX7_takeAt 130 = .ok (.return_, 1) := by decide +kernel
theorem dX7_takeAt_131 : decode cX7_takeAt 131 = .ok (.iload_n 2, 1) := by decide +kernel
theorem dX7_takeAt_132 : decode cX7_takeAt 132 = .ok (.iconst 4, 1) := by decide +kernel
theorem dX7_takeAt_133 : decode cX7_takeAt 133 = .ok (.if_icmp .ne 38, 3) := by decide +kernel
theorem dX7_takeAt_136 : decode cX7_takeAt 136 = .ok (.aload_n 0, 1) := by decide +kernel
theorem dX7_takeAt_137 : decode cX7_takeAt 137 = .ok (.iload_n 1, 1) := by decide +kernel
theorem dX7_takeAt_138 : decode cX7_takeAt 138 = .ok (.invokevirtual 113, 3) := by decide +kernel
theorem dX7_takeAt_141 : decode cX7_takeAt 141 = .ok (.istore_n 3, 1) := by decide +kernel
theorem dX7_takeAt_142 : decode cX7_takeAt 142 = .ok (.iload_n 3, 1) := by decide +kernel
theorem dX7_takeAt_143 : decode cX7_takeAt 143 = .ok (.ifCond .lt 27, 3) := by decide +kernel
theorem dX7_takeAt_146 : decode cX7_takeAt 146 = .ok (.aload_n 0, 1) := by decide +kernel
theorem dX7_takeAt_147 : decode cX7_takeAt 147 = .ok (.iload_n 1, 1) := by decide +kernel
theorem dX7_takeAt_148 : decode cX7_takeAt 148 = .ok (.invokevirtual 116, 3) := by decide +kernel
theorem dX7_takeAt_151 : decode cX7_takeAt 151 = .ok (.aload_n 0, 1) := by decide +kernel
theorem dX7_takeAt_152 : decode cX7_takeAt 152 = .ok (.getfield 9, 3) := by decide +kernel
theorem dX7_takeAt_155 : decode cX7_takeAt 155 = .ok (.bipush 20, 2) := by decide +kernel
theorem dX7_takeAt_157 : decode cX7_takeAt 157 = .ok (.iload_n 1, 1) := by decide +kernel
theorem dX7_takeAt_158 : decode cX7_takeAt 158 = .ok (.iadd, 1) := by decide +kernel
theorem dX7_takeAt_159 : decode cX7_takeAt 159 = .ok (.iaload, 1) := by decide +kernel
theorem dX7_takeAt_160 : decode cX7_takeAt 160 = .ok (.if_icmp .ge 10, 3) := by decide +kernel
theorem dX7_takeAt_163 : decode cX7_takeAt 163 = .ok (.aload_n 0, 1) := by decide +kernel
theorem dX7_takeAt_164 : decode cX7_takeAt 164 = .ok (.iload_n 3, 1) := by decide +kernel
theorem dX7_takeAt_165 : decode cX7_takeAt 165 = .ok (.iload_n 1, 1) := by decide +kernel
theorem dX7_takeAt_166 : decode cX7_takeAt 166 = .ok (.iconst 3, 1) := by decide +kernel
theorem dX7_takeAt_167 : decode cX7_takeAt 167 = .ok (.invokevirtual 109, 3) := by decide +kernel
theorem dX7_takeAt_170 : decode cX7_takeAt 170 = .ok (.return_, 1) := by decide +kernel
theorem dX7_takeAt_171 : decode cX7_takeAt 171 = .ok (.iload_n 2, 1) := by decide +kernel
theorem dX7_takeAt_172 : decode cX7_takeAt 172 = .ok (.ifCond .eq 15, 3) := by decide +kernel
theorem dX7_takeAt_175 : decode cX7_takeAt 175 = .ok (.aload_n 0, 1) := by decide +kernel
theorem dX7_takeAt_176 : decode cX7_takeAt 176 = .ok (.getfield 9, 3) := by decide +kernel
theorem dX7_takeAt_179 : decode cX7_takeAt 179 = .ok (.bipush 32, 2) := by decide +kernel
theorem dX7_takeAt_181 : decode cX7_takeAt 181 = .ok (.iload_n 1, 1) := by decide +kernel
theorem dX7_takeAt_182 : decode cX7_takeAt 182 = .ok (.iadd, 1) := by decide +kernel
theorem dX7_takeAt_183 : decode cX7_takeAt 183 = .ok (.iaload, 1) := by decide +kernel
theorem dX7_takeAt_184 : decode cX7_takeAt 184 = .ok (.ifCond .eq 4, 3) := by decide +kernel
theorem dX7_takeAt_187 : decode cX7_takeAt 187 = .ok (.return_, 1) := by decide +kernel
theorem dX7_takeAt_188 : decode cX7_takeAt 188 = .ok (.iload_n 2, 1) := by decide +kernel
theorem dX7_takeAt_189 : decode cX7_takeAt 189 = .ok (.iconst 1, 1) := by decide +kernel
theorem dX7_takeAt_190 : decode cX7_takeAt 190 = .ok (.if_icmp .ne 9, 3) := by decide +kernel
theorem dX7_takeAt_193 : decode cX7_takeAt 193 = .ok (.aload_n 0, 1) := by decide +kernel
theorem dX7_takeAt_194 : decode cX7_takeAt 194 = .ok (.iload_n 1, 1) := by decide +kernel
theorem dX7_takeAt_195 : decode cX7_takeAt 195 = .ok (.invokevirtual 119, 3) := by decide +kernel
theorem dX7_takeAt_198 : decode cX7_takeAt 198 = .ok (.return_, 1) := by decide +kernel
theorem dX7_takeAt_199 : decode cX7_takeAt 199 = .ok (.aload_n 0, 1) := by decide +kernel
theorem dX7_takeAt_200 : decode cX7_takeAt 200 = .ok (.iload_n 1, 1) := by decide +kernel
theorem dX7_takeAt_201 : decode cX7_takeAt 201 = .ok (.invokevirtual 113, 3) := by decide +kernel
theorem dX7_takeAt_204 : decode cX7_takeAt 204 = .ok (.istore_n 3, 1) := by decide +kernel
theorem dX7_takeAt_205 : decode cX7_takeAt 205 = .ok (.iload_n 3, 1) := by decide +kernel
theorem dX7_takeAt_206 : decode cX7_takeAt 206 = .ok (.ifCond .lt 10, 3) := by decide +kernel
theorem dX7_takeAt_209 : decode cX7_takeAt 209 = .ok (.aload_n 0, 1) := by decide +kernel
theorem dX7_takeAt_210 : decode cX7_takeAt 210 = .ok (.iload_n 3, 1) := by decide +kernel
theorem dX7_takeAt_211 : decode cX7_takeAt 211 = .ok (.iload_n 1, 1) := by decide +kernel
theorem dX7_takeAt_212 : decode cX7_takeAt 212 = .ok (.iconst 2, 1) := by decide +kernel
theorem dX7_takeAt_213 : decode cX7_takeAt 213 = .ok (.invokevirtual 109, 3) := by decide +kernel
theorem dX7_takeAt_216 : decode cX7_takeAt 216 = .ok (.return_, 1) := by decide +kernel
theorem dX7_tickOnce_0 : decode cX7_tickOnce 0 = .ok (.iconst 0, 1) := by decide +kernel
theorem dX7_tickOnce_1 : decode cX7_tickOnce 1 = .ok (.istore_n 1, 1) := by decide +kernel
theorem dX7_tickOnce_2 : decode cX7_tickOnce 2 = .ok (.iload_n 1, 1) := by decide +kernel
theorem dX7_tickOnce_3 : decode cX7_tickOnce 3 = .ok (.bipush 60, 2) := by decide +kernel
theorem dX7_tickOnce_5 : decode cX7_tickOnce 5 = .ok (.if_icmp .ge 16, 3) := by decide +kernel
theorem dX7_tickOnce_8 : decode cX7_tickOnce 8 = .ok (.aload_n 0, 1) := by decide +kernel
theorem dX7_tickOnce_9 : decode cX7_tickOnce 9 = .ok (.getfield 16, 3) := by decide +kernel
theorem dX7_tickOnce_12 : decode cX7_tickOnce 12 = .ok (.iload_n 1, 1) := by decide +kernel
theorem dX7_tickOnce_13 : decode cX7_tickOnce 13 = .ok (.iconst 0, 1) := by decide +kernel
theorem dX7_tickOnce_14 : decode cX7_tickOnce 14 = .ok (.bastore, 1) := by decide +kernel
theorem dX7_tickOnce_15 : decode cX7_tickOnce 15 = .ok (.iinc 1 1, 3) := by decide +kernel
theorem dX7_tickOnce_18 : decode cX7_tickOnce 18 = .ok (.goto (-16), 3) := by decide +kernel
theorem dX7_tickOnce_21 : decode cX7_tickOnce 21 = .ok (.iconst 0, 1) := by decide +kernel
theorem dX7_tickOnce_22 : decode cX7_tickOnce 22 = .ok (.istore_n 1, 1) := by decide +kernel
theorem dX7_tickOnce_23 : decode cX7_tickOnce 23 = .ok (.iload_n 1, 1) := by decide +kernel
theorem dX7_tickOnce_24 : decode cX7_tickOnce 24 = .ok (.aload_n 0, 1) := by decide +kernel
theorem dX7_tickOnce_25 : decode cX7_tickOnce 25 = .ok (.getfield 9, 3) := by decide +kernel
theorem dX7_tickOnce_28 : decode cX7_tickOnce 28 = .ok (.iconst 0, 1) := by decide +kernel
theorem dX7_tickOnce_29 : decode cX7_tickOnce 29 = .ok (.iaload, 1) := by decide +kernel
theorem dX7_tickOnce_30 : decode cX7_tickOnce 30 = .ok (.if_icmp .ge 14, 3) := by decide +kernel
theorem dX7_tickOnce_33 : decode cX7_tickOnce 33 = .ok (.aload_n 0, 1) := by decide +kernel
theorem dX7_tickOnce_34 : decode cX7_tickOnce 34 = .ok (.iload_n 1, 1) := by decide +kernel
theorem dX7_tickOnce_35 : decode cX7_tickOnce 35 = .ok (.invokevirtual 122, 3) := by decide +kernel
theorem dX7_tickOnce_38 : decode cX7_tickOnce 38 = .ok (.iinc 1 1, 3) := by decide +kernel
theorem dX7_tickOnce_41 : decode cX7_tickOnce 41 = .ok (.goto (-18), 3) := by decide +kernel
theorem dX7_tickOnce_44 : decode cX7_tickOnce 44 = .ok (.iconst 0, 1) := by decide +kernel
theorem dX7_tickOnce_45 : decode cX7_tickOnce 45 = .ok (.istore_n 1, 1) := by decide +kernel
theorem dX7_tickOnce_46 : decode cX7_tickOnce 46 = .ok (.iload_n 1, 1) := by decide +kernel
theorem dX7_tickOnce_47 : decode cX7_tickOnce 47 = .ok (.aload_n 0, 1) := by decide +kernel
theorem dX7_tickOnce_48 : decode cX7_tickOnce 48 = .ok (.getfield 9, 3) := by decide +kernel
theorem dX7_tickOnce_51 : decode cX7_tickOnce 51 = .ok (.iconst 1, 1) := by decide +kernel
theorem dX7_tickOnce_52 : decode cX7_tickOnce 52 = .ok (.iaload, 1) := by decide +kernel
theorem dX7_tickOnce_53 : decode cX7_tickOnce 53 = .ok (.if_icmp .ge 14, 3) := by decide +kernel
theorem dX7_tickOnce_56 : decode cX7_tickOnce 56 = .ok (.aload_n 0, 1) := by decide +kernel
theorem dX7_tickOnce_57 : decode cX7_tickOnce 57 = .ok (.iload_n 1, 1) := by decide +kernel
theorem dX7_tickOnce_58 : decode cX7_tickOnce 58 = .ok (.invokevirtual 125, 3) := by decide +kernel
theorem dX7_tickOnce_61 : decode cX7_tickOnce 61 = .ok (.iinc 1 1, 3) := by decide +kernel
theorem dX7_tickOnce_64 : decode cX7_tickOnce 64 = .ok (.goto (-18), 3) := by decide +kernel
theorem dX7_tickOnce_67 : decode cX7_tickOnce 67 = .ok (.iconst 0, 1) := by decide +kernel
theorem dX7_tickOnce_68 : decode cX7_tickOnce 68 = .ok (.istore_n 1, 1) := by decide +kernel
theorem dX7_tickOnce_69 : decode cX7_tickOnce 69 = .ok (.iload_n 1, 1) := by decide +kernel
theorem dX7_tickOnce_70 : decode cX7_tickOnce 70 = .ok (.aload_n 0, 1) := by decide +kernel
theorem dX7_tickOnce_71 : decode cX7_tickOnce 71 = .ok (.getfield 9, 3) := by decide +kernel
theorem dX7_tickOnce_74 : decode cX7_tickOnce 74 = .ok (.iconst 0, 1) := by decide +kernel
theorem dX7_tickOnce_75 : decode cX7_tickOnce 75 = .ok (.iaload, 1) := by decide +kernel
theorem dX7_tickOnce_76 : decode cX7_tickOnce 76 = .ok (.if_icmp .ge 14, 3) := by decide +kernel
theorem dX7_tickOnce_79 : decode cX7_tickOnce 79 = .ok (.aload_n 0, 1) := by decide +kernel
theorem dX7_tickOnce_80 : decode cX7_tickOnce 80 = .ok (.iload_n 1, 1) := by decide +kernel
theorem dX7_tickOnce_81 : decode cX7_tickOnce 81 = .ok (.invokevirtual 128, 3) := by decide +kernel
theorem dX7_tickOnce_84 : decode cX7_tickOnce 84 = .ok (.iinc 1 1, 3) := by decide +kernel
theorem dX7_tickOnce_87 : decode cX7_tickOnce 87 = .ok (.goto (-18), 3) := by decide +kernel
theorem dX7_tickOnce_90 : decode cX7_tickOnce 90 = .ok (.aload_n 0, 1) := by decide +kernel
theorem dX7_tickOnce_91 : decode cX7_tickOnce 91 = .ok (.getfield 9, 3) := by decide +kernel
theorem dX7_tickOnce_94 : decode cX7_tickOnce 94 = .ok (.iconst 4, 1) := by decide +kernel
theorem dX7_tickOnce_95 : decode cX7_tickOnce 95 = .ok (.dup2, 1) := by decide +kernel
theorem dX7_tickOnce_96 : decode cX7_tickOnce 96 = .ok (.iaload, 1) := by decide +kernel
theorem dX7_tickOnce_97 : decode cX7_tickOnce 97 = .ok (.iconst 1, 1) := by decide +kernel
theorem dX7_tickOnce_98 : decode cX7_tickOnce 98 = .ok (.iadd, 1) := by decide +kernel
theorem dX7_tickOnce_99 : decode cX7_tickOnce 99 = .ok (.iastore, 1) := by decide +kernel
theorem dX7_tickOnce_100 : decode cX7_tickOnce 100 = .ok (.return_, 1) := by decide +kernel
theorem dX7_tick_0 : decode cX7_tick 0 = .ok (.iload_n 1, 1) := by decide +kernel
theorem dX7_tick_1 : decode cX7_tick 1 = .ok (.iconst 1, 1) := by decide +kernel
theorem dX7_tick_2 : decode cX7_tick 2 = .ok (.bipush 100, 2) := by decide +kernel
theorem dX7_tick_4 : decode cX7_tick 4 = .ok (.invokestatic 27, 3) := by decide +kernel
theorem dX7_tick_7 : decode cX7_tick 7 = .ok (.ifCond .ne 9, 3) := by decide +kernel
theorem dX7_tick_10 : decode cX7_tick 10 = .ok (.aload_n 0, 1) := by decide +kernel
theorem dX7_tick_11 : decode cX7_tick 11 = .ok (.iconst (-1), 1) := by decide +kernel
theorem dX7_tick_12 : decode cX7_tick 12 = .ok (.invokevirtual 31, 3) := by decide +kernel
theorem dX7_tick_15 : decode cX7_tick 15 = .ok (.ireturn, 1) := by decide +kernel
theorem dX7_tick_16 : decode cX7_tick 16 = .ok (.iconst 0, 1) := by decide +kernel
theorem dX7_tick_17 : decode cX7_tick 17 = .ok (.istore_n 2, 1) := by decide +kernel
theorem dX7_tick_18 : decode cX7_tick 18 = .ok (.iload_n 2, 1) := by decide +kernel
theorem dX7_tick_19 : decode cX7_tick 19 = .ok (.iload_n 1, 1) := by decide +kernel
theorem dX7_tick_20 : decode cX7_tick 20 = .ok (.if_icmp .ge 13, 3) := by decide +kernel
theorem dX7_tick_23 : decode cX7_tick 23 = .ok (.aload_n 0, 1) := by decide +kernel
theorem dX7_tick_24 : decode cX7_tick 24 = .ok (.invokevirtual 131, 3) := by decide +kernel
theorem dX7_tick_27 : decode cX7_tick 27 = .ok (.iinc 2 1, 3) := by decide +kernel
theorem dX7_tick_30 : decode cX7_tick 30 = .ok (.goto (-12), 3) := by decide +kernel
theorem dX7_tick_33 : decode cX7_tick 33 = .ok (.aload_n 0, 1) := by decide +kernel
theorem dX7_tick_34 : decode cX7_tick 34 = .ok (.getfield 9, 3) := by decide +kernel
theorem dX7_tick_37 : decode cX7_tick 37 = .ok (.iconst 4, 1) := by decide +kernel
theorem dX7_tick_38 : decode cX7_tick 38 = .ok (.iaload, 1) := by decide +kernel
theorem dX7_tick_39 : decode cX7_tick 39 = .ok (.ireturn, 1) := by decide +kernel
theorem dX7_cell_0 : decode cX7_cell 0 = .ok (.aload_n 0, 1) := by decide +kernel
theorem dX7_cell_1 : decode cX7_cell 1 = .ok (.iload_n 1, 1) := by decide +kernel
theorem dX7_cell_2 : decode cX7_cell 2 = .ok (.invokevirtual 42, 3) := by decide +kernel
theorem dX7_cell_5 : decode cX7_cell 5 = .ok (.ifCond .eq 22, 3) := by decide +kernel
theorem dX7_cell_8 : decode cX7_cell 8 = .ok (.iload_n 2, 1) := by decide +kernel
theorem dX7_cell_9 : decode cX7_cell 9 = .ok (.iconst 0, 1) := by decide +kernel
theorem dX7_cell_10 : decode cX7_cell 10 = .ok (.aload_n 0, 1) := by decide +kernel
theorem dX7_cell_11 : decode cX7_cell 11 = .ok (.getfield 9, 3) := by decide +kernel
theorem dX7_cell_14 : decode cX7_cell 14 = .ok (.bipush 100, 2) := by decide +kernel
theorem dX7_cell_16 : decode cX7_cell 16 = .ok (.iload_n 1, 1) := by decide +kernel
theorem dX7_cell_17 : decode cX7_cell 17 = .ok (.iadd, 1) := by decide +kernel
theorem dX7_cell_18 : decode cX7_cell 18 = .ok (.iaload, 1) := by decide +kernel
theorem dX7_cell_19 : decode cX7_cell 19 = .ok (.iconst 1, 1) := by decide +kernel
theorem dX7_cell_20 : decode cX7_cell 20 = .ok (.isub, 1) := by decide +kernel
theorem dX7_cell_21 : decode cX7_cell 21 = .ok (.invokestatic 27, 3) := by decide +kernel
theorem dX7_cell_24 : decode cX7_cell 24 = .ok (.ifCond .ne 9, 3) := by decide +kernel
theorem dX7_cell_27 : decode cX7_cell 27 = .ok (.aload_n 0, 1) := by decide +kernel
theorem dX7_cell_28 : decode cX7_cell 28 = .ok (.iconst (-1), 1) := by decide +kernel
theorem dX7_cell_29 : decode cX7_cell 29 = .ok (.invokevirtual 31, 3) := by decide +kernel
theorem dX7_cell_32 : decode cX7_cell 32 = .ok (.ireturn, 1) := by decide +kernel
theorem dX7_cell_33 : decode cX7_cell 33 = .ok (.aload_n 0, 1) := by decide +kernel
theorem dX7_cell_34 : decode cX7_cell 34 = .ok (.getfield 9, 3) := by decide +kernel
theorem dX7_cell_37 : decode cX7_cell 37 = .ok (.sipush 148, 3) := by decide +kernel
theorem dX7_cell_40 : decode cX7_cell 40 = .ok (.bipush 12, 2) := by decide +kernel
theorem dX7_cell_42 : decode cX7_cell 42 = .ok (.iload_n 1, 1) := by decide +kernel
theorem dX7_cell_43 : decode cX7_cell 43 = .ok (.imul, 1) := by decide +kernel
theorem dX7_cell_44 : decode cX7_cell 44 = .ok (.iadd, 1) := by decide +kernel
theorem dX7_cell_45 : decode cX7_cell 45 = .ok (.iload_n 2, 1) := by decide +kernel
theorem dX7_cell_46 : decode cX7_cell 46 = .ok (.iadd, 1) := by decide +kernel
theorem dX7_cell_47 : decode cX7_cell 47 = .ok (.iaload, 1) := by decide +kernel
theorem dX7_cell_48 : decode cX7_cell 48 = .ok (.iconst 1, 1) := by decide +kernel
theorem dX7_cell_49 : decode cX7_cell 49 = .ok (.isub, 1) := by decide +kernel
theorem dX7_cell_50 : decode cX7_cell 50 = .ok (.istore_n 3, 1) := by decide +kernel
theorem dX7_cell_51 : decode cX7_cell 51 = .ok (.iload_n 3, 1) := by decide +kernel
theorem dX7_cell_52 : decode cX7_cell 52 = .ok (.ifCond .ge 12, 3) := by decide +kernel
theorem dX7_cell_55 : decode cX7_cell 55 = .ok (.aload_n 0, 1) := by decide +kernel
theorem dX7_cell_56 : decode cX7_cell 56 = .ok (.bipush (-2), 2) := by decide +kernel
theorem dX7_cell_58 : decode cX7_cell 58 = .ok (.invokevirtual 31, 3) := by decide +kernel
theorem dX7_cell_61 : decode cX7_cell 61 = .ok (.goto 4, 3) := by decide +kernel
theorem dX7_cell_64 : decode cX7_cell 64 = .ok (.iload_n 3, 1) := by decide +kernel
theorem dX7_cell_65 : decode cX7_cell 65 = .ok (.ireturn, 1) := by decide +kernel
theorem dX7_holds_0 : decode cX7_holds 0 = .ok (.aload_n 0, 1) := by decide +kernel
theorem dX7_holds_1 : decode cX7_holds 1 = .ok (.iload_n 1, 1) := by decide +kernel
theorem dX7_holds_2 : decode cX7_holds 2 = .ok (.invokevirtual 35, 3) := by decide +kernel
theorem dX7_holds_5 : decode cX7_holds 5 = .ok (.ifCond .ne 9, 3) := by decide +kernel
theorem dX7_holds_8 : decode cX7_holds 8 = .ok (.aload_n 0, 1) := by decide +kernel
theorem dX7_holds_9 : decode cX7_holds 9 = .ok (.iconst (-1), 1) := by decide +kernel
theorem dX7_holds_10 : decode cX7_holds 10 = .ok (.invokevirtual 31, 3) := by decide +kernel
theorem dX7_holds_13 : decode cX7_holds 13 = .ok (.ireturn, 1) := by decide +kernel
theorem dX7_holds_14 : decode cX7_holds 14 = .ok (.aload_n 0, 1) := by decide +kernel
theorem dX7_holds_15 : decode cX7_holds 15 = .ok (.iload_n 1, 1) := by decide +kernel
theorem dX7_holds_16 : decode cX7_holds 16 = .ok (.invokevirtual 39, 3) := by decide +kernel
theorem dX7_holds_19 : decode cX7_holds 19 = .ok (.iconst 1, 1) := by decide +kernel
theorem dX7_holds_20 : decode cX7_holds 20 = .ok (.iconst 3, 1) := by decide +kernel
theorem dX7_holds_21 : decode cX7_holds 21 = .ok (.invokestatic 27, 3) := by decide +kernel
theorem dX7_holds_24 : decode cX7_holds 24 = .ok (.ifCond .ne 10, 3) := by decide +kernel
theorem dX7_holds_27 : decode cX7_holds 27 = .ok (.aload_n 0, 1) := by decide +kernel
theorem dX7_holds_28 : decode cX7_holds 28 = .ok (.bipush (-4), 2) := by decide +kernel
theorem dX7_holds_30 : decode cX7_holds 30 = .ok (.invokevirtual 31, 3) := by decide +kernel
theorem dX7_holds_33 : decode cX7_holds 33 = .ok (.ireturn, 1) := by decide +kernel
theorem dX7_holds_34 : decode cX7_holds 34 = .ok (.aload_n 0, 1) := by decide +kernel
theorem dX7_holds_35 : decode cX7_holds 35 = .ok (.getfield 9, 3) := by decide +kernel
theorem dX7_holds_38 : decode cX7_holds 38 = .ok (.bipush 32, 2) := by decide +kernel
theorem dX7_holds_40 : decode cX7_holds 40 = .ok (.iload_n 1, 1) := by decide +kernel
theorem dX7_holds_41 : decode cX7_holds 41 = .ok (.iadd, 1) := by decide +kernel
theorem dX7_holds_42 : decode cX7_holds 42 = .ok (.iaload, 1) := by decide +kernel
theorem dX7_holds_43 : decode cX7_holds 43 = .ok (.ifCond .ne 12, 3) := by decide +kernel
theorem dX7_holds_46 : decode cX7_holds 46 = .ok (.aload_n 0, 1) := by decide +kernel
theorem dX7_holds_47 : decode cX7_holds 47 = .ok (.bipush (-2), 2) := by decide +kernel
theorem dX7_holds_49 : decode cX7_holds 49 = .ok (.invokevirtual 31, 3) := by decide +kernel
theorem dX7_holds_52 : decode cX7_holds 52 = .ok (.goto 14, 3) := by decide +kernel
theorem dX7_holds_55 : decode cX7_holds 55 = .ok (.aload_n 0, 1) := by decide +kernel
theorem dX7_holds_56 : decode cX7_holds 56 = .ok (.getfield 9, 3) := by decide +kernel
theorem dX7_holds_59 : decode cX7_holds 59 = .ok (.bipush 32, 2) := by decide +kernel
theorem dX7_holds_61 : decode cX7_holds 61 = .ok (.iload_n 1, 1) := by decide +kernel
theorem dX7_holds_62 : decode cX7_holds 62 = .ok (.iadd, 1) := by decide +kernel
theorem dX7_holds_63 : decode cX7_holds 63 = .ok (.iaload, 1) := by decide +kernel
theorem dX7_holds_64 : decode cX7_holds 64 = .ok (.iconst 1, 1) := by decide +kernel
theorem dX7_holds_65 : decode cX7_holds 65 = .ok (.isub, 1) := by decide +kernel
theorem dX7_holds_66 : decode cX7_holds 66 = .ok (.ireturn, 1) := by decide +kernel
theorem dX7_list_0 : decode cX7_list 0 = .ok (.aload_n 0, 1) := by decide +kernel
theorem dX7_list_1 : decode cX7_list 1 = .ok (.iload_n 1, 1) := by decide +kernel
theorem dX7_list_2 : decode cX7_list 2 = .ok (.invokevirtual 35, 3) := by decide +kernel
theorem dX7_list_5 : decode cX7_list 5 = .ok (.ifCond .ne 9, 3) := by decide +kernel
theorem dX7_list_8 : decode cX7_list 8 = .ok (.aload_n 0, 1) := by decide +kernel
theorem dX7_list_9 : decode cX7_list 9 = .ok (.iconst (-1), 1) := by decide +kernel
theorem dX7_list_10 : decode cX7_list 10 = .ok (.invokevirtual 31, 3) := by decide +kernel
theorem dX7_list_13 : decode cX7_list 13 = .ok (.ireturn, 1) := by decide +kernel
theorem dX7_list_14 : decode cX7_list 14 = .ok (.aload_n 0, 1) := by decide +kernel
theorem dX7_list_15 : decode cX7_list 15 = .ok (.iload_n 1, 1) := by decide +kernel
theorem dX7_list_16 : decode cX7_list 16 = .ok (.invokevirtual 39, 3) := by decide +kernel
theorem dX7_list_19 : decode cX7_list 19 = .ok (.ifCond .eq 19, 3) := by decide +kernel
theorem dX7_list_22 : decode cX7_list 22 = .ok (.aload_n 0, 1) := by decide +kernel
theorem dX7_list_23 : decode cX7_list 23 = .ok (.iload_n 1, 1) := by decide +kernel
theorem dX7_list_24 : decode cX7_list 24 = .ok (.invokevirtual 39, 3) := by decide +kernel
theorem dX7_list_27 : decode cX7_list 27 = .ok (.iconst 4, 1) := by decide +kernel
theorem dX7_list_28 : decode cX7_list 28 = .ok (.if_icmp .eq 10, 3) := by decide +kernel
theorem dX7_list_31 : decode cX7_list 31 = .ok (.aload_n 0, 1) := by decide +kernel
theorem dX7_list_32 : decode cX7_list 32 = .ok (.bipush (-4), 2) := by decide +kernel
theorem dX7_list_34 : decode cX7_list 34 = .ok (.invokevirtual 31, 3) := by decide +kernel
theorem dX7_list_37 : decode cX7_list 37 = .ok (.ireturn, 1) := by decide +kernel
theorem dX7_list_38 : decode cX7_list 38 = .ok (.aload_n 0, 1) := by decide +kernel
theorem dX7_list_39 : decode cX7_list 39 = .ok (.iload_n 1, 1) := by decide +kernel
theorem dX7_list_40 : decode cX7_list 40 = .ok (.invokevirtual 39, 3) := by decide +kernel
theorem dX7_list_43 : decode cX7_list 43 = .ok (.ifCond .ne 7, 3) := by decide +kernel
theorem dX7_list_46 : decode cX7_list 46 = .ok (.iconst 0, 1) := by decide +kernel
theorem dX7_list_47 : decode cX7_list 47 = .ok (.goto 4, 3) := by decide +kernel
theorem dX7_list_50 : decode cX7_list 50 = .ok (.iconst 3, 1) := by decide +kernel
theorem dX7_list_51 : decode cX7_list 51 = .ok (.istore_n 3, 1) := by decide +kernel
theorem dX7_list_52 : decode cX7_list 52 = .ok (.iload_n 3, 1) := by decide +kernel
theorem dX7_list_53 : decode cX7_list 53 = .ok (.ifCond .ne 11, 3) := by decide +kernel
theorem dX7_list_56 : decode cX7_list 56 = .ok (.aload_n 0, 1) := by decide +kernel
theorem dX7_list_57 : decode cX7_list 57 = .ok (.iload_n 1, 1) := by decide +kernel
theorem dX7_list_58 : decode cX7_list 58 = .ok (.invokevirtual 59, 3) := by decide +kernel
theorem dX7_list_61 : decode cX7_list 61 = .ok (.goto 8, 3) := by decide +kernel
theorem dX7_list_64 : decode cX7_list 64 = .ok (.aload_n 0, 1) := by decide +kernel
theorem dX7_list_65 : decode cX7_list 65 = .ok (.iload_n 1, 1) := by decide +kernel
theorem dX7_list_66 : decode cX7_list 66 = .ok (.invokevirtual 116, 3) := by decide +kernel
theorem dX7_list_69 : decode cX7_list 69 = .ok (.istore 4, 2) := by decide +kernel
theorem dX7_list_71 : decode cX7_list 71 = .ok (.iload_n 2, 1) := by decide +kernel
theorem dX7_list_72 : decode cX7_list 72 = .ok (.iconst (-1), 1) := by decide +kernel
theorem dX7_list_73 : decode cX7_list 73 = .ok (.if_icmp .ne 6, 3) := by decide +kernel
theorem dX7_list_76 : decode cX7_list 76 = .ok (.iload 4, 2) := by decide +kernel
theorem dX7_list_78 : decode cX7_list 78 = .ok (.ireturn, 1) := by decide +kernel
theorem dX7_list_79 : decode cX7_list 79 = .ok (.iload_n 2, 1) := by decide +kernel
theorem dX7_list_80 : decode cX7_list 80 = .ok (.iconst 0, 1) := by decide +kernel
theorem dX7_list_81 : decode cX7_list 81 = .ok (.iload 4, 2) := by decide +kernel
theorem dX7_list_83 : decode cX7_list 83 = .ok (.iconst 1, 1) := by decide +kernel
theorem dX7_list_84 : decode cX7_list 84 = .ok (.isub, 1) := by decide +kernel
theorem dX7_list_85 : decode cX7_list 85 = .ok (.invokestatic 27, 3) := by decide +kernel
theorem dX7_list_88 : decode cX7_list 88 = .ok (.ifCond .ne 10, 3) := by decide +kernel
theorem dX7_list_91 : decode cX7_list 91 = .ok (.aload_n 0, 1) := by decide +kernel
theorem dX7_list_92 : decode cX7_list 92 = .ok (.bipush (-2), 2) := by decide +kernel
theorem dX7_list_94 : decode cX7_list 94 = .ok (.invokevirtual 31, 3) := by decide +kernel
theorem dX7_list_97 : decode cX7_list 97 = .ok (.ireturn, 1) := by decide +kernel
theorem dX7_list_98 : decode cX7_list 98 = .ok (.iconst 0, 1) := by decide +kernel
theorem dX7_list_99 : decode cX7_list 99 = .ok (.istore 5, 2) := by decide +kernel
theorem dX7_list_101 : decode cX7_list 101 = .ok (.iload 5, 2) := by decide +kernel
theorem dX7_list_103 : decode cX7_list 103 = .ok (.aload_n 0, 1) := by decide +kernel
theorem dX7_list_104 : decode cX7_list 104 = .ok (.getfield 9, 3) := by decide +kernel
theorem dX7_list_107 : decode cX7_list 107 = .ok (.iconst 3, 1) := by decide +kernel
theorem dX7_list_108 : decode cX7_list 108 = .ok (.iaload, 1) := by decide +kernel
theorem dX7_list_109 : decode cX7_list 109 = .ok (.if_icmp .ge 54, 3) := by decide +kernel
theorem dX7_list_112 : decode cX7_list 112 = .ok (.aload_n 0, 1) := by decide +kernel
theorem dX7_list_113 : decode cX7_list 113 = .ok (.getfield 9, 3) := by decide +kernel
theorem dX7_list_116 : decode cX7_list 116 = .ok (.sipush 484, 3) := by decide +kernel
theorem dX7_list_119 : decode cX7_list 119 = .ok (.iload 5, 2) := by decide +kernel
theorem dX7_list_121 : decode cX7_list 121 = .ok (.iadd, 1) := by decide +kernel
theorem dX7_list_122 : decode cX7_list 122 = .ok (.iaload, 1) := by decide +kernel
theorem dX7_list_123 : decode cX7_list 123 = .ok (.iload_n 3, 1) := by decide +kernel
theorem dX7_list_124 : decode cX7_list 124 = .ok (.if_icmp .ne 33, 3) := by decide +kernel
theorem dX7_list_127 : decode cX7_list 127 = .ok (.aload_n 0, 1) := by decide +kernel
theorem dX7_list_128 : decode cX7_list 128 = .ok (.getfield 9, 3) := by decide +kernel
theorem dX7_list_131 : decode cX7_list 131 = .ok (.sipush 544, 3) := by decide +kernel
theorem dX7_list_134 : decode cX7_list 134 = .ok (.iload 5, 2) := by decide +kernel
theorem dX7_list_136 : decode cX7_list 136 = .ok (.iadd, 1) := by decide +kernel
theorem dX7_list_137 : decode cX7_list 137 = .ok (.iaload, 1) := by decide +kernel
theorem dX7_list_138 : decode cX7_list 138 = .ok (.iload_n 1, 1) := by decide +kernel
theorem dX7_list_139 : decode cX7_list 139 = .ok (.if_icmp .ne 18, 3) := by decide +kernel
theorem dX7_list_142 : decode cX7_list 142 = .ok (.aload_n 0, 1) := by decide +kernel
theorem dX7_list_143 : decode cX7_list 143 = .ok (.iload 5, 2) := by decide +kernel
theorem dX7_list_145 : decode cX7_list 145 = .ok (.iload_n 3, 1) := by decide +kernel
theorem dX7_list_146 : decode cX7_list 146 = .ok (.iload_n 1, 1) := by decide +kernel
theorem dX7_list_147 : decode cX7_list 147 = .ok (.invokevirtual 134, 3) := by decide +kernel
theorem dX7_list_150 : decode cX7_list 150 = .ok (.iload_n 2, 1) := by decide +kernel
theorem dX7_list_151 : decode cX7_list 151 = .ok (.if_icmp .ne 6, 3) := by decide +kernel
theorem dX7_list_154 : decode cX7_list 154 = .ok (.iload 5, 2) := by decide +kernel
theorem dX7_list_156 : decode cX7_list 156 = .ok (.ireturn, 1) := by decide +kernel
theorem dX7_list_157 : decode cX7_list 157 = .ok (.iinc 5 1, 3) := by decide +kernel
theorem dX7_list_160 : decode cX7_list 160 = .ok (.goto (-59), 3) := by decide +kernel
theorem dX7_list_163 : decode cX7_list 163 = .ok (.aload_n 0, 1) := by decide +kernel
theorem dX7_list_164 : decode cX7_list 164 = .ok (.bipush (-2), 2) := by decide +kernel
theorem dX7_list_166 : decode cX7_list 166 = .ok (.invokevirtual 31, 3) := by decide +kernel
theorem dX7_list_169 : decode cX7_list 169 = .ok (.ireturn, 1) := by decide +kernel
theorem dX7_aheadOf_0 : decode cX7_aheadOf 0 = .ok (.iconst 0, 1) := by decide +kernel
theorem dX7_aheadOf_1 : decode cX7_aheadOf 1 = .ok (.istore 4, 2) := by decide +kernel
theorem dX7_aheadOf_3 : decode cX7_aheadOf 3 = .ok (.iconst 0, 1) := by decide +kernel
theorem dX7_aheadOf_4 : decode cX7_aheadOf 4 = .ok (.istore 5, 2) := by decide +kernel
theorem dX7_aheadOf_6 : decode cX7_aheadOf 6 = .ok (.iload 5, 2) := by decide +kernel
theorem dX7_aheadOf_8 : decode cX7_aheadOf 8 = .ok (.aload_n 0, 1) := by decide +kernel
theorem dX7_aheadOf_9 : decode cX7_aheadOf 9 = .ok (.getfield 9, 3) := by decide +kernel
theorem dX7_aheadOf_12 : decode cX7_aheadOf 12 = .ok (.iconst 3, 1) := by decide +kernel
theorem dX7_aheadOf_13 : decode cX7_aheadOf 13 = .ok (.iaload, 1) := by decide +kernel
theorem dX7_aheadOf_14 : decode cX7_aheadOf 14 = .ok (.if_icmp .ge 127, 3) := by decide +kernel
theorem dX7_aheadOf_17 : decode cX7_aheadOf 17 = .ok (.aload_n 0, 1) := by decide +kernel
theorem dX7_aheadOf_18 : decode cX7_aheadOf 18 = .ok (.getfield 9, 3) := by decide +kernel
theorem dX7_aheadOf_21 : decode cX7_aheadOf 21 = .ok (.sipush 484, 3) := by decide +kernel
theorem dX7_aheadOf_24 : decode cX7_aheadOf 24 = .ok (.iload 5, 2) := by decide +kernel
theorem dX7_aheadOf_26 : decode cX7_aheadOf 26 = .ok (.iadd, 1) := by decide +kernel
theorem dX7_aheadOf_27 : decode cX7_aheadOf 27 = .ok (.iaload, 1) := by decide +kernel
theorem dX7_aheadOf_28 : decode cX7_aheadOf 28 = .ok (.iload_n 2, 1) := by decide +kernel
theorem dX7_aheadOf_29 : decode cX7_aheadOf 29 = .ok (.if_icmp .ne 22, 3) := by decide +kernel
theorem dX7_aheadOf_32 : decode cX7_aheadOf 32 = .ok (.aload_n 0, 1) := by decide +kernel
theorem dX7_aheadOf_33 : decode cX7_aheadOf 33 = .ok (.getfield 9, 3) := by decide +kernel
theorem dX7_aheadOf_36 : decode cX7_aheadOf 36 = .ok (.sipush 544, 3) := by decide +kernel
theorem dX7_aheadOf_39 : decode cX7_aheadOf 39 = .ok (.iload 5, 2) := by decide +kernel
theorem dX7_aheadOf_41 : decode cX7_aheadOf 41 = .ok (.iadd, 1) := by decide +kernel
theorem dX7_aheadOf_42 : decode cX7_aheadOf 42 = .ok (.iaload, 1) := by decide +kernel
theorem dX7_aheadOf_43 : decode cX7_aheadOf 43 = .ok (.iload_n 3, 1) := by decide +kernel
theorem dX7_aheadOf_44 : decode cX7_aheadOf 44 = .ok (.if_icmp .ne 7, 3) := by decide +kernel
theorem dX7_aheadOf_47 : decode cX7_aheadOf 47 = .ok (.iconst 1, 1) := by decide +kernel
theorem dX7_aheadOf_48 : decode cX7_aheadOf 48 = .ok (.goto 4, 3) := by decide +kernel
theorem dX7_aheadOf_51 : decode cX7_aheadOf 51 = .ok (.iconst 0, 1) := by decide +kernel
theorem dX7_aheadOf_52 : decode cX7_aheadOf 52 = .ok (.istore 6, 2) := by decide +kernel
theorem dX7_aheadOf_54 : decode cX7_aheadOf 54 = .ok (.aload_n 0, 1) := by decide +kernel
theorem dX7_aheadOf_55 : decode cX7_aheadOf 55 = .ok (.getfield 9, 3) := by decide +kernel
theorem dX7_aheadOf_58 : decode cX7_aheadOf 58 = .ok (.sipush 604, 3) := by decide +kernel
theorem dX7_aheadOf_61 : decode cX7_aheadOf 61 = .ok (.iload 5, 2) := by decide +kernel
theorem dX7_aheadOf_63 : decode cX7_aheadOf 63 = .ok (.iadd, 1) := by decide +kernel
theorem dX7_aheadOf_64 : decode cX7_aheadOf 64 = .ok (.iaload, 1) := by decide +kernel
theorem dX7_aheadOf_65 : decode cX7_aheadOf 65 = .ok (.aload_n 0, 1) := by decide +kernel
theorem dX7_aheadOf_66 : decode cX7_aheadOf 66 = .ok (.getfield 9, 3) := by decide +kernel
theorem dX7_aheadOf_69 : decode cX7_aheadOf 69 = .ok (.sipush 604, 3) := by decide +kernel
theorem dX7_aheadOf_72 : decode cX7_aheadOf 72 = .ok (.iload_n 1, 1) := by decide +kernel
theorem dX7_aheadOf_73 : decode cX7_aheadOf 73 = .ok (.iadd, 1) := by decide +kernel
theorem dX7_aheadOf_74 : decode cX7_aheadOf 74 = .ok (.iaload, 1) := by decide +kernel
theorem dX7_aheadOf_75 : decode cX7_aheadOf 75 = .ok (.if_icmp .lt 33, 3) := by decide +kernel
theorem dX7_aheadOf_78 : decode cX7_aheadOf 78 = .ok (.aload_n 0, 1) := by decide +kernel
theorem dX7_aheadOf_79 : decode cX7_aheadOf 79 = .ok (.getfield 9, 3) := by decide +kernel
theorem dX7_aheadOf_82 : decode cX7_aheadOf 82 = .ok (.sipush 604, 3) := by decide +kernel
theorem dX7_aheadOf_85 : decode cX7_aheadOf 85 = .ok (.iload 5, 2) := by decide +kernel
theorem dX7_aheadOf_87 : decode cX7_aheadOf 87 = .ok (.iadd, 1) := by decide +kernel
theorem dX7_aheadOf_88 : decode cX7_aheadOf 88 = .ok (.iaload, 1) := by decide +kernel
theorem dX7_aheadOf_89 : decode cX7_aheadOf 89 = .ok (.aload_n 0, 1) := by decide +kernel
theorem dX7_aheadOf_90 : decode cX7_aheadOf 90 = .ok (.getfield 9, 3) := by decide +kernel
theorem dX7_aheadOf_93 : decode cX7_aheadOf 93 = .ok (.sipush 604, 3) := by decide +kernel
theorem dX7_aheadOf_96 : decode cX7_aheadOf 96 = .ok (.iload_n 1, 1) := by decide +kernel
theorem dX7_aheadOf_97 : decode cX7_aheadOf 97 = .ok (.iadd, 1) := by decide +kernel
theorem dX7_aheadOf_98 : decode cX7_aheadOf 98 = .ok (.iaload, 1) := by decide +kernel
theorem dX7_aheadOf_99 : decode cX7_aheadOf 99 = .ok (.if_icmp .ne 13, 3) := by decide +kernel
theorem dX7_aheadOf_102 : decode cX7_aheadOf 102 = .ok (.iload 5, 2) := by decide +kernel
theorem dX7_aheadOf_104 : decode cX7_aheadOf 104 = .ok (.iload_n 1, 1) := by decide +kernel
theorem dX7_aheadOf_105 : decode cX7_aheadOf 105 = .ok (.if_icmp .ge 7, 3) := by decide +kernel
theorem dX7_aheadOf_108 : decode cX7_aheadOf 108 = .ok (.iconst 1, 1) := by decide +kernel
theorem dX7_aheadOf_109 : decode cX7_aheadOf 109 = .ok (.goto 4, 3) := by decide +kernel
theorem dX7_aheadOf_112 : decode cX7_aheadOf 112 = .ok (.iconst 0, 1) := by decide +kernel
theorem dX7_aheadOf_113 : decode cX7_aheadOf 113 = .ok (.istore 7, 2) := by decide +kernel
theorem dX7_aheadOf_115 : decode cX7_aheadOf 115 = .ok (.iload 4, 2) := by decide +kernel
theorem dX7_aheadOf_117 : decode cX7_aheadOf 117 = .ok (.iload 6, 2) := by decide +kernel
theorem dX7_aheadOf_119 : decode cX7_aheadOf 119 = .ok (.ifCond .eq 12, 3) := by decide +kernel
theorem dX7_aheadOf_122 : decode cX7_aheadOf 122 = .ok (.iload 7, 2) := by decide +kernel
theorem dX7_aheadOf_124 : decode cX7_aheadOf 124 = .ok (.ifCond .eq 7, 3) := by decide +kernel
theorem dX7_aheadOf_127 : decode cX7_aheadOf 127 = .ok (.iconst 1, 1) := by decide +kernel
theorem dX7_aheadOf_128 : decode cX7_aheadOf 128 = .ok (.goto 4, 3) := by decide +kernel
theorem dX7_aheadOf_131 : decode cX7_aheadOf 131 = .ok (.iconst 0, 1) := by decide +kernel
theorem dX7_aheadOf_132 : decode cX7_aheadOf 132 = .ok (.iadd, 1) := by decide +kernel
theorem dX7_aheadOf_133 : decode cX7_aheadOf 133 = .ok (.istore 4, 2) := by decide +kernel
theorem dX7_aheadOf_135 : decode cX7_aheadOf 135 = .ok (.iinc 5 1, 3) := by decide +kernel
theorem dX7_aheadOf_138 : decode cX7_aheadOf 138 = .ok (.goto (-132), 3) := by decide +kernel
theorem dX7_aheadOf_141 : decode cX7_aheadOf 141 = .ok (.iload 4, 2) := by decide +kernel
theorem dX7_aheadOf_143 : decode cX7_aheadOf 143 = .ok (.ireturn, 1) := by decide +kernel
theorem dX7_flown_0 : decode cX7_flown 0 = .ok (.aload_n 0, 1) := by decide +kernel
theorem dX7_flown_1 : decode cX7_flown 1 = .ok (.iload_n 1, 1) := by decide +kernel
theorem dX7_flown_2 : decode cX7_flown 2 = .ok (.invokevirtual 49, 3) := by decide +kernel
theorem dX7_flown_5 : decode cX7_flown 5 = .ok (.ifCond .eq 13, 3) := by decide +kernel
theorem dX7_flown_8 : decode cX7_flown 8 = .ok (.iload_n 2, 1) := by decide +kernel
theorem dX7_flown_9 : decode cX7_flown 9 = .ok (.iconst 0, 1) := by decide +kernel
theorem dX7_flown_10 : decode cX7_flown 10 = .ok (.bipush 6, 2) := by decide +kernel
theorem dX7_flown_12 : decode cX7_flown 12 = .ok (.invokestatic 27, 3) := by decide +kernel
theorem dX7_flown_15 : decode cX7_flown 15 = .ok (.ifCond .ne 9, 3) := by decide +kernel
theorem dX7_flown_18 : decode cX7_flown 18 = .ok (.aload_n 0, 1) := by decide +kernel
theorem dX7_flown_19 : decode cX7_flown 19 = .ok (.iconst (-1), 1) := by decide +kernel
theorem dX7_flown_20 : decode cX7_flown 20 = .ok (.invokevirtual 31, 3) := by decide +kernel
theorem dX7_flown_23 : decode cX7_flown 23 = .ok (.ireturn, 1) := by decide +kernel
theorem dX7_flown_24 : decode cX7_flown 24 = .ok (.iload_n 2, 1) := by decide +kernel
theorem dX7_flown_25 : decode cX7_flown 25 = .ok (.iconst 3, 1) := by decide +kernel
theorem dX7_flown_26 : decode cX7_flown 26 = .ok (.if_icmp .ge 35, 3) := by decide +kernel
theorem dX7_flown_29 : decode cX7_flown 29 = .ok (.aload_n 0, 1) := by decide +kernel
theorem dX7_flown_30 : decode cX7_flown 30 = .ok (.getfield 9, 3) := by decide +kernel
theorem dX7_flown_33 : decode cX7_flown 33 = .ok (.iload_n 2, 1) := by decide +kernel
theorem dX7_flown_34 : decode cX7_flown 34 = .ok (.ifCond .ne 9, 3) := by decide +kernel
theorem dX7_flown_37 : decode cX7_flown 37 = .ok (.sipush 340, 3) := by decide +kernel
theorem dX7_flown_40 : decode cX7_flown 40 = .ok (.goto 17, 3) := by decide +kernel
theorem dX7_flown_43 : decode cX7_flown 43 = .ok (.iload_n 2, 1) := by decide +kernel
theorem dX7_flown_44 : decode cX7_flown 44 = .ok (.iconst 1, 1) := by decide +kernel
theorem dX7_flown_45 : decode cX7_flown 45 = .ok (.if_icmp .ne 9, 3) := by decide +kernel
theorem dX7_flown_48 : decode cX7_flown 48 = .ok (.sipush 348, 3) := by decide +kernel
theorem dX7_flown_51 : decode cX7_flown 51 = .ok (.goto 6, 3) := by decide +kernel
theorem dX7_flown_54 : decode cX7_flown 54 = .ok (.sipush 356, 3) := by decide +kernel
theorem dX7_flown_57 : decode cX7_flown 57 = .ok (.iload_n 1, 1) := by decide +kernel
theorem dX7_flown_58 : decode cX7_flown 58 = .ok (.iadd, 1) := by decide +kernel
theorem dX7_flown_59 : decode cX7_flown 59 = .ok (.iaload, 1) := by decide +kernel
theorem dX7_flown_60 : decode cX7_flown 60 = .ok (.ireturn, 1) := by decide +kernel
theorem dX7_flown_61 : decode cX7_flown 61 = .ok (.iconst 0, 1) := by decide +kernel
theorem dX7_flown_62 : decode cX7_flown 62 = .ok (.istore_n 3, 1) := by decide +kernel
theorem dX7_flown_63 : decode cX7_flown 63 = .ok (.iconst 0, 1) := by decide +kernel
theorem dX7_flown_64 : decode cX7_flown 64 = .ok (.istore 4, 2) := by decide +kernel
theorem dX7_flown_66 : decode cX7_flown 66 = .ok (.iload 4, 2) := by decide +kernel
theorem dX7_flown_68 : decode cX7_flown 68 = .ok (.aload_n 0, 1) := by decide +kernel
theorem dX7_flown_69 : decode cX7_flown 69 = .ok (.getfield 9, 3) := by decide +kernel
theorem dX7_flown_72 : decode cX7_flown 72 = .ok (.iconst 3, 1) := by decide +kernel
theorem dX7_flown_73 : decode cX7_flown 73 = .ok (.iaload, 1) := by decide +kernel
theorem dX7_flown_74 : decode cX7_flown 74 = .ok (.if_icmp .ge 69, 3) := by decide +kernel
theorem dX7_flown_77 : decode cX7_flown 77 = .ok (.iload_n 2, 1) := by decide +kernel
theorem dX7_flown_78 : decode cX7_flown 78 = .ok (.bipush 6, 2) := by decide +kernel
theorem dX7_flown_80 : decode cX7_flown 80 = .ok (.if_icmp .eq 22, 3) := by decide +kernel
theorem dX7_flown_83 : decode cX7_flown 83 = .ok (.aload_n 0, 1) := by decide +kernel
theorem dX7_flown_84 : decode cX7_flown 84 = .ok (.getfield 9, 3) := by decide +kernel
theorem dX7_flown_87 : decode cX7_flown 87 = .ok (.sipush 484, 3) := by decide +kernel
theorem dX7_flown_90 : decode cX7_flown 90 = .ok (.iload 4, 2) := by decide +kernel
theorem dX7_flown_92 : decode cX7_flown 92 = .ok (.iadd, 1) := by decide +kernel
theorem dX7_flown_93 : decode cX7_flown 93 = .ok (.iaload, 1) := by decide +kernel
theorem dX7_flown_94 : decode cX7_flown 94 = .ok (.iconst 5, 1) := by decide +kernel
theorem dX7_flown_95 : decode cX7_flown 95 = .ok (.iload_n 2, 1) := by decide +kernel
theorem dX7_flown_96 : decode cX7_flown 96 = .ok (.iadd, 1) := by decide +kernel
theorem dX7_flown_97 : decode cX7_flown 97 = .ok (.iconst 3, 1) := by decide +kernel
theorem dX7_flown_98 : decode cX7_flown 98 = .ok (.isub, 1) := by decide +kernel
theorem dX7_flown_99 : decode cX7_flown 99 = .ok (.if_icmp .ne 7, 3) := by decide +kernel
theorem dX7_flown_102 : decode cX7_flown 102 = .ok (.iconst 1, 1) := by decide +kernel
theorem dX7_flown_103 : decode cX7_flown 103 = .ok (.goto 4, 3) := by decide +kernel
theorem dX7_flown_106 : decode cX7_flown 106 = .ok (.iconst 0, 1) := by decide +kernel
theorem dX7_flown_107 : decode cX7_flown 107 = .ok (.istore 5, 2) := by decide +kernel
theorem dX7_flown_109 : decode cX7_flown 109 = .ok (.iload_n 3, 1) := by decide +kernel
theorem dX7_flown_110 : decode cX7_flown 110 = .ok (.aload_n 0, 1) := by decide +kernel
theorem dX7_flown_111 : decode cX7_flown 111 = .ok (.getfield 9, 3) := by decide +kernel
theorem dX7_flown_114 : decode cX7_flown 114 = .ok (.sipush 364, 3) := by decide +kernel
theorem dX7_flown_117 : decode cX7_flown 117 = .ok (.iload 4, 2) := by decide +kernel
theorem dX7_flown_119 : decode cX7_flown 119 = .ok (.iadd, 1) := by decide +kernel
theorem dX7_flown_120 : decode cX7_flown 120 = .ok (.iaload, 1) := by decide +kernel
theorem dX7_flown_121 : decode cX7_flown 121 = .ok (.iload_n 1, 1) := by decide +kernel
theorem dX7_flown_122 : decode cX7_flown 122 = .ok (.if_icmp .ne 12, 3) := by decide +kernel
theorem dX7_flown_125 : decode cX7_flown 125 = .ok (.iload 5, 2) := by decide +kernel
theorem dX7_flown_127 : decode cX7_flown 127 = .ok (.ifCond .eq 7, 3) := by decide +kernel
theorem dX7_flown_130 : decode cX7_flown 130 = .ok (.iconst 1, 1) := by decide +kernel
theorem dX7_flown_131 : decode cX7_flown 131 = .ok (.goto 4, 3) := by decide +kernel
theorem dX7_flown_134 : decode cX7_flown 134 = .ok (.iconst 0, 1) := by decide +kernel
theorem dX7_flown_135 : decode cX7_flown 135 = .ok (.iadd, 1) := by decide +kernel
theorem dX7_flown_136 : decode cX7_flown 136 = .ok (.istore_n 3, 1) := by decide +kernel
theorem dX7_flown_137 : decode cX7_flown 137 = .ok (.iinc 4 1, 3) := by decide +kernel
theorem dX7_flown_140 : decode cX7_flown 140 = .ok (.goto (-74), 3) := by decide +kernel
theorem dX7_flown_143 : decode cX7_flown 143 = .ok (.iload_n 3, 1) := by decide +kernel
theorem dX7_flown_144 : decode cX7_flown 144 = .ok (.ireturn, 1) := by decide +kernel
theorem dX7_count_0 : decode cX7_count 0 = .ok (.iload_n 1, 1) := by decide +kernel
theorem dX7_count_1 : decode cX7_count 1 = .ok (.iconst 0, 1) := by decide +kernel
theorem dX7_count_2 : decode cX7_count 2 = .ok (.bipush 14, 2) := by decide +kernel
theorem dX7_count_4 : decode cX7_count 4 = .ok (.invokestatic 27, 3) := by decide +kernel
theorem dX7_count_7 : decode cX7_count 7 = .ok (.ifCond .ne 9, 3) := by decide +kernel
theorem dX7_count_10 : decode cX7_count 10 = .ok (.aload_n 0, 1) := by decide +kernel
theorem dX7_count_11 : decode cX7_count 11 = .ok (.iconst (-1), 1) := by decide +kernel
theorem dX7_count_12 : decode cX7_count 12 = .ok (.invokevirtual 31, 3) := by decide +kernel
theorem dX7_count_15 : decode cX7_count 15 = .ok (.ireturn, 1) := by decide +kernel
theorem dX7_count_16 : decode cX7_count 16 = .ok (.iconst 0, 1) := by decide +kernel
theorem dX7_count_17 : decode cX7_count 17 = .ok (.istore_n 2, 1) := by decide +kernel
theorem dX7_count_18 : decode cX7_count 18 = .ok (.iconst 0, 1) := by decide +kernel
theorem dX7_count_19 : decode cX7_count 19 = .ok (.istore_n 3, 1) := by decide +kernel
theorem dX7_count_20 : decode cX7_count 20 = .ok (.iload_n 3, 1) := by decide +kernel
theorem dX7_count_21 : decode cX7_count 21 = .ok (.aload_n 0, 1) := by decide +kernel
theorem dX7_count_22 : decode cX7_count 22 = .ok (.getfield 9, 3) := by decide +kernel
theorem dX7_count_25 : decode cX7_count 25 = .ok (.iconst 3, 1) := by decide +kernel
theorem dX7_count_26 : decode cX7_count 26 = .ok (.iaload, 1) := by decide +kernel
theorem dX7_count_27 : decode cX7_count 27 = .ok (.if_icmp .ge 31, 3) := by decide +kernel
theorem dX7_count_30 : decode cX7_count 30 = .ok (.iload_n 2, 1) := by decide +kernel
theorem dX7_count_31 : decode cX7_count 31 = .ok (.aload_n 0, 1) := by decide +kernel
theorem dX7_count_32 : decode cX7_count 32 = .ok (.getfield 9, 3) := by decide +kernel
theorem dX7_count_35 : decode cX7_count 35 = .ok (.sipush 484, 3) := by decide +kernel
theorem dX7_count_38 : decode cX7_count 38 = .ok (.iload_n 3, 1) := by decide +kernel
theorem dX7_count_39 : decode cX7_count 39 = .ok (.iadd, 1) := by decide +kernel
theorem dX7_count_40 : decode cX7_count 40 = .ok (.iaload, 1) := by decide +kernel
theorem dX7_count_41 : decode cX7_count 41 = .ok (.iload_n 1, 1) := by decide +kernel
theorem dX7_count_42 : decode cX7_count 42 = .ok (.if_icmp .ne 7, 3) := by decide +kernel
theorem dX7_count_45 : decode cX7_count 45 = .ok (.iconst 1, 1) := by decide +kernel
theorem dX7_count_46 : decode cX7_count 46 = .ok (.goto 4, 3) := by decide +kernel
theorem dX7_count_49 : decode cX7_count 49 = .ok (.iconst 0, 1) := by decide +kernel
theorem dX7_count_50 : decode cX7_count 50 = .ok (.iadd, 1) := by decide +kernel
theorem dX7_count_51 : decode cX7_count 51 = .ok (.istore_n 2, 1) := by decide +kernel
theorem dX7_count_52 : decode cX7_count 52 = .ok (.iinc 3 1, 3) := by decide +kernel
theorem dX7_count_55 : decode cX7_count 55 = .ok (.goto (-35), 3) := by decide +kernel
theorem dX7_count_58 : decode cX7_count 58 = .ok (.iload_n 1, 1) := by decide +kernel
theorem dX7_count_59 : decode cX7_count 59 = .ok (.tableswitch 113 8 14 #[41, 48, 55, 62, 69, 101, 108], 41) := by decide +kernel
theorem dX7_count_100 : decode cX7_count 100 = .ok (.aload_n 0, 1) := by decide +kernel
theorem dX7_count_101 : decode cX7_count 101 = .ok (.getfield 9, 3) := by decide +kernel
theorem dX7_count_104 : decode cX7_count 104 = .ok (.iconst 3, 1) := by decide +kernel
theorem dX7_count_105 : decode cX7_count 105 = .ok (.iaload, 1) := by decide +kernel
theorem dX7_count_106 : decode cX7_count 106 = .ok (.ireturn, 1) := by decide +kernel
theorem dX7_count_107 : decode cX7_count 107 = .ok (.aload_n 0, 1) := by decide +kernel
theorem dX7_count_108 : decode cX7_count 108 = .ok (.getfield 9, 3) := by decide +kernel
theorem dX7_count_111 : decode cX7_count 111 = .ok (.iconst 0, 1) := by decide +kernel
theorem dX7_count_112 : decode cX7_count 112 = .ok (.iaload, 1) := by decide +kernel
theorem dX7_count_113 : decode cX7_count 113 = .ok (.ireturn, 1) := by decide +kernel
theorem dX7_count_114 : decode cX7_count 114 = .ok (.aload_n 0, 1) := by decide +kernel
theorem dX7_count_115 : decode cX7_count 115 = .ok (.getfield 9, 3) := by decide +kernel
theorem dX7_count_118 : decode cX7_count 118 = .ok (.iconst 1, 1) := by decide +kernel
theorem dX7_count_119 : decode cX7_count 119 = .ok (.iaload, 1) := by decide +kernel
theorem dX7_count_120 : decode cX7_count 120 = .ok (.ireturn, 1) := by decide +kernel
theorem dX7_count_121 : decode cX7_count 121 = .ok (.aload_n 0, 1) := by decide +kernel
theorem dX7_count_122 : decode cX7_count 122 = .ok (.getfield 9, 3) := by decide +kernel
theorem dX7_count_125 : decode cX7_count 125 = .ok (.iconst 2, 1) := by decide +kernel
theorem dX7_count_126 : decode cX7_count 126 = .ok (.iaload, 1) := by decide +kernel
theorem dX7_count_127 : decode cX7_count 127 = .ok (.ireturn, 1) := by decide +kernel
theorem dX7_count_128 : decode cX7_count 128 = .ok (.iconst 0, 1) := by decide +kernel
theorem dX7_count_129 : decode cX7_count 129 = .ok (.istore_n 3, 1) := by decide +kernel
theorem dX7_count_130 : decode cX7_count 130 = .ok (.iload_n 3, 1) := by decide +kernel
theorem dX7_count_131 : decode cX7_count 131 = .ok (.aload_n 0, 1) := by decide +kernel
theorem dX7_count_132 : decode cX7_count 132 = .ok (.getfield 9, 3) := by decide +kernel
theorem dX7_count_135 : decode cX7_count 135 = .ok (.iconst 1, 1) := by decide +kernel
theorem dX7_count_136 : decode cX7_count 136 = .ok (.iaload, 1) := by decide +kernel
theorem dX7_count_137 : decode cX7_count 137 = .ok (.if_icmp .ge 21, 3) := by decide +kernel
theorem dX7_count_140 : decode cX7_count 140 = .ok (.iload_n 2, 1) := by decide +kernel
theorem dX7_count_141 : decode cX7_count 141 = .ok (.aload_n 0, 1) := by decide +kernel
theorem dX7_count_142 : decode cX7_count 142 = .ok (.getfield 9, 3) := by decide +kernel
theorem dX7_count_145 : decode cX7_count 145 = .ok (.bipush 116, 2) := by decide +kernel
theorem dX7_count_147 : decode cX7_count 147 = .ok (.iload_n 3, 1) := by decide +kernel
theorem dX7_count_148 : decode cX7_count 148 = .ok (.iadd, 1) := by decide +kernel
theorem dX7_count_149 : decode cX7_count 149 = .ok (.iaload, 1) := by decide +kernel
theorem dX7_count_150 : decode cX7_count 150 = .ok (.iadd, 1) := by decide +kernel
theorem dX7_count_151 : decode cX7_count 151 = .ok (.istore_n 2, 1) := by decide +kernel
theorem dX7_count_152 : decode cX7_count 152 = .ok (.iinc 3 1, 3) := by decide +kernel
theorem dX7_count_155 : decode cX7_count 155 = .ok (.goto (-25), 3) := by decide +kernel
theorem dX7_count_158 : decode cX7_count 158 = .ok (.iload_n 2, 1) := by decide +kernel
theorem dX7_count_159 : decode cX7_count 159 = .ok (.ireturn, 1) := by decide +kernel
theorem dX7_count_160 : decode cX7_count 160 = .ok (.aload_n 0, 1) := by decide +kernel
theorem dX7_count_161 : decode cX7_count 161 = .ok (.getfield 9, 3) := by decide +kernel
theorem dX7_count_164 : decode cX7_count 164 = .ok (.iconst 4, 1) := by decide +kernel
theorem dX7_count_165 : decode cX7_count 165 = .ok (.iaload, 1) := by decide +kernel
theorem dX7_count_166 : decode cX7_count 166 = .ok (.ireturn, 1) := by decide +kernel
theorem dX7_count_167 : decode cX7_count 167 = .ok (.aload_n 0, 1) := by decide +kernel
theorem dX7_count_168 : decode cX7_count 168 = .ok (.getfield 23, 3) := by decide +kernel
theorem dX7_count_171 : decode cX7_count 171 = .ok (.ireturn, 1) := by decide +kernel
theorem dX7_count_172 : decode cX7_count 172 = .ok (.iload_n 2, 1) := by decide +kernel
theorem dX7_count_173 : decode cX7_count 173 = .ok (.ireturn, 1) := by decide +kernel
theorem dX7_keep_0 : decode cX7_keep 0 = .ok (.iconst 0, 1) := by decide +kernel
theorem dX7_keep_1 : decode cX7_keep 1 = .ok (.istore_n 1, 1) := by decide +kernel
theorem dX7_keep_2 : decode cX7_keep 2 = .ok (.iload_n 1, 1) := by decide +kernel
theorem dX7_keep_3 : decode cX7_keep 3 = .ok (.sipush 4324, 3) := by decide +kernel
theorem dX7_keep_6 : decode cX7_keep 6 = .ok (.if_icmp .ge 21, 3) := by decide +kernel
theorem dX7_keep_9 : decode cX7_keep 9 = .ok (.aload_n 0, 1) := by decide +kernel
theorem dX7_keep_10 : decode cX7_keep 10 = .ok (.getfield 13, 3) := by decide +kernel
theorem dX7_keep_13 : decode cX7_keep 13 = .ok (.iload_n 1, 1) := by decide +kernel
theorem dX7_keep_14 : decode cX7_keep 14 = .ok (.aload_n 0, 1) := by decide +kernel
theorem dX7_keep_15 : decode cX7_keep 15 = .ok (.getfield 9, 3) := by decide +kernel
theorem dX7_keep_18 : decode cX7_keep 18 = .ok (.iload_n 1, 1) := by decide +kernel
theorem dX7_keep_19 : decode cX7_keep 19 = .ok (.iaload, 1) := by decide +kernel
theorem dX7_keep_20 : decode cX7_keep 20 = .ok (.iastore, 1) := by decide +kernel
theorem dX7_keep_21 : decode cX7_keep 21 = .ok (.iinc 1 1, 3) := by decide +kernel
theorem dX7_keep_24 : decode cX7_keep 24 = .ok (.goto (-22), 3) := by decide +kernel
theorem dX7_keep_27 : decode cX7_keep 27 = .ok (.aload_n 0, 1) := by decide +kernel
theorem dX7_keep_28 : decode cX7_keep 28 = .ok (.iconst 1, 1) := by decide +kernel
theorem dX7_keep_29 : decode cX7_keep 29 = .ok (.putfield 138, 3) := by decide +kernel
theorem dX7_keep_32 : decode cX7_keep 32 = .ok (.aload_n 0, 1) := by decide +kernel
theorem dX7_keep_33 : decode cX7_keep 33 = .ok (.getfield 9, 3) := by decide +kernel
theorem dX7_keep_36 : decode cX7_keep 36 = .ok (.iconst 4, 1) := by decide +kernel
theorem dX7_keep_37 : decode cX7_keep 37 = .ok (.iaload, 1) := by decide +kernel
theorem dX7_keep_38 : decode cX7_keep 38 = .ok (.ireturn, 1) := by decide +kernel
theorem dX7_back_0 : decode cX7_back 0 = .ok (.aload_n 0, 1) := by decide +kernel
theorem dX7_back_1 : decode cX7_back 1 = .ok (.getfield 138, 3) := by decide +kernel
theorem dX7_back_4 : decode cX7_back 4 = .ok (.ifCond .ne 10, 3) := by decide +kernel
theorem dX7_back_7 : decode cX7_back 7 = .ok (.aload_n 0, 1) := by decide +kernel
theorem dX7_back_8 : decode cX7_back 8 = .ok (.bipush (-2), 2) := by decide +kernel
theorem dX7_back_10 : decode cX7_back 10 = .ok (.invokevirtual 31, 3) := by decide +kernel
theorem dX7_back_13 : decode cX7_back 13 = .ok (.ireturn, 1) := by decide +kernel
theorem dX7_back_14 : decode cX7_back 14 = .ok (.iconst 0, 1) := by decide +kernel
theorem dX7_back_15 : decode cX7_back 15 = .ok (.istore_n 1, 1) := by decide +kernel
theorem dX7_back_16 : decode cX7_back 16 = .ok (.iload_n 1, 1) := by decide +kernel
theorem dX7_back_17 : decode cX7_back 17 = .ok (.sipush 4324, 3) := by decide +kernel
theorem dX7_back_20 : decode cX7_back 20 = .ok (.if_icmp .ge 21, 3) := by decide +kernel
theorem dX7_back_23 : decode cX7_back 23 = .ok (.aload_n 0, 1) := by decide +kernel
theorem dX7_back_24 : decode cX7_back 24 = .ok (.getfield 9, 3) := by decide +kernel
theorem dX7_back_27 : decode cX7_back 27 = .ok (.iload_n 1, 1) := by decide +kernel
theorem dX7_back_28 : decode cX7_back 28 = .ok (.aload_n 0, 1) := by decide +kernel
theorem dX7_back_29 : decode cX7_back 29 = .ok (.getfield 13, 3) := by decide +kernel
theorem dX7_back_32 : decode cX7_back 32 = .ok (.iload_n 1, 1) := by decide +kernel
theorem dX7_back_33 : decode cX7_back 33 = .ok (.iaload, 1) := by decide +kernel
theorem dX7_back_34 : decode cX7_back 34 = .ok (.iastore, 1) := by decide +kernel
theorem dX7_back_35 : decode cX7_back 35 = .ok (.iinc 1 1, 3) := by decide +kernel
theorem dX7_back_38 : decode cX7_back 38 = .ok (.goto (-22), 3) := by decide +kernel
theorem dX7_back_41 : decode cX7_back 41 = .ok (.aload_n 0, 1) := by decide +kernel
theorem dX7_back_42 : decode cX7_back 42 = .ok (.getfield 9, 3) := by decide +kernel
theorem dX7_back_45 : decode cX7_back 45 = .ok (.iconst 4, 1) := by decide +kernel
theorem dX7_back_46 : decode cX7_back 46 = .ok (.iaload, 1) := by decide +kernel
theorem dX7_back_47 : decode cX7_back 47 = .ok (.ireturn, 1) := by decide +kernel
end
section
theorem dL_law_0 : decode cL_law 0 = .ok (.new 7, 3) := by decide +kernel
theorem dL_law_3 : decode cL_law 3 = .ok (.dup, 1) := by decide +kernel
theorem dL_law_4 : decode cL_law 4 = .ok (.invokespecial 9, 3) := by decide +kernel
theorem dL_law_7 : decode cL_law 7 = .ok (.astore_n 1, 1) := by decide +kernel
theorem dL_law_8 : decode cL_law 8 = .ok (.new 10, 3) := by decide +kernel
theorem dL_law_11 : decode cL_law 11 = .ok (.dup, 1) := by decide +kernel
theorem dL_law_12 : decode cL_law 12 = .ok (.invokespecial 12, 3) := by decide +kernel
theorem dL_law_15 : decode cL_law 15 = .ok (.astore_n 2, 1) := by decide +kernel
theorem dL_law_16 : decode cL_law 16 = .ok (.iconst 0, 1) := by decide +kernel
theorem dL_law_17 : decode cL_law 17 = .ok (.istore_n 3, 1) := by decide +kernel
theorem dL_law_18 : decode cL_law 18 = .ok (.iload_n 3, 1) := by decide +kernel
theorem dL_law_19 : decode cL_law 19 = .ok (.aload_n 0, 1) := by decide +kernel
theorem dL_law_20 : decode cL_law 20 = .ok (.arraylength, 1) := by decide +kernel
theorem dL_law_21 : decode cL_law 21 = .ok (.iconst 4, 1) := by decide +kernel
theorem dL_law_22 : decode cL_law 22 = .ok (.isub, 1) := by decide +kernel
theorem dL_law_23 : decode cL_law 23 = .ok (.if_icmp .gt 913, 3) := by decide +kernel
theorem dL_law_26 : decode cL_law 26 = .ok (.aload_n 0, 1) := by decide +kernel
theorem dL_law_27 : decode cL_law 27 = .ok (.iload_n 3, 1) := by decide +kernel
theorem dL_law_28 : decode cL_law 28 = .ok (.iaload, 1) := by decide +kernel
theorem dL_law_29 : decode cL_law 29 = .ok (.bipush 31, 2) := by decide +kernel
theorem dL_law_31 : decode cL_law 31 = .ok (.iand, 1) := by decide +kernel
theorem dL_law_32 : decode cL_law 32 = .ok (.tableswitch 898 0 23 #[112, 145, 188, 221, 254, 297, 346, 405, 428, 487, 510, 533, 556, 579, 638, 661, 694, 717, 750, 783, 816, 849, 872, 885], 112) := by decide +kernel
theorem dL_law_144 : decode cL_law 144 = .ok (.aload_n 1, 1) := by decide +kernel
theorem dL_law_145 : decode cL_law 145 = .ok (.aload_n 0, 1) := by decide +kernel
theorem dL_law_146 : decode cL_law 146 = .ok (.iload_n 3, 1) := by decide +kernel
theorem dL_law_147 : decode cL_law 147 = .ok (.iconst 1, 1) := by decide +kernel
theorem dL_law_148 : decode cL_law 148 = .ok (.iadd, 1) := by decide +kernel
theorem dL_law_149 : decode cL_law 149 = .ok (.iaload, 1) := by decide +kernel
theorem dL_law_150 : decode cL_law 150 = .ok (.aload_n 0, 1) := by decide +kernel
theorem dL_law_151 : decode cL_law 151 = .ok (.iload_n 3, 1) := by decide +kernel
theorem dL_law_152 : decode cL_law 152 = .ok (.iconst 2, 1) := by decide +kernel
theorem dL_law_153 : decode cL_law 153 = .ok (.iadd, 1) := by decide +kernel
theorem dL_law_154 : decode cL_law 154 = .ok (.iaload, 1) := by decide +kernel
theorem dL_law_155 : decode cL_law 155 = .ok (.invokevirtual 13, 3) := by decide +kernel
theorem dL_law_158 : decode cL_law 158 = .ok (.aload_n 2, 1) := by decide +kernel
theorem dL_law_159 : decode cL_law 159 = .ok (.aload_n 0, 1) := by decide +kernel
theorem dL_law_160 : decode cL_law 160 = .ok (.iload_n 3, 1) := by decide +kernel
theorem dL_law_161 : decode cL_law 161 = .ok (.iconst 1, 1) := by decide +kernel
theorem dL_law_162 : decode cL_law 162 = .ok (.iadd, 1) := by decide +kernel
theorem dL_law_163 : decode cL_law 163 = .ok (.iaload, 1) := by decide +kernel
theorem dL_law_164 : decode cL_law 164 = .ok (.aload_n 0, 1) := by decide +kernel
theorem dL_law_165 : decode cL_law 165 = .ok (.iload_n 3, 1) := by decide +kernel
theorem dL_law_166 : decode cL_law 166 = .ok (.iconst 2, 1) := by decide +kernel
theorem dL_law_167 : decode cL_law 167 = .ok (.iadd, 1) := by decide +kernel
theorem dL_law_168 : decode cL_law 168 = .ok (.iaload, 1) := by decide +kernel
theorem dL_law_169 : decode cL_law 169 = .ok (.invokevirtual 17, 3) := by decide +kernel
theorem dL_law_172 : decode cL_law 172 = .ok (.if_icmp .eq 758, 3) := by decide +kernel
theorem dL_law_175 : decode cL_law 175 = .ok (.iconst 0, 1) := by decide +kernel
theorem dL_law_176 : decode cL_law 176 = .ok (.ireturn, 1) := by decide +kernel
theorem dL_law_177 : decode cL_law 177 = .ok (.aload_n 1, 1) := by decide +kernel
theorem dL_law_178 : decode cL_law 178 = .ok (.aload_n 0, 1) := by decide +kernel
theorem dL_law_179 : decode cL_law 179 = .ok (.iload_n 3, 1) := by decide +kernel
theorem dL_law_180 : decode cL_law 180 = .ok (.iconst 1, 1) := by decide +kernel
theorem dL_law_181 : decode cL_law 181 = .ok (.iadd, 1) := by decide +kernel
theorem dL_law_182 : decode cL_law 182 = .ok (.iaload, 1) := by decide +kernel
theorem dL_law_183 : decode cL_law 183 = .ok (.aload_n 0, 1) := by decide +kernel
theorem dL_law_184 : decode cL_law 184 = .ok (.iload_n 3, 1) := by decide +kernel
theorem dL_law_185 : decode cL_law 185 = .ok (.iconst 2, 1) := by decide +kernel
theorem dL_law_186 : decode cL_law 186 = .ok (.iadd, 1) := by decide +kernel
theorem dL_law_187 : decode cL_law 187 = .ok (.iaload, 1) := by decide +kernel
theorem dL_law_188 : decode cL_law 188 = .ok (.aload_n 0, 1) := by decide +kernel
theorem dL_law_189 : decode cL_law 189 = .ok (.iload_n 3, 1) := by decide +kernel
theorem dL_law_190 : decode cL_law 190 = .ok (.iconst 3, 1) := by decide +kernel
theorem dL_law_191 : decode cL_law 191 = .ok (.iadd, 1) := by decide +kernel
theorem dL_law_192 : decode cL_law 192 = .ok (.iaload, 1) := by decide +kernel
theorem dL_law_193 : decode cL_law 193 = .ok (.invokevirtual 18, 3) := by decide +kernel
theorem dL_law_196 : decode cL_law 196 = .ok (.aload_n 2, 1) := by decide +kernel
theorem dL_law_197 : decode cL_law 197 = .ok (.aload_n 0, 1) := by decide +kernel
theorem dL_law_198 : decode cL_law 198 = .ok (.iload_n 3, 1) := by decide +kernel
theorem dL_law_199 : decode cL_law 199 = .ok (.iconst 1, 1) := by decide +kernel
theorem dL_law_200 : decode cL_law 200 = .ok (.iadd, 1) := by decide +kernel
theorem dL_law_201 : decode cL_law 201 = .ok (.iaload, 1) := by decide +kernel
theorem dL_law_202 : decode cL_law 202 = .ok (.aload_n 0, 1) := by decide +kernel
theorem dL_law_203 : decode cL_law 203 = .ok (.iload_n 3, 1) := by decide +kernel
theorem dL_law_204 : decode cL_law 204 = .ok (.iconst 2, 1) := by decide +kernel
theorem dL_law_205 : decode cL_law 205 = .ok (.iadd, 1) := by decide +kernel
theorem dL_law_206 : decode cL_law 206 = .ok (.iaload, 1) := by decide +kernel
theorem dL_law_207 : decode cL_law 207 = .ok (.aload_n 0, 1) := by decide +kernel
theorem dL_law_208 : decode cL_law 208 = .ok (.iload_n 3, 1) := by decide +kernel
theorem dL_law_209 : decode cL_law 209 = .ok (.iconst 3, 1) := by decide +kernel
theorem dL_law_210 : decode cL_law 210 = .ok (.iadd, 1) := by decide +kernel
theorem dL_law_211 : decode cL_law 211 = .ok (.iaload, 1) := by decide +kernel
theorem dL_law_212 : decode cL_law 212 = .ok (.invokevirtual 22, 3) := by decide +kernel
theorem dL_law_215 : decode cL_law 215 = .ok (.if_icmp .eq 715, 3) := by decide +kernel
theorem dL_law_218 : decode cL_law 218 = .ok (.iconst 0, 1) := by decide +kernel
theorem dL_law_219 : decode cL_law 219 = .ok (.ireturn, 1) := by decide +kernel
theorem dL_law_220 : decode cL_law 220 = .ok (.aload_n 1, 1) := by decide +kernel
theorem dL_law_221 : decode cL_law 221 = .ok (.aload_n 0, 1) := by decide +kernel
theorem dL_law_222 : decode cL_law 222 = .ok (.iload_n 3, 1) := by decide +kernel
theorem dL_law_223 : decode cL_law 223 = .ok (.iconst 1, 1) := by decide +kernel
theorem dL_law_224 : decode cL_law 224 = .ok (.iadd, 1) := by decide +kernel
theorem dL_law_225 : decode cL_law 225 = .ok (.iaload, 1) := by decide +kernel
theorem dL_law_226 : decode cL_law 226 = .ok (.aload_n 0, 1) := by decide +kernel
theorem dL_law_227 : decode cL_law 227 = .ok (.iload_n 3, 1) := by decide +kernel
theorem dL_law_228 : decode cL_law 228 = .ok (.iconst 2, 1) := by decide +kernel
theorem dL_law_229 : decode cL_law 229 = .ok (.iadd, 1) := by decide +kernel
theorem dL_law_230 : decode cL_law 230 = .ok (.iaload, 1) := by decide +kernel
theorem dL_law_231 : decode cL_law 231 = .ok (.invokevirtual 23, 3) := by decide +kernel
theorem dL_law_234 : decode cL_law 234 = .ok (.aload_n 2, 1) := by decide +kernel
theorem dL_law_235 : decode cL_law 235 = .ok (.aload_n 0, 1) := by decide +kernel
theorem dL_law_236 : decode cL_law 236 = .ok (.iload_n 3, 1) := by decide +kernel
theorem dL_law_237 : decode cL_law 237 = .ok (.iconst 1, 1) := by decide +kernel
theorem dL_law_238 : decode cL_law 238 = .ok (.iadd, 1) := by decide +kernel
theorem dL_law_239 : decode cL_law 239 = .ok (.iaload, 1) := by decide +kernel
theorem dL_law_240 : decode cL_law 240 = .ok (.aload_n 0, 1) := by decide +kernel
theorem dL_law_241 : decode cL_law 241 = .ok (.iload_n 3, 1) := by decide +kernel
theorem dL_law_242 : decode cL_law 242 = .ok (.iconst 2, 1) := by decide +kernel
theorem dL_law_243 : decode cL_law 243 = .ok (.iadd, 1) := by decide +kernel
theorem dL_law_244 : decode cL_law 244 = .ok (.iaload, 1) := by decide +kernel
theorem dL_law_245 : decode cL_law 245 = .ok (.invokevirtual 26, 3) := by decide +kernel
theorem dL_law_248 : decode cL_law 248 = .ok (.if_icmp .eq 682, 3) := by decide +kernel
theorem dL_law_251 : decode cL_law 251 = .ok (.iconst 0, 1) := by decide +kernel
theorem dL_law_252 : decode cL_law 252 = .ok (.ireturn, 1) := by decide +kernel
theorem dL_law_253 : decode cL_law 253 = .ok (.aload_n 1, 1) := by decide +kernel
theorem dL_law_254 : decode cL_law 254 = .ok (.aload_n 0, 1) := by decide +kernel
theorem dL_law_255 : decode cL_law 255 = .ok (.iload_n 3, 1) := by decide +kernel
theorem dL_law_256 : decode cL_law 256 = .ok (.iconst 1, 1) := by decide +kernel
theorem dL_law_257 : decode cL_law 257 = .ok (.iadd, 1) := by decide +kernel
theorem dL_law_258 : decode cL_law 258 = .ok (.iaload, 1) := by decide +kernel
theorem dL_law_259 : decode cL_law 259 = .ok (.aload_n 0, 1) := by decide +kernel
theorem dL_law_260 : decode cL_law 260 = .ok (.iload_n 3, 1) := by decide +kernel
theorem dL_law_261 : decode cL_law 261 = .ok (.iconst 2, 1) := by decide +kernel
theorem dL_law_262 : decode cL_law 262 = .ok (.iadd, 1) := by decide +kernel
theorem dL_law_263 : decode cL_law 263 = .ok (.iaload, 1) := by decide +kernel
theorem dL_law_264 : decode cL_law 264 = .ok (.invokevirtual 27, 3) := by decide +kernel
theorem dL_law_267 : decode cL_law 267 = .ok (.aload_n 2, 1) := by decide +kernel
theorem dL_law_268 : decode cL_law 268 = .ok (.aload_n 0, 1) := by decide +kernel
theorem dL_law_269 : decode cL_law 269 = .ok (.iload_n 3, 1) := by decide +kernel
theorem dL_law_270 : decode cL_law 270 = .ok (.iconst 1, 1) := by decide +kernel
theorem dL_law_271 : decode cL_law 271 = .ok (.iadd, 1) := by decide +kernel
theorem dL_law_272 : decode cL_law 272 = .ok (.iaload, 1) := by decide +kernel
theorem dL_law_273 : decode cL_law 273 = .ok (.aload_n 0, 1) := by decide +kernel
theorem dL_law_274 : decode cL_law 274 = .ok (.iload_n 3, 1) := by decide +kernel
theorem dL_law_275 : decode cL_law 275 = .ok (.iconst 2, 1) := by decide +kernel
theorem dL_law_276 : decode cL_law 276 = .ok (.iadd, 1) := by decide +kernel
theorem dL_law_277 : decode cL_law 277 = .ok (.iaload, 1) := by decide +kernel
theorem dL_law_278 : decode cL_law 278 = .ok (.invokevirtual 30, 3) := by decide +kernel
theorem dL_law_281 : decode cL_law 281 = .ok (.if_icmp .eq 649, 3) := by decide +kernel
theorem dL_law_284 : decode cL_law 284 = .ok (.iconst 0, 1) := by decide +kernel
theorem dL_law_285 : decode cL_law 285 = .ok (.ireturn, 1) := by decide +kernel
theorem dL_law_286 : decode cL_law 286 = .ok (.aload_n 1, 1) := by decide +kernel
theorem dL_law_287 : decode cL_law 287 = .ok (.aload_n 0, 1) := by decide +kernel
theorem dL_law_288 : decode cL_law 288 = .ok (.iload_n 3, 1) := by decide +kernel
theorem dL_law_289 : decode cL_law 289 = .ok (.iconst 1, 1) := by decide +kernel
theorem dL_law_290 : decode cL_law 290 = .ok (.iadd, 1) := by decide +kernel
theorem dL_law_291 : decode cL_law 291 = .ok (.iaload, 1) := by decide +kernel
theorem dL_law_292 : decode cL_law 292 = .ok (.aload_n 0, 1) := by decide +kernel
theorem dL_law_293 : decode cL_law 293 = .ok (.iload_n 3, 1) := by decide +kernel
theorem dL_law_294 : decode cL_law 294 = .ok (.iconst 2, 1) := by decide +kernel
theorem dL_law_295 : decode cL_law 295 = .ok (.iadd, 1) := by decide +kernel
theorem dL_law_296 : decode cL_law 296 = .ok (.iaload, 1) := by decide +kernel
theorem dL_law_297 : decode cL_law 297 = .ok (.aload_n 0, 1) := by decide +kernel
theorem dL_law_298 : decode cL_law 298 = .ok (.iload_n 3, 1) := by decide +kernel
theorem dL_law_299 : decode cL_law 299 = .ok (.iconst 3, 1) := by decide +kernel
theorem dL_law_300 : decode cL_law 300 = .ok (.iadd, 1) := by decide +kernel
theorem dL_law_301 : decode cL_law 301 = .ok (.iaload, 1) := by decide +kernel
theorem dL_law_302 : decode cL_law 302 = .ok (.invokevirtual 31, 3) := by decide +kernel
theorem dL_law_305 : decode cL_law 305 = .ok (.aload_n 2, 1) := by decide +kernel
theorem dL_law_306 : decode cL_law 306 = .ok (.aload_n 0, 1) := by decide +kernel
theorem dL_law_307 : decode cL_law 307 = .ok (.iload_n 3, 1) := by decide +kernel
theorem dL_law_308 : decode cL_law 308 = .ok (.iconst 1, 1) := by decide +kernel
theorem dL_law_309 : decode cL_law 309 = .ok (.iadd, 1) := by decide +kernel
theorem dL_law_310 : decode cL_law 310 = .ok (.iaload, 1) := by decide +kernel
theorem dL_law_311 : decode cL_law 311 = .ok (.aload_n 0, 1) := by decide +kernel
theorem dL_law_312 : decode cL_law 312 = .ok (.iload_n 3, 1) := by decide +kernel
theorem dL_law_313 : decode cL_law 313 = .ok (.iconst 2, 1) := by decide +kernel
theorem dL_law_314 : decode cL_law 314 = .ok (.iadd, 1) := by decide +kernel
theorem dL_law_315 : decode cL_law 315 = .ok (.iaload, 1) := by decide +kernel
theorem dL_law_316 : decode cL_law 316 = .ok (.aload_n 0, 1) := by decide +kernel
theorem dL_law_317 : decode cL_law 317 = .ok (.iload_n 3, 1) := by decide +kernel
theorem dL_law_318 : decode cL_law 318 = .ok (.iconst 3, 1) := by decide +kernel
theorem dL_law_319 : decode cL_law 319 = .ok (.iadd, 1) := by decide +kernel
theorem dL_law_320 : decode cL_law 320 = .ok (.iaload, 1) := by decide +kernel
theorem dL_law_321 : decode cL_law 321 = .ok (.invokevirtual 34, 3) := by decide +kernel
theorem dL_law_324 : decode cL_law 324 = .ok (.if_icmp .eq 606, 3) := by decide +kernel
theorem dL_law_327 : decode cL_law 327 = .ok (.iconst 0, 1) := by decide +kernel
theorem dL_law_328 : decode cL_law 328 = .ok (.ireturn, 1) := by decide +kernel
theorem dL_law_329 : decode cL_law 329 = .ok (.aload_n 1, 1) := by decide +kernel
theorem dL_law_330 : decode cL_law 330 = .ok (.aload_n 0, 1) := by decide +kernel
theorem dL_law_331 : decode cL_law 331 = .ok (.iload_n 3, 1) := by decide +kernel
theorem dL_law_332 : decode cL_law 332 = .ok (.iconst 1, 1) := by decide +kernel
theorem dL_law_333 : decode cL_law 333 = .ok (.iadd, 1) := by decide +kernel
theorem dL_law_334 : decode cL_law 334 = .ok (.iaload, 1) := by decide +kernel
theorem dL_law_335 : decode cL_law 335 = .ok (.aload_n 0, 1) := by decide +kernel
theorem dL_law_336 : decode cL_law 336 = .ok (.iload_n 3, 1) := by decide +kernel
theorem dL_law_337 : decode cL_law 337 = .ok (.iconst 2, 1) := by decide +kernel
theorem dL_law_338 : decode cL_law 338 = .ok (.iadd, 1) := by decide +kernel
theorem dL_law_339 : decode cL_law 339 = .ok (.iaload, 1) := by decide +kernel
theorem dL_law_340 : decode cL_law 340 = .ok (.ifCond .eq 7, 3) := by decide +kernel
theorem dL_law_343 : decode cL_law 343 = .ok (.iconst 1, 1) := by decide +kernel
theorem dL_law_344 : decode cL_law 344 = .ok (.goto 4, 3) := by decide +kernel
theorem dL_law_347 : decode cL_law 347 = .ok (.iconst 0, 1) := by decide +kernel
theorem dL_law_348 : decode cL_law 348 = .ok (.invokevirtual 35, 3) := by decide +kernel
theorem dL_law_351 : decode cL_law 351 = .ok (.aload_n 2, 1) := by decide +kernel
theorem dL_law_352 : decode cL_law 352 = .ok (.aload_n 0, 1) := by decide +kernel
theorem dL_law_353 : decode cL_law 353 = .ok (.iload_n 3, 1) := by decide +kernel
theorem dL_law_354 : decode cL_law 354 = .ok (.iconst 1, 1) := by decide +kernel
theorem dL_law_355 : decode cL_law 355 = .ok (.iadd, 1) := by decide +kernel
theorem dL_law_356 : decode cL_law 356 = .ok (.iaload, 1) := by decide +kernel
theorem dL_law_357 : decode cL_law 357 = .ok (.aload_n 0, 1) := by decide +kernel
theorem dL_law_358 : decode cL_law 358 = .ok (.iload_n 3, 1) := by decide +kernel
theorem dL_law_359 : decode cL_law 359 = .ok (.iconst 2, 1) := by decide +kernel
theorem dL_law_360 : decode cL_law 360 = .ok (.iadd, 1) := by decide +kernel
theorem dL_law_361 : decode cL_law 361 = .ok (.iaload, 1) := by decide +kernel
theorem dL_law_362 : decode cL_law 362 = .ok (.ifCond .eq 7, 3) := by decide +kernel
theorem dL_law_365 : decode cL_law 365 = .ok (.iconst 1, 1) := by decide +kernel
theorem dL_law_366 : decode cL_law 366 = .ok (.goto 4, 3) := by decide +kernel
theorem dL_law_369 : decode cL_law 369 = .ok (.iconst 0, 1) := by decide +kernel
theorem dL_law_370 : decode cL_law 370 = .ok (.invokevirtual 39, 3) := by decide +kernel
theorem dL_law_373 : decode cL_law 373 = .ok (.if_icmp .eq 557, 3) := by decide +kernel
theorem dL_law_376 : decode cL_law 376 = .ok (.iconst 0, 1) := by decide +kernel
theorem dL_law_377 : decode cL_law 377 = .ok (.ireturn, 1) := by decide +kernel
theorem dL_law_378 : decode cL_law 378 = .ok (.aload_n 1, 1) := by decide +kernel
theorem dL_law_379 : decode cL_law 379 = .ok (.aload_n 0, 1) := by decide +kernel
theorem dL_law_380 : decode cL_law 380 = .ok (.iload_n 3, 1) := by decide +kernel
theorem dL_law_381 : decode cL_law 381 = .ok (.iconst 1, 1) := by decide +kernel
theorem dL_law_382 : decode cL_law 382 = .ok (.iadd, 1) := by decide +kernel
theorem dL_law_383 : decode cL_law 383 = .ok (.iaload, 1) := by decide +kernel
theorem dL_law_384 : decode cL_law 384 = .ok (.aload_n 0, 1) := by decide +kernel
theorem dL_law_385 : decode cL_law 385 = .ok (.iload_n 3, 1) := by decide +kernel
theorem dL_law_386 : decode cL_law 386 = .ok (.iconst 2, 1) := by decide +kernel
theorem dL_law_387 : decode cL_law 387 = .ok (.iadd, 1) := by decide +kernel
theorem dL_law_388 : decode cL_law 388 = .ok (.iaload, 1) := by decide +kernel
theorem dL_law_389 : decode cL_law 389 = .ok (.aload_n 0, 1) := by decide +kernel
theorem dL_law_390 : decode cL_law 390 = .ok (.iload_n 3, 1) := by decide +kernel
theorem dL_law_391 : decode cL_law 391 = .ok (.iconst 3, 1) := by decide +kernel
theorem dL_law_392 : decode cL_law 392 = .ok (.iadd, 1) := by decide +kernel
theorem dL_law_393 : decode cL_law 393 = .ok (.iaload, 1) := by decide +kernel
theorem dL_law_394 : decode cL_law 394 = .ok (.ifCond .eq 7, 3) := by decide +kernel
theorem dL_law_397 : decode cL_law 397 = .ok (.iconst 1, 1) := by decide +kernel
theorem dL_law_398 : decode cL_law 398 = .ok (.goto 4, 3) := by decide +kernel
theorem dL_law_401 : decode cL_law 401 = .ok (.iconst 0, 1) := by decide +kernel
theorem dL_law_402 : decode cL_law 402 = .ok (.invokevirtual 40, 3) := by decide +kernel
theorem dL_law_405 : decode cL_law 405 = .ok (.aload_n 2, 1) := by decide +kernel
theorem dL_law_406 : decode cL_law 406 = .ok (.aload_n 0, 1) := by decide +kernel
theorem dL_law_407 : decode cL_law 407 = .ok (.iload_n 3, 1) := by decide +kernel
theorem dL_law_408 : decode cL_law 408 = .ok (.iconst 1, 1) := by decide +kernel
theorem dL_law_409 : decode cL_law 409 = .ok (.iadd, 1) := by decide +kernel
theorem dL_law_410 : decode cL_law 410 = .ok (.iaload, 1) := by decide +kernel
theorem dL_law_411 : decode cL_law 411 = .ok (.aload_n 0, 1) := by decide +kernel
theorem dL_law_412 : decode cL_law 412 = .ok (.iload_n 3, 1) := by decide +kernel
theorem dL_law_413 : decode cL_law 413 = .ok (.iconst 2, 1) := by decide +kernel
theorem dL_law_414 : decode cL_law 414 = .ok (.iadd, 1) := by decide +kernel
theorem dL_law_415 : decode cL_law 415 = .ok (.iaload, 1) := by decide +kernel
theorem dL_law_416 : decode cL_law 416 = .ok (.aload_n 0, 1) := by decide +kernel
theorem dL_law_417 : decode cL_law 417 = .ok (.iload_n 3, 1) := by decide +kernel
theorem dL_law_418 : decode cL_law 418 = .ok (.iconst 3, 1) := by decide +kernel
theorem dL_law_419 : decode cL_law 419 = .ok (.iadd, 1) := by decide +kernel
theorem dL_law_420 : decode cL_law 420 = .ok (.iaload, 1) := by decide +kernel
theorem dL_law_421 : decode cL_law 421 = .ok (.ifCond .eq 7, 3) := by decide +kernel
theorem dL_law_424 : decode cL_law 424 = .ok (.iconst 1, 1) := by decide +kernel
theorem dL_law_425 : decode cL_law 425 = .ok (.goto 4, 3) := by decide +kernel
theorem dL_law_428 : decode cL_law 428 = .ok (.iconst 0, 1) := by decide +kernel
theorem dL_law_429 : decode cL_law 429 = .ok (.invokevirtual 44, 3) := by decide +kernel
theorem dL_law_432 : decode cL_law 432 = .ok (.if_icmp .eq 498, 3) := by decide +kernel
theorem dL_law_435 : decode cL_law 435 = .ok (.iconst 0, 1) := by decide +kernel
theorem dL_law_436 : decode cL_law 436 = .ok (.ireturn, 1) := by decide +kernel
theorem dL_law_437 : decode cL_law 437 = .ok (.aload_n 1, 1) := by decide +kernel
theorem dL_law_438 : decode cL_law 438 = .ok (.aload_n 0, 1) := by decide +kernel
theorem dL_law_439 : decode cL_law 439 = .ok (.iload_n 3, 1) := by decide +kernel
theorem dL_law_440 : decode cL_law 440 = .ok (.iconst 1, 1) := by decide +kernel
theorem dL_law_441 : decode cL_law 441 = .ok (.iadd, 1) := by decide +kernel
theorem dL_law_442 : decode cL_law 442 = .ok (.iaload, 1) := by decide +kernel
theorem dL_law_443 : decode cL_law 443 = .ok (.invokevirtual 45, 3) := by decide +kernel
theorem dL_law_446 : decode cL_law 446 = .ok (.aload_n 2, 1) := by decide +kernel
theorem dL_law_447 : decode cL_law 447 = .ok (.aload_n 0, 1) := by decide +kernel
theorem dL_law_448 : decode cL_law 448 = .ok (.iload_n 3, 1) := by decide +kernel
theorem dL_law_449 : decode cL_law 449 = .ok (.iconst 1, 1) := by decide +kernel
theorem dL_law_450 : decode cL_law 450 = .ok (.iadd, 1) := by decide +kernel
theorem dL_law_451 : decode cL_law 451 = .ok (.iaload, 1) := by decide +kernel
theorem dL_law_452 : decode cL_law 452 = .ok (.invokevirtual 49, 3) := by decide +kernel
theorem dL_law_455 : decode cL_law 455 = .ok (.if_icmp .eq 475, 3) := by decide +kernel
theorem dL_law_458 : decode cL_law 458 = .ok (.iconst 0, 1) := by decide +kernel
theorem dL_law_459 : decode cL_law 459 = .ok (.ireturn, 1) := by decide +kernel
theorem dL_law_460 : decode cL_law 460 = .ok (.aload_n 1, 1) := by decide +kernel
theorem dL_law_461 : decode cL_law 461 = .ok (.aload_n 0, 1) := by decide +kernel
theorem dL_law_462 : decode cL_law 462 = .ok (.iload_n 3, 1) := by decide +kernel
theorem dL_law_463 : decode cL_law 463 = .ok (.iconst 1, 1) := by decide +kernel
theorem dL_law_464 : decode cL_law 464 = .ok (.iadd, 1) := by decide +kernel
theorem dL_law_465 : decode cL_law 465 = .ok (.iaload, 1) := by decide +kernel
theorem dL_law_466 : decode cL_law 466 = .ok (.aload_n 0, 1) := by decide +kernel
theorem dL_law_467 : decode cL_law 467 = .ok (.iload_n 3, 1) := by decide +kernel
theorem dL_law_468 : decode cL_law 468 = .ok (.iconst 2, 1) := by decide +kernel
theorem dL_law_469 : decode cL_law 469 = .ok (.iadd, 1) := by decide +kernel
theorem dL_law_470 : decode cL_law 470 = .ok (.iaload, 1) := by decide +kernel
theorem dL_law_471 : decode cL_law 471 = .ok (.aload_n 0, 1) := by decide +kernel
theorem dL_law_472 : decode cL_law 472 = .ok (.iload_n 3, 1) := by decide +kernel
theorem dL_law_473 : decode cL_law 473 = .ok (.iconst 3, 1) := by decide +kernel
theorem dL_law_474 : decode cL_law 474 = .ok (.iadd, 1) := by decide +kernel
theorem dL_law_475 : decode cL_law 475 = .ok (.iaload, 1) := by decide +kernel
theorem dL_law_476 : decode cL_law 476 = .ok (.ifCond .eq 7, 3) := by decide +kernel
theorem dL_law_479 : decode cL_law 479 = .ok (.iconst 1, 1) := by decide +kernel
theorem dL_law_480 : decode cL_law 480 = .ok (.goto 4, 3) := by decide +kernel
theorem dL_law_483 : decode cL_law 483 = .ok (.iconst 0, 1) := by decide +kernel
theorem dL_law_484 : decode cL_law 484 = .ok (.invokevirtual 50, 3) := by decide +kernel
theorem dL_law_487 : decode cL_law 487 = .ok (.aload_n 2, 1) := by decide +kernel
theorem dL_law_488 : decode cL_law 488 = .ok (.aload_n 0, 1) := by decide +kernel
theorem dL_law_489 : decode cL_law 489 = .ok (.iload_n 3, 1) := by decide +kernel
theorem dL_law_490 : decode cL_law 490 = .ok (.iconst 1, 1) := by decide +kernel
theorem dL_law_491 : decode cL_law 491 = .ok (.iadd, 1) := by decide +kernel
theorem dL_law_492 : decode cL_law 492 = .ok (.iaload, 1) := by decide +kernel
theorem dL_law_493 : decode cL_law 493 = .ok (.aload_n 0, 1) := by decide +kernel
theorem dL_law_494 : decode cL_law 494 = .ok (.iload_n 3, 1) := by decide +kernel
theorem dL_law_495 : decode cL_law 495 = .ok (.iconst 2, 1) := by decide +kernel
theorem dL_law_496 : decode cL_law 496 = .ok (.iadd, 1) := by decide +kernel
theorem dL_law_497 : decode cL_law 497 = .ok (.iaload, 1) := by decide +kernel
theorem dL_law_498 : decode cL_law 498 = .ok (.aload_n 0, 1) := by decide +kernel
theorem dL_law_499 : decode cL_law 499 = .ok (.iload_n 3, 1) := by decide +kernel
theorem dL_law_500 : decode cL_law 500 = .ok (.iconst 3, 1) := by decide +kernel
theorem dL_law_501 : decode cL_law 501 = .ok (.iadd, 1) := by decide +kernel
theorem dL_law_502 : decode cL_law 502 = .ok (.iaload, 1) := by decide +kernel
theorem dL_law_503 : decode cL_law 503 = .ok (.ifCond .eq 7, 3) := by decide +kernel
theorem dL_law_506 : decode cL_law 506 = .ok (.iconst 1, 1) := by decide +kernel
theorem dL_law_507 : decode cL_law 507 = .ok (.goto 4, 3) := by decide +kernel
theorem dL_law_510 : decode cL_law 510 = .ok (.iconst 0, 1) := by decide +kernel
theorem dL_law_511 : decode cL_law 511 = .ok (.invokevirtual 53, 3) := by decide +kernel
theorem dL_law_514 : decode cL_law 514 = .ok (.if_icmp .eq 416, 3) := by decide +kernel
theorem dL_law_517 : decode cL_law 517 = .ok (.iconst 0, 1) := by decide +kernel
theorem dL_law_518 : decode cL_law 518 = .ok (.ireturn, 1) := by decide +kernel
theorem dL_law_519 : decode cL_law 519 = .ok (.aload_n 1, 1) := by decide +kernel
theorem dL_law_520 : decode cL_law 520 = .ok (.aload_n 0, 1) := by decide +kernel
theorem dL_law_521 : decode cL_law 521 = .ok (.iload_n 3, 1) := by decide +kernel
theorem dL_law_522 : decode cL_law 522 = .ok (.iconst 1, 1) := by decide +kernel
theorem dL_law_523 : decode cL_law 523 = .ok (.iadd, 1) := by decide +kernel
theorem dL_law_524 : decode cL_law 524 = .ok (.iaload, 1) := by decide +kernel
theorem dL_law_525 : decode cL_law 525 = .ok (.invokevirtual 54, 3) := by decide +kernel
theorem dL_law_528 : decode cL_law 528 = .ok (.aload_n 2, 1) := by decide +kernel
theorem dL_law_529 : decode cL_law 529 = .ok (.aload_n 0, 1) := by decide +kernel
theorem dL_law_530 : decode cL_law 530 = .ok (.iload_n 3, 1) := by decide +kernel
theorem dL_law_531 : decode cL_law 531 = .ok (.iconst 1, 1) := by decide +kernel
theorem dL_law_532 : decode cL_law 532 = .ok (.iadd, 1) := by decide +kernel
theorem dL_law_533 : decode cL_law 533 = .ok (.iaload, 1) := by decide +kernel
theorem dL_law_534 : decode cL_law 534 = .ok (.invokevirtual 57, 3) := by decide +kernel
theorem dL_law_537 : decode cL_law 537 = .ok (.if_icmp .eq 393, 3) := by decide +kernel
theorem dL_law_540 : decode cL_law 540 = .ok (.iconst 0, 1) := by decide +kernel
theorem dL_law_541 : decode cL_law 541 = .ok (.ireturn, 1) := by decide +kernel
theorem dL_law_542 : decode cL_law 542 = .ok (.aload_n 1, 1) := by decide +kernel
theorem dL_law_543 : decode cL_law 543 = .ok (.aload_n 0, 1) := by decide +kernel
theorem dL_law_544 : decode cL_law 544 = .ok (.iload_n 3, 1) := by decide +kernel
theorem dL_law_545 : decode cL_law 545 = .ok (.iconst 1, 1) := by decide +kernel
theorem dL_law_546 : decode cL_law 546 = .ok (.iadd, 1) := by decide +kernel
theorem dL_law_547 : decode cL_law 547 = .ok (.iaload, 1) := by decide +kernel
theorem dL_law_548 : decode cL_law 548 = .ok (.invokevirtual 58, 3) := by decide +kernel
theorem dL_law_551 : decode cL_law 551 = .ok (.aload_n 2, 1) := by decide +kernel
theorem dL_law_552 : decode cL_law 552 = .ok (.aload_n 0, 1) := by decide +kernel
theorem dL_law_553 : decode cL_law 553 = .ok (.iload_n 3, 1) := by decide +kernel
theorem dL_law_554 : decode cL_law 554 = .ok (.iconst 1, 1) := by decide +kernel
theorem dL_law_555 : decode cL_law 555 = .ok (.iadd, 1) := by decide +kernel
theorem dL_law_556 : decode cL_law 556 = .ok (.iaload, 1) := by decide +kernel
theorem dL_law_557 : decode cL_law 557 = .ok (.invokevirtual 61, 3) := by decide +kernel
theorem dL_law_560 : decode cL_law 560 = .ok (.if_icmp .eq 370, 3) := by decide +kernel
theorem dL_law_563 : decode cL_law 563 = .ok (.iconst 0, 1) := by decide +kernel
theorem dL_law_564 : decode cL_law 564 = .ok (.ireturn, 1) := by decide +kernel
theorem dL_law_565 : decode cL_law 565 = .ok (.aload_n 1, 1) := by decide +kernel
theorem dL_law_566 : decode cL_law 566 = .ok (.aload_n 0, 1) := by decide +kernel
theorem dL_law_567 : decode cL_law 567 = .ok (.iload_n 3, 1) := by decide +kernel
theorem dL_law_568 : decode cL_law 568 = .ok (.iconst 1, 1) := by decide +kernel
theorem dL_law_569 : decode cL_law 569 = .ok (.iadd, 1) := by decide +kernel
theorem dL_law_570 : decode cL_law 570 = .ok (.iaload, 1) := by decide +kernel
theorem dL_law_571 : decode cL_law 571 = .ok (.invokevirtual 62, 3) := by decide +kernel
theorem dL_law_574 : decode cL_law 574 = .ok (.aload_n 2, 1) := by decide +kernel
theorem dL_law_575 : decode cL_law 575 = .ok (.aload_n 0, 1) := by decide +kernel
theorem dL_law_576 : decode cL_law 576 = .ok (.iload_n 3, 1) := by decide +kernel
theorem dL_law_577 : decode cL_law 577 = .ok (.iconst 1, 1) := by decide +kernel
theorem dL_law_578 : decode cL_law 578 = .ok (.iadd, 1) := by decide +kernel
theorem dL_law_579 : decode cL_law 579 = .ok (.iaload, 1) := by decide +kernel
theorem dL_law_580 : decode cL_law 580 = .ok (.invokevirtual 65, 3) := by decide +kernel
theorem dL_law_583 : decode cL_law 583 = .ok (.if_icmp .eq 347, 3) := by decide +kernel
theorem dL_law_586 : decode cL_law 586 = .ok (.iconst 0, 1) := by decide +kernel
theorem dL_law_587 : decode cL_law 587 = .ok (.ireturn, 1) := by decide +kernel
theorem dL_law_588 : decode cL_law 588 = .ok (.aload_n 1, 1) := by decide +kernel
theorem dL_law_589 : decode cL_law 589 = .ok (.aload_n 0, 1) := by decide +kernel
theorem dL_law_590 : decode cL_law 590 = .ok (.iload_n 3, 1) := by decide +kernel
theorem dL_law_591 : decode cL_law 591 = .ok (.iconst 1, 1) := by decide +kernel
theorem dL_law_592 : decode cL_law 592 = .ok (.iadd, 1) := by decide +kernel
theorem dL_law_593 : decode cL_law 593 = .ok (.iaload, 1) := by decide +kernel
theorem dL_law_594 : decode cL_law 594 = .ok (.invokevirtual 66, 3) := by decide +kernel
theorem dL_law_597 : decode cL_law 597 = .ok (.aload_n 2, 1) := by decide +kernel
theorem dL_law_598 : decode cL_law 598 = .ok (.aload_n 0, 1) := by decide +kernel
theorem dL_law_599 : decode cL_law 599 = .ok (.iload_n 3, 1) := by decide +kernel
theorem dL_law_600 : decode cL_law 600 = .ok (.iconst 1, 1) := by decide +kernel
theorem dL_law_601 : decode cL_law 601 = .ok (.iadd, 1) := by decide +kernel
theorem dL_law_602 : decode cL_law 602 = .ok (.iaload, 1) := by decide +kernel
theorem dL_law_603 : decode cL_law 603 = .ok (.invokevirtual 69, 3) := by decide +kernel
theorem dL_law_606 : decode cL_law 606 = .ok (.if_icmp .eq 324, 3) := by decide +kernel
theorem dL_law_609 : decode cL_law 609 = .ok (.iconst 0, 1) := by decide +kernel
theorem dL_law_610 : decode cL_law 610 = .ok (.ireturn, 1) := by decide +kernel
theorem dL_law_611 : decode cL_law 611 = .ok (.aload_n 1, 1) := by decide +kernel
theorem dL_law_612 : decode cL_law 612 = .ok (.aload_n 0, 1) := by decide +kernel
theorem dL_law_613 : decode cL_law 613 = .ok (.iload_n 3, 1) := by decide +kernel
theorem dL_law_614 : decode cL_law 614 = .ok (.iconst 1, 1) := by decide +kernel
theorem dL_law_615 : decode cL_law 615 = .ok (.iadd, 1) := by decide +kernel
theorem dL_law_616 : decode cL_law 616 = .ok (.iaload, 1) := by decide +kernel
theorem dL_law_617 : decode cL_law 617 = .ok (.aload_n 0, 1) := by decide +kernel
theorem dL_law_618 : decode cL_law 618 = .ok (.iload_n 3, 1) := by decide +kernel
theorem dL_law_619 : decode cL_law 619 = .ok (.iconst 2, 1) := by decide +kernel
theorem dL_law_620 : decode cL_law 620 = .ok (.iadd, 1) := by decide +kernel
theorem dL_law_621 : decode cL_law 621 = .ok (.iaload, 1) := by decide +kernel
theorem dL_law_622 : decode cL_law 622 = .ok (.aload_n 0, 1) := by decide +kernel
theorem dL_law_623 : decode cL_law 623 = .ok (.iload_n 3, 1) := by decide +kernel
theorem dL_law_624 : decode cL_law 624 = .ok (.iconst 3, 1) := by decide +kernel
theorem dL_law_625 : decode cL_law 625 = .ok (.iadd, 1) := by decide +kernel
theorem dL_law_626 : decode cL_law 626 = .ok (.iaload, 1) := by decide +kernel
theorem dL_law_627 : decode cL_law 627 = .ok (.ifCond .eq 7, 3) := by decide +kernel
theorem dL_law_630 : decode cL_law 630 = .ok (.iconst 1, 1) := by decide +kernel
theorem dL_law_631 : decode cL_law 631 = .ok (.goto 4, 3) := by decide +kernel
theorem dL_law_634 : decode cL_law 634 = .ok (.iconst 0, 1) := by decide +kernel
theorem dL_law_635 : decode cL_law 635 = .ok (.invokevirtual 70, 3) := by decide +kernel
theorem dL_law_638 : decode cL_law 638 = .ok (.aload_n 2, 1) := by decide +kernel
theorem dL_law_639 : decode cL_law 639 = .ok (.aload_n 0, 1) := by decide +kernel
theorem dL_law_640 : decode cL_law 640 = .ok (.iload_n 3, 1) := by decide +kernel
theorem dL_law_641 : decode cL_law 641 = .ok (.iconst 1, 1) := by decide +kernel
theorem dL_law_642 : decode cL_law 642 = .ok (.iadd, 1) := by decide +kernel
theorem dL_law_643 : decode cL_law 643 = .ok (.iaload, 1) := by decide +kernel
theorem dL_law_644 : decode cL_law 644 = .ok (.aload_n 0, 1) := by decide +kernel
theorem dL_law_645 : decode cL_law 645 = .ok (.iload_n 3, 1) := by decide +kernel
theorem dL_law_646 : decode cL_law 646 = .ok (.iconst 2, 1) := by decide +kernel
theorem dL_law_647 : decode cL_law 647 = .ok (.iadd, 1) := by decide +kernel
theorem dL_law_648 : decode cL_law 648 = .ok (.iaload, 1) := by decide +kernel
theorem dL_law_649 : decode cL_law 649 = .ok (.aload_n 0, 1) := by decide +kernel
theorem dL_law_650 : decode cL_law 650 = .ok (.iload_n 3, 1) := by decide +kernel
theorem dL_law_651 : decode cL_law 651 = .ok (.iconst 3, 1) := by decide +kernel
theorem dL_law_652 : decode cL_law 652 = .ok (.iadd, 1) := by decide +kernel
theorem dL_law_653 : decode cL_law 653 = .ok (.iaload, 1) := by decide +kernel
theorem dL_law_654 : decode cL_law 654 = .ok (.ifCond .eq 7, 3) := by decide +kernel
theorem dL_law_657 : decode cL_law 657 = .ok (.iconst 1, 1) := by decide +kernel
theorem dL_law_658 : decode cL_law 658 = .ok (.goto 4, 3) := by decide +kernel
theorem dL_law_661 : decode cL_law 661 = .ok (.iconst 0, 1) := by decide +kernel
theorem dL_law_662 : decode cL_law 662 = .ok (.invokevirtual 73, 3) := by decide +kernel
theorem dL_law_665 : decode cL_law 665 = .ok (.if_icmp .eq 265, 3) := by decide +kernel
theorem dL_law_668 : decode cL_law 668 = .ok (.iconst 0, 1) := by decide +kernel
theorem dL_law_669 : decode cL_law 669 = .ok (.ireturn, 1) := by decide +kernel
theorem dL_law_670 : decode cL_law 670 = .ok (.aload_n 1, 1) := by decide +kernel
theorem dL_law_671 : decode cL_law 671 = .ok (.aload_n 0, 1) := by decide +kernel
theorem dL_law_672 : decode cL_law 672 = .ok (.iload_n 3, 1) := by decide +kernel
theorem dL_law_673 : decode cL_law 673 = .ok (.iconst 1, 1) := by decide +kernel
theorem dL_law_674 : decode cL_law 674 = .ok (.iadd, 1) := by decide +kernel
theorem dL_law_675 : decode cL_law 675 = .ok (.iaload, 1) := by decide +kernel
theorem dL_law_676 : decode cL_law 676 = .ok (.invokevirtual 74, 3) := by decide +kernel
theorem dL_law_679 : decode cL_law 679 = .ok (.aload_n 2, 1) := by decide +kernel
theorem dL_law_680 : decode cL_law 680 = .ok (.aload_n 0, 1) := by decide +kernel
theorem dL_law_681 : decode cL_law 681 = .ok (.iload_n 3, 1) := by decide +kernel
theorem dL_law_682 : decode cL_law 682 = .ok (.iconst 1, 1) := by decide +kernel
theorem dL_law_683 : decode cL_law 683 = .ok (.iadd, 1) := by decide +kernel
theorem dL_law_684 : decode cL_law 684 = .ok (.iaload, 1) := by decide +kernel
theorem dL_law_685 : decode cL_law 685 = .ok (.invokevirtual 77, 3) := by decide +kernel
theorem dL_law_688 : decode cL_law 688 = .ok (.if_icmp .eq 242, 3) := by decide +kernel
theorem dL_law_691 : decode cL_law 691 = .ok (.iconst 0, 1) := by decide +kernel
theorem dL_law_692 : decode cL_law 692 = .ok (.ireturn, 1) := by decide +kernel
theorem dL_law_693 : decode cL_law 693 = .ok (.aload_n 1, 1) := by decide +kernel
theorem dL_law_694 : decode cL_law 694 = .ok (.aload_n 0, 1) := by decide +kernel
theorem dL_law_695 : decode cL_law 695 = .ok (.iload_n 3, 1) := by decide +kernel
theorem dL_law_696 : decode cL_law 696 = .ok (.iconst 1, 1) := by decide +kernel
theorem dL_law_697 : decode cL_law 697 = .ok (.iadd, 1) := by decide +kernel
theorem dL_law_698 : decode cL_law 698 = .ok (.iaload, 1) := by decide +kernel
theorem dL_law_699 : decode cL_law 699 = .ok (.aload_n 0, 1) := by decide +kernel
theorem dL_law_700 : decode cL_law 700 = .ok (.iload_n 3, 1) := by decide +kernel
theorem dL_law_701 : decode cL_law 701 = .ok (.iconst 2, 1) := by decide +kernel
theorem dL_law_702 : decode cL_law 702 = .ok (.iadd, 1) := by decide +kernel
theorem dL_law_703 : decode cL_law 703 = .ok (.iaload, 1) := by decide +kernel
theorem dL_law_704 : decode cL_law 704 = .ok (.invokevirtual 78, 3) := by decide +kernel
theorem dL_law_707 : decode cL_law 707 = .ok (.aload_n 2, 1) := by decide +kernel
theorem dL_law_708 : decode cL_law 708 = .ok (.aload_n 0, 1) := by decide +kernel
theorem dL_law_709 : decode cL_law 709 = .ok (.iload_n 3, 1) := by decide +kernel
theorem dL_law_710 : decode cL_law 710 = .ok (.iconst 1, 1) := by decide +kernel
theorem dL_law_711 : decode cL_law 711 = .ok (.iadd, 1) := by decide +kernel
theorem dL_law_712 : decode cL_law 712 = .ok (.iaload, 1) := by decide +kernel
theorem dL_law_713 : decode cL_law 713 = .ok (.aload_n 0, 1) := by decide +kernel
theorem dL_law_714 : decode cL_law 714 = .ok (.iload_n 3, 1) := by decide +kernel
theorem dL_law_715 : decode cL_law 715 = .ok (.iconst 2, 1) := by decide +kernel
theorem dL_law_716 : decode cL_law 716 = .ok (.iadd, 1) := by decide +kernel
theorem dL_law_717 : decode cL_law 717 = .ok (.iaload, 1) := by decide +kernel
theorem dL_law_718 : decode cL_law 718 = .ok (.invokevirtual 81, 3) := by decide +kernel
theorem dL_law_721 : decode cL_law 721 = .ok (.if_icmp .eq 209, 3) := by decide +kernel
theorem dL_law_724 : decode cL_law 724 = .ok (.iconst 0, 1) := by decide +kernel
theorem dL_law_725 : decode cL_law 725 = .ok (.ireturn, 1) := by decide +kernel
theorem dL_law_726 : decode cL_law 726 = .ok (.aload_n 1, 1) := by decide +kernel
theorem dL_law_727 : decode cL_law 727 = .ok (.aload_n 0, 1) := by decide +kernel
theorem dL_law_728 : decode cL_law 728 = .ok (.iload_n 3, 1) := by decide +kernel
theorem dL_law_729 : decode cL_law 729 = .ok (.iconst 1, 1) := by decide +kernel
theorem dL_law_730 : decode cL_law 730 = .ok (.iadd, 1) := by decide +kernel
theorem dL_law_731 : decode cL_law 731 = .ok (.iaload, 1) := by decide +kernel
theorem dL_law_732 : decode cL_law 732 = .ok (.invokevirtual 82, 3) := by decide +kernel
theorem dL_law_735 : decode cL_law 735 = .ok (.aload_n 2, 1) := by decide +kernel
theorem dL_law_736 : decode cL_law 736 = .ok (.aload_n 0, 1) := by decide +kernel
theorem dL_law_737 : decode cL_law 737 = .ok (.iload_n 3, 1) := by decide +kernel
theorem dL_law_738 : decode cL_law 738 = .ok (.iconst 1, 1) := by decide +kernel
theorem dL_law_739 : decode cL_law 739 = .ok (.iadd, 1) := by decide +kernel
theorem dL_law_740 : decode cL_law 740 = .ok (.iaload, 1) := by decide +kernel
theorem dL_law_741 : decode cL_law 741 = .ok (.invokevirtual 85, 3) := by decide +kernel
theorem dL_law_744 : decode cL_law 744 = .ok (.if_icmp .eq 186, 3) := by decide +kernel
theorem dL_law_747 : decode cL_law 747 = .ok (.iconst 0, 1) := by decide +kernel
theorem dL_law_748 : decode cL_law 748 = .ok (.ireturn, 1) := by decide +kernel
theorem dL_law_749 : decode cL_law 749 = .ok (.aload_n 1, 1) := by decide +kernel
theorem dL_law_750 : decode cL_law 750 = .ok (.aload_n 0, 1) := by decide +kernel
theorem dL_law_751 : decode cL_law 751 = .ok (.iload_n 3, 1) := by decide +kernel
theorem dL_law_752 : decode cL_law 752 = .ok (.iconst 1, 1) := by decide +kernel
theorem dL_law_753 : decode cL_law 753 = .ok (.iadd, 1) := by decide +kernel
theorem dL_law_754 : decode cL_law 754 = .ok (.iaload, 1) := by decide +kernel
theorem dL_law_755 : decode cL_law 755 = .ok (.aload_n 0, 1) := by decide +kernel
theorem dL_law_756 : decode cL_law 756 = .ok (.iload_n 3, 1) := by decide +kernel
theorem dL_law_757 : decode cL_law 757 = .ok (.iconst 2, 1) := by decide +kernel
theorem dL_law_758 : decode cL_law 758 = .ok (.iadd, 1) := by decide +kernel
theorem dL_law_759 : decode cL_law 759 = .ok (.iaload, 1) := by decide +kernel
theorem dL_law_760 : decode cL_law 760 = .ok (.invokevirtual 86, 3) := by decide +kernel
theorem dL_law_763 : decode cL_law 763 = .ok (.aload_n 2, 1) := by decide +kernel
theorem dL_law_764 : decode cL_law 764 = .ok (.aload_n 0, 1) := by decide +kernel
theorem dL_law_765 : decode cL_law 765 = .ok (.iload_n 3, 1) := by decide +kernel
theorem dL_law_766 : decode cL_law 766 = .ok (.iconst 1, 1) := by decide +kernel
theorem dL_law_767 : decode cL_law 767 = .ok (.iadd, 1) := by decide +kernel
theorem dL_law_768 : decode cL_law 768 = .ok (.iaload, 1) := by decide +kernel
theorem dL_law_769 : decode cL_law 769 = .ok (.aload_n 0, 1) := by decide +kernel
theorem dL_law_770 : decode cL_law 770 = .ok (.iload_n 3, 1) := by decide +kernel
theorem dL_law_771 : decode cL_law 771 = .ok (.iconst 2, 1) := by decide +kernel
theorem dL_law_772 : decode cL_law 772 = .ok (.iadd, 1) := by decide +kernel
theorem dL_law_773 : decode cL_law 773 = .ok (.iaload, 1) := by decide +kernel
theorem dL_law_774 : decode cL_law 774 = .ok (.invokevirtual 89, 3) := by decide +kernel
theorem dL_law_777 : decode cL_law 777 = .ok (.if_icmp .eq 153, 3) := by decide +kernel
theorem dL_law_780 : decode cL_law 780 = .ok (.iconst 0, 1) := by decide +kernel
theorem dL_law_781 : decode cL_law 781 = .ok (.ireturn, 1) := by decide +kernel
theorem dL_law_782 : decode cL_law 782 = .ok (.aload_n 1, 1) := by decide +kernel
theorem dL_law_783 : decode cL_law 783 = .ok (.aload_n 0, 1) := by decide +kernel
theorem dL_law_784 : decode cL_law 784 = .ok (.iload_n 3, 1) := by decide +kernel
theorem dL_law_785 : decode cL_law 785 = .ok (.iconst 1, 1) := by decide +kernel
theorem dL_law_786 : decode cL_law 786 = .ok (.iadd, 1) := by decide +kernel
theorem dL_law_787 : decode cL_law 787 = .ok (.iaload, 1) := by decide +kernel
theorem dL_law_788 : decode cL_law 788 = .ok (.aload_n 0, 1) := by decide +kernel
theorem dL_law_789 : decode cL_law 789 = .ok (.iload_n 3, 1) := by decide +kernel
theorem dL_law_790 : decode cL_law 790 = .ok (.iconst 2, 1) := by decide +kernel
theorem dL_law_791 : decode cL_law 791 = .ok (.iadd, 1) := by decide +kernel
theorem dL_law_792 : decode cL_law 792 = .ok (.iaload, 1) := by decide +kernel
theorem dL_law_793 : decode cL_law 793 = .ok (.invokevirtual 90, 3) := by decide +kernel
theorem dL_law_796 : decode cL_law 796 = .ok (.aload_n 2, 1) := by decide +kernel
theorem dL_law_797 : decode cL_law 797 = .ok (.aload_n 0, 1) := by decide +kernel
theorem dL_law_798 : decode cL_law 798 = .ok (.iload_n 3, 1) := by decide +kernel
theorem dL_law_799 : decode cL_law 799 = .ok (.iconst 1, 1) := by decide +kernel
theorem dL_law_800 : decode cL_law 800 = .ok (.iadd, 1) := by decide +kernel
theorem dL_law_801 : decode cL_law 801 = .ok (.iaload, 1) := by decide +kernel
theorem dL_law_802 : decode cL_law 802 = .ok (.aload_n 0, 1) := by decide +kernel
theorem dL_law_803 : decode cL_law 803 = .ok (.iload_n 3, 1) := by decide +kernel
theorem dL_law_804 : decode cL_law 804 = .ok (.iconst 2, 1) := by decide +kernel
theorem dL_law_805 : decode cL_law 805 = .ok (.iadd, 1) := by decide +kernel
theorem dL_law_806 : decode cL_law 806 = .ok (.iaload, 1) := by decide +kernel
theorem dL_law_807 : decode cL_law 807 = .ok (.invokevirtual 93, 3) := by decide +kernel
theorem dL_law_810 : decode cL_law 810 = .ok (.if_icmp .eq 120, 3) := by decide +kernel
theorem dL_law_813 : decode cL_law 813 = .ok (.iconst 0, 1) := by decide +kernel
theorem dL_law_814 : decode cL_law 814 = .ok (.ireturn, 1) := by decide +kernel
theorem dL_law_815 : decode cL_law 815 = .ok (.aload_n 1, 1) := by decide +kernel
theorem dL_law_816 : decode cL_law 816 = .ok (.aload_n 0, 1) := by decide +kernel
theorem dL_law_817 : decode cL_law 817 = .ok (.iload_n 3, 1) := by decide +kernel
theorem dL_law_818 : decode cL_law 818 = .ok (.iconst 1, 1) := by decide +kernel
theorem dL_law_819 : decode cL_law 819 = .ok (.iadd, 1) := by decide +kernel
theorem dL_law_820 : decode cL_law 820 = .ok (.iaload, 1) := by decide +kernel
theorem dL_law_821 : decode cL_law 821 = .ok (.aload_n 0, 1) := by decide +kernel
theorem dL_law_822 : decode cL_law 822 = .ok (.iload_n 3, 1) := by decide +kernel
theorem dL_law_823 : decode cL_law 823 = .ok (.iconst 2, 1) := by decide +kernel
theorem dL_law_824 : decode cL_law 824 = .ok (.iadd, 1) := by decide +kernel
theorem dL_law_825 : decode cL_law 825 = .ok (.iaload, 1) := by decide +kernel
theorem dL_law_826 : decode cL_law 826 = .ok (.invokevirtual 94, 3) := by decide +kernel
theorem dL_law_829 : decode cL_law 829 = .ok (.aload_n 2, 1) := by decide +kernel
theorem dL_law_830 : decode cL_law 830 = .ok (.aload_n 0, 1) := by decide +kernel
theorem dL_law_831 : decode cL_law 831 = .ok (.iload_n 3, 1) := by decide +kernel
theorem dL_law_832 : decode cL_law 832 = .ok (.iconst 1, 1) := by decide +kernel
theorem dL_law_833 : decode cL_law 833 = .ok (.iadd, 1) := by decide +kernel
theorem dL_law_834 : decode cL_law 834 = .ok (.iaload, 1) := by decide +kernel
theorem dL_law_835 : decode cL_law 835 = .ok (.aload_n 0, 1) := by decide +kernel
theorem dL_law_836 : decode cL_law 836 = .ok (.iload_n 3, 1) := by decide +kernel
theorem dL_law_837 : decode cL_law 837 = .ok (.iconst 2, 1) := by decide +kernel
theorem dL_law_838 : decode cL_law 838 = .ok (.iadd, 1) := by decide +kernel
theorem dL_law_839 : decode cL_law 839 = .ok (.iaload, 1) := by decide +kernel
theorem dL_law_840 : decode cL_law 840 = .ok (.invokevirtual 97, 3) := by decide +kernel
theorem dL_law_843 : decode cL_law 843 = .ok (.if_icmp .eq 87, 3) := by decide +kernel
theorem dL_law_846 : decode cL_law 846 = .ok (.iconst 0, 1) := by decide +kernel
theorem dL_law_847 : decode cL_law 847 = .ok (.ireturn, 1) := by decide +kernel
theorem dL_law_848 : decode cL_law 848 = .ok (.aload_n 1, 1) := by decide +kernel
theorem dL_law_849 : decode cL_law 849 = .ok (.aload_n 0, 1) := by decide +kernel
theorem dL_law_850 : decode cL_law 850 = .ok (.iload_n 3, 1) := by decide +kernel
theorem dL_law_851 : decode cL_law 851 = .ok (.iconst 1, 1) := by decide +kernel
theorem dL_law_852 : decode cL_law 852 = .ok (.iadd, 1) := by decide +kernel
theorem dL_law_853 : decode cL_law 853 = .ok (.iaload, 1) := by decide +kernel
theorem dL_law_854 : decode cL_law 854 = .ok (.aload_n 0, 1) := by decide +kernel
theorem dL_law_855 : decode cL_law 855 = .ok (.iload_n 3, 1) := by decide +kernel
theorem dL_law_856 : decode cL_law 856 = .ok (.iconst 2, 1) := by decide +kernel
theorem dL_law_857 : decode cL_law 857 = .ok (.iadd, 1) := by decide +kernel
theorem dL_law_858 : decode cL_law 858 = .ok (.iaload, 1) := by decide +kernel
theorem dL_law_859 : decode cL_law 859 = .ok (.invokevirtual 98, 3) := by decide +kernel
theorem dL_law_862 : decode cL_law 862 = .ok (.aload_n 2, 1) := by decide +kernel
theorem dL_law_863 : decode cL_law 863 = .ok (.aload_n 0, 1) := by decide +kernel
theorem dL_law_864 : decode cL_law 864 = .ok (.iload_n 3, 1) := by decide +kernel
theorem dL_law_865 : decode cL_law 865 = .ok (.iconst 1, 1) := by decide +kernel
theorem dL_law_866 : decode cL_law 866 = .ok (.iadd, 1) := by decide +kernel
theorem dL_law_867 : decode cL_law 867 = .ok (.iaload, 1) := by decide +kernel
theorem dL_law_868 : decode cL_law 868 = .ok (.aload_n 0, 1) := by decide +kernel
theorem dL_law_869 : decode cL_law 869 = .ok (.iload_n 3, 1) := by decide +kernel
theorem dL_law_870 : decode cL_law 870 = .ok (.iconst 2, 1) := by decide +kernel
theorem dL_law_871 : decode cL_law 871 = .ok (.iadd, 1) := by decide +kernel
theorem dL_law_872 : decode cL_law 872 = .ok (.iaload, 1) := by decide +kernel
theorem dL_law_873 : decode cL_law 873 = .ok (.invokevirtual 101, 3) := by decide +kernel
theorem dL_law_876 : decode cL_law 876 = .ok (.if_icmp .eq 54, 3) := by decide +kernel
theorem dL_law_879 : decode cL_law 879 = .ok (.iconst 0, 1) := by decide +kernel
theorem dL_law_880 : decode cL_law 880 = .ok (.ireturn, 1) := by decide +kernel
theorem dL_law_881 : decode cL_law 881 = .ok (.aload_n 1, 1) := by decide +kernel
theorem dL_law_882 : decode cL_law 882 = .ok (.aload_n 0, 1) := by decide +kernel
theorem dL_law_883 : decode cL_law 883 = .ok (.iload_n 3, 1) := by decide +kernel
theorem dL_law_884 : decode cL_law 884 = .ok (.iconst 1, 1) := by decide +kernel
theorem dL_law_885 : decode cL_law 885 = .ok (.iadd, 1) := by decide +kernel
theorem dL_law_886 : decode cL_law 886 = .ok (.iaload, 1) := by decide +kernel
theorem dL_law_887 : decode cL_law 887 = .ok (.invokevirtual 102, 3) := by decide +kernel
theorem dL_law_890 : decode cL_law 890 = .ok (.aload_n 2, 1) := by decide +kernel
theorem dL_law_891 : decode cL_law 891 = .ok (.aload_n 0, 1) := by decide +kernel
theorem dL_law_892 : decode cL_law 892 = .ok (.iload_n 3, 1) := by decide +kernel
theorem dL_law_893 : decode cL_law 893 = .ok (.iconst 1, 1) := by decide +kernel
theorem dL_law_894 : decode cL_law 894 = .ok (.iadd, 1) := by decide +kernel
theorem dL_law_895 : decode cL_law 895 = .ok (.iaload, 1) := by decide +kernel
theorem dL_law_896 : decode cL_law 896 = .ok (.invokevirtual 105, 3) := by decide +kernel
theorem dL_law_899 : decode cL_law 899 = .ok (.if_icmp .eq 31, 3) := by decide +kernel
theorem dL_law_902 : decode cL_law 902 = .ok (.iconst 0, 1) := by decide +kernel
theorem dL_law_903 : decode cL_law 903 = .ok (.ireturn, 1) := by decide +kernel
theorem dL_law_904 : decode cL_law 904 = .ok (.aload_n 1, 1) := by decide +kernel
theorem dL_law_905 : decode cL_law 905 = .ok (.invokevirtual 106, 3) := by decide +kernel
theorem dL_law_908 : decode cL_law 908 = .ok (.aload_n 2, 1) := by decide +kernel
theorem dL_law_909 : decode cL_law 909 = .ok (.invokevirtual 110, 3) := by decide +kernel
theorem dL_law_912 : decode cL_law 912 = .ok (.if_icmp .eq 18, 3) := by decide +kernel
theorem dL_law_915 : decode cL_law 915 = .ok (.iconst 0, 1) := by decide +kernel
theorem dL_law_916 : decode cL_law 916 = .ok (.ireturn, 1) := by decide +kernel
theorem dL_law_917 : decode cL_law 917 = .ok (.aload_n 1, 1) := by decide +kernel
theorem dL_law_918 : decode cL_law 918 = .ok (.invokevirtual 111, 3) := by decide +kernel
theorem dL_law_921 : decode cL_law 921 = .ok (.aload_n 2, 1) := by decide +kernel
theorem dL_law_922 : decode cL_law 922 = .ok (.invokevirtual 114, 3) := by decide +kernel
theorem dL_law_925 : decode cL_law 925 = .ok (.if_icmp .eq 5, 3) := by decide +kernel
theorem dL_law_928 : decode cL_law 928 = .ok (.iconst 0, 1) := by decide +kernel
theorem dL_law_929 : decode cL_law 929 = .ok (.ireturn, 1) := by decide +kernel
theorem dL_law_930 : decode cL_law 930 = .ok (.iinc 3 4, 3) := by decide +kernel
theorem dL_law_933 : decode cL_law 933 = .ok (.goto (-915), 3) := by decide +kernel
theorem dL_law_936 : decode cL_law 936 = .ok (.iconst 1, 1) := by decide +kernel
theorem dL_law_937 : decode cL_law 937 = .ok (.ireturn, 1) := by decide +kernel
end
section
/-! ===== the wrapper V: a frame of one of our methods, over a world of numbered cells that begin at an address b ===== -/
abbrev GG : Type := Launch × Nat × va_G × (Nat → ClassId)
abbrev MI : Type := MethodName × ByteArray × Nat × Option FieldType
abbrev ce : Type := (Nat × vp_A) ⊕ (Nat × List Value)
def vi (x : Int) : Value := .int (Int32.ofInt x)
def rf (g : GG) (k : Nat) : Value := .ref (g.2.1 + k)
abbrev inR (x : Int) : Prop := -2147483648 ≤ x ∧ x ≤ 2147483647
def toE (g : GG) (c : ce) : va_E := match c with
  | .inl q => .inl (g.2.2.2 q.1, q.2)
  | .inr o => .inr o
def Hp (g : GG) (φ : Nat → ce) (n : Nat) (H : Heap) : Prop := H.size = g.2.1 + n ∧ ∀ k, k < n → va_at g.2.2.1 vwCl (g.2.1 + k, toE g (φ k)) H
def wU : List Cond := lw_tbl.filter goodWord
theorem wU_in {w : Cond} (h : w ∈ wU) : w ∈ lw_tbl := (List.mem_filter.mp h).1
theorem wU_good {w : Cond} (h : w ∈ wU) : goodWord w = true := (List.mem_filter.mp h).2
theorem wU_of {w : Cond} (h : w ∈ lw_tbl) (h2 : goodWord w = true) : w ∈ wU := List.mem_filter.mpr ⟨h, h2⟩
theorem wU_at (i : Nat) {w : Cond} (h : lw_tbl[i]? = some w) (h2 : goodWord w = true) : w ∈ wU := wU_of (List.mem_of_getElem? h) h2
def tysG (g : GG) : List (ClassId × FieldType) := [(g.2.2.2 0, .int), (g.2.2.2 1, .boolean), (g.2.2.2 2, .object RX4), (g.2.2.2 3, .object RX1), (g.2.2.2 4, .object RX2), (g.2.2.2 5, .object RX0), (g.2.2.2 6, .array .int)]
def KU (g : GG) (U : State) : Prop := va_K g.2.2.1 vwCl (tysG g) U
/-- the words that only constructors need, and that do not ride with the others -/
def KX (U : State) : Prop := (va_AO RX4 U ∧ va_AO RX1 U ∧ va_AO RX2 U ∧ va_AO RX0 U ∧ va_Nw (.arrayOver (.array .int)) U) ∧ va_Nw (.methodLinkNest RX3 35 yX4_init RX6) U ∧ va_Nw (.methodLinkNest RX3 36 yX1_init RX6) U ∧ va_Nw (.methodLinkNest RX3 37 yX2_init RX6) U ∧ va_Nw (.methodLinkNest RX3 38 yX0_init RX6) U ∧ va_Nw (.methodLinkNest RX6 18 yX5_init RX6) U
def Ev (g : GG) (mi : MI) (E : Array Value → State → Prop) (p : Program) (s : State) (m : MethodId) (args : Array Value) (meth : Method) (c : Code) : Prop :=
  p.tables.exec = Jvm.exec ∧ c.code = mi.2.1 ∧ meth.sig.returnType = mi.2.2.2 ∧ c.maxLocals = mi.2.2.1 ∧ s.vm.findClass mi.1.cls = some m.cls ∧ (∀ w ∈ wU, w.before args s = true) ∧ meth.locks = false ∧ (mi.1.name = "<init>" → meth.name = "<init>") ∧ KU g s ∧ g.2.1 ≤ s.heap.size ∧ E args s ∧ KX s
def Hw (g : GG) (s : State) (φ : Nat → ce) (n : Nat) (H : Heap) (locs : List Loc) : Prop := Hp g φ n H ∧ va_S (fun q => g.2.1 ≤ q) s.heap H locs
/-- at pc, with these locals, this stack and this world, the method comes to its end Z -/
def V (g : GG) (R : Room) (mi : MI) (Z : List Frame → Array Value → State → State → Prop) (E : Array Value → State → Prop) (pc : Nat) (lv : List (Nat × Value)) (st : List Value) (φ : Nat → ce) (n ca sl : Nat) : Prop :=
  ∀ (p : Program) (e : Env) (s : State) (m : MethodId) (args : Array Value) (below : List Frame) (meth : Method) (c : Code) (H : Heap) (locs : List Loc) (ls : Array Slot), Ev g mi E p s m args meth c → Hw g s φ n H locs → lv_has ls mi.2.2.1 lv → W p g.1 e R s m args below meth c H locs ca sl (Z below args s) (F0 m pc ls st)
/-- locals, kept in the order of their numbers -/
def lset : List (Nat × Value) → Nat → Value → List (Nat × Value)
  | [], i, v => [(i, v)]
  | (j, w) :: r, i, v => if j = i then (i, v) :: r else if i < j then (i, v) :: (j, w) :: r else (j, w) :: lset r i v
theorem lset_mem {q : Nat × Value} {i : Nat} {v : Value} : ∀ {l : List (Nat × Value)}, (l.Pairwise (fun a b => a.1 < b.1)) → q ∈ lset l i v → q = (i, v) ∨ (q ∈ l ∧ q.1 ≠ i)
  | [], _, h => by
    rcases List.mem_cons.mp h with h | h
    · exact Or.inl h
    · cases h
  | (j, w) :: r, hs, h => by
    obtain ⟨h1, h2⟩ := List.pairwise_cons.mp hs
    unfold lset at h
    split at h
    · rename_i e
      rcases List.mem_cons.mp h with h | h
      · exact Or.inl h
      · exact Or.inr ⟨List.mem_cons_of_mem _ h, fun z => by have := h1 q h; simp only at this; omega⟩
    · split at h
      · rename_i ne lt
        rcases List.mem_cons.mp h with h | h
        · exact Or.inl h
        · refine Or.inr ⟨h, fun z => ?_⟩
          rcases List.mem_cons.mp h with h | h
          · subst h; simp only at z; omega
          · have := h1 q h; simp only at this; omega
      · rename_i ne lt
        rcases List.mem_cons.mp h with h | h
        · exact Or.inr ⟨by rw [h]; exact List.mem_cons_self, by rw [h]; exact ne⟩
        · rcases lset_mem h2 h with h | ⟨h, h3⟩
          · exact Or.inl h
          · exact Or.inr ⟨List.mem_cons_of_mem _ h, h3⟩
/-- the locals are in order, and none is wide -/
def lvS : List (Nat × Value) → Bool
  | [] => true
  | [q] => q.2.category == 1
  | q :: q2 :: r => decide (q.1 < q2.1) && (q.2.category == 1) && lvS (q2 :: r)
theorem lvS_cat : ∀ {l : List (Nat × Value)}, lvS l = true → ∀ q ∈ l, q.2.category = 1
  | [], _, q, h => by cases h
  | [a], hs, q, h => by
    rw [List.mem_singleton.mp h]
    simpa [lvS] using hs
  | a :: b :: r, hs, q, h => by
    simp only [lvS, Bool.and_eq_true, decide_eq_true_eq, beq_iff_eq] at hs
    rcases List.mem_cons.mp h with h | h
    · rw [h]; exact hs.1.2
    · exact lvS_cat hs.2 q h
theorem lvS_pw : ∀ {l : List (Nat × Value)}, lvS l = true → l.Pairwise (fun a b => a.1 < b.1)
  | [], _ => List.Pairwise.nil
  | [a], _ => List.pairwise_singleton _ _
  | a :: b :: r, hs => by
    simp only [lvS, Bool.and_eq_true, decide_eq_true_eq, beq_iff_eq] at hs
    have ih := lvS_pw hs.2
    refine List.pairwise_cons.mpr ⟨fun q hq => ?_, ih⟩
    rcases List.mem_cons.mp hq with h | h
    · rw [h]; exact hs.1.1
    · exact Nat.lt_trans hs.1.1 ((List.pairwise_cons.mp ih).1 q h)
theorem lset_has {ls : Array Slot} {nL i : Nat} {v : Value} {lv : List (Nat × Value)} (hs : lvS lv = true) (h : lv_has ls nL ((i, v) :: lv.filter (fun q => !(q.1 == i) && !(q.1 + 1 == i && q.2.category == 2)))) : lv_has ls nL (lset lv i v) := by
  refine ⟨h.1, h.2.1, fun q hq => h.2.2 q ?_⟩
  rcases lset_mem (lvS_pw hs) hq with e | ⟨h1, h2⟩
  · rw [e]; exact List.mem_cons_self
  · refine List.mem_cons_of_mem _ (List.mem_filter.mpr ⟨h1, ?_⟩)
    simp [h2, lvS_cat hs q h1]
theorem I_toInt {x : Int} (h : inR x) : (Int32.ofInt x).toInt = x := by
  rw [Int32.toInt_ofInt]
  obtain ⟨h1, h2⟩ := h
  show x.bmod (2 ^ 32) = x
  rw [Int.bmod_eq_of_le (by omega) (by omega)]
theorem I_eq {x y : Int} (hx : inR x) (hy : inR y) : Int32.ofInt x = Int32.ofInt y ↔ x = y := by
  rw [← Int32.toInt_inj, I_toInt hx, I_toInt hy]
theorem I_lt {x y : Int} (hx : inR x) (hy : inR y) : Int32.ofInt x < Int32.ofInt y ↔ x < y := by
  rw [Int32.lt_iff_toInt_lt, I_toInt hx, I_toInt hy]
theorem I_le {x y : Int} (hx : inR x) (hy : inR y) : Int32.ofInt x ≤ Int32.ofInt y ↔ x ≤ y := by
  rw [Int32.le_iff_toInt_le, I_toInt hx, I_toInt hy]
theorem I_0 : (0 : Int32) = Int32.ofInt 0 := rfl
theorem inR_0 : inR 0 := ⟨by decide, by decide⟩
theorem I_cl {x : Int} (hx : inR x) (h0 : 0 ≤ x) : (Int32.ofInt x).toNatClampNeg = x.toNat := by
  show (Int32.ofInt x).toInt.toNat = _
  rw [I_toInt hx]
theorem I_in {x : Int} {N : Nat} (h0 : 0 ≤ x) (h1 : x < N) (hN : N < 2147483648) : vp_in (Int32.ofInt x) N := by
  rw [vp_in_iff, I_toInt ⟨by omega, by omega⟩]
  exact ⟨h0, h1⟩
theorem vi_cat (x : Int) : (vi x).category = 1 := rfl
theorem rf_cat (g : GG) (k : Nat) : (rf g k).category = 1 := rfl
section VROWS
variable {g : GG} {R : Room} {mi : MI} {Z : List Frame → Array Value → State → State → Prop} {E : Array Value → State → Prop} {pc nx : Nat} {lv : List (Nat × Value)} {st : List Value} {φ : Nat → ce} {n ca sl : Nat}
theorem v_iload_n {k : Fin 4} {x : Int} (j : Nat) (hd : decode mi.2.1 pc = .ok (.iload_n k, 1)) (hn : pc + 1 = nx) (hl : lv[j]? = some (k.val, vi x)) (kk : V g R mi Z E nx lv (vi x :: st) φ n ca sl) : V g R mi Z E pc lv st φ n ca sl := by
  subst hn
  intro p e s m args below meth c H locs ls ev hw hh
  exact lv_iload_n ev.1 ev.2.1 hd rfl (lv_at hh j hl) (kk p e s m args below meth c H locs ls ev hw hh)
theorem v_iload {i : Nat} {x : Int} (j : Nat) (hd : decode mi.2.1 pc = .ok (.iload i, 2)) (hn : pc + 2 = nx) (hl : lv[j]? = some (i, vi x)) (kk : V g R mi Z E nx lv (vi x :: st) φ n ca sl) : V g R mi Z E pc lv st φ n ca sl := by
  subst hn
  intro p e s m args below meth c H locs ls ev hw hh
  exact lv_iload ev.1 ev.2.1 hd (lv_at hh j hl) (kk p e s m args below meth c H locs ls ev hw hh)
theorem v_aload_n {k : Fin 4} {x : Nat} (j : Nat) (hd : decode mi.2.1 pc = .ok (.aload_n k, 1)) (hn : pc + 1 = nx) (hl : lv[j]? = some (k.val, rf g x)) (kk : V g R mi Z E nx lv (rf g x :: st) φ n ca sl) : V g R mi Z E pc lv st φ n ca sl := by
  subst hn
  intro p e s m args below meth c H locs ls ev hw hh
  exact lv_aload_n ev.1 ev.2.1 hd rfl (lv_at hh j hl) (kk p e s m args below meth c H locs ls ev hw hh)
theorem v_aload {i : Nat} {x : Nat} (j : Nat) (hd : decode mi.2.1 pc = .ok (.aload i, 2)) (hn : pc + 2 = nx) (hl : lv[j]? = some (i, rf g x)) (kk : V g R mi Z E nx lv (rf g x :: st) φ n ca sl) : V g R mi Z E pc lv st φ n ca sl := by
  subst hn
  intro p e s m args below meth c H locs ls ev hw hh
  exact lv_aload ev.1 ev.2.1 hd (lv_at hh j hl) (kk p e s m args below meth c H locs ls ev hw hh)
theorem v_iconst {x : Int} (hd : decode mi.2.1 pc = .ok (.iconst x, 1)) (hn : pc + 1 = nx) (kk : V g R mi Z E nx lv (vi x :: st) φ n ca sl) : V g R mi Z E pc lv st φ n ca sl := by
  subst hn
  intro p e s m args below meth c H locs ls ev hw hh
  exact lv_iconst ev.1 ev.2.1 hd rfl (kk p e s m args below meth c H locs ls ev hw hh)
theorem v_bipush {x : Int} (hd : decode mi.2.1 pc = .ok (.bipush x, 2)) (hn : pc + 2 = nx) (hx : (Int8.ofInt x).toInt32 = Int32.ofInt x) (kk : V g R mi Z E nx lv (vi x :: st) φ n ca sl) : V g R mi Z E pc lv st φ n ca sl := by
  subst hn
  intro p e s m args below meth c H locs ls ev hw hh
  exact lv_bipush ev.1 ev.2.1 hd hx (kk p e s m args below meth c H locs ls ev hw hh)
theorem v_sipush {x : Int} (hd : decode mi.2.1 pc = .ok (.sipush x, 3)) (hn : pc + 3 = nx) (hx : (Int16.ofInt x).toInt32 = Int32.ofInt x) (kk : V g R mi Z E nx lv (vi x :: st) φ n ca sl) : V g R mi Z E pc lv st φ n ca sl := by
  subst hn
  intro p e s m args below meth c H locs ls ev hw hh
  exact lv_sipush ev.1 ev.2.1 hd hx (kk p e s m args below meth c H locs ls ev hw hh)
theorem v_iadd {x y : Int} (hd : decode mi.2.1 pc = .ok (.iadd, 1)) (hn : pc + 1 = nx) (kk : V g R mi Z E nx lv (vi (x + y) :: st) φ n ca sl) : V g R mi Z E pc lv (vi y :: vi x :: st) φ n ca sl := by
  subst hn
  intro p e s m args below meth c H locs ls ev hw hh
  refine lv_iadd ev.1 ev.2.1 hd ?_
  have h := kk p e s m args below meth c H locs ls ev hw hh
  unfold vi at h
  rwa [Int32.ofInt_add] at h
theorem v_isub {x y : Int} (hd : decode mi.2.1 pc = .ok (.isub, 1)) (hn : pc + 1 = nx) (kk : V g R mi Z E nx lv (vi (x - y) :: st) φ n ca sl) : V g R mi Z E pc lv (vi y :: vi x :: st) φ n ca sl := by
  subst hn
  intro p e s m args below meth c H locs ls ev hw hh
  refine lv_isub ev.1 ev.2.1 hd ?_
  have h := kk p e s m args below meth c H locs ls ev hw hh
  unfold vi at h
  rwa [Int32.ofInt_sub] at h
theorem v_imul {x y : Int} (hd : decode mi.2.1 pc = .ok (.imul, 1)) (hn : pc + 1 = nx) (kk : V g R mi Z E nx lv (vi (x * y) :: st) φ n ca sl) : V g R mi Z E pc lv (vi y :: vi x :: st) φ n ca sl := by
  subst hn
  intro p e s m args below meth c H locs ls ev hw hh
  refine lv_imul ev.1 ev.2.1 hd ?_
  have h := kk p e s m args below meth c H locs ls ev hw hh
  unfold vi at h
  rwa [Int32.ofInt_mul] at h
theorem v_dup {v : Value} (hd : decode mi.2.1 pc = .ok (.dup, 1)) (hn : pc + 1 = nx) (hv : v.category = 1) (kk : V g R mi Z E nx lv (v :: v :: st) φ n ca sl) : V g R mi Z E pc lv (v :: st) φ n ca sl := by
  subst hn
  intro p e s m args below meth c H locs ls ev hw hh
  exact lv_dup ev.1 ev.2.1 hd hv (kk p e s m args below meth c H locs ls ev hw hh)
theorem v_dup2 {v w : Value} (hd : decode mi.2.1 pc = .ok (.dup2, 1)) (hn : pc + 1 = nx) (hv : v.category = 1) (hw1 : w.category = 1) (kk : V g R mi Z E nx lv (v :: w :: v :: w :: st) φ n ca sl) : V g R mi Z E pc lv (v :: w :: st) φ n ca sl := by
  subst hn
  intro p e s m args below meth c H locs ls ev hw hh
  exact lv_dup2_11 ev.1 ev.2.1 hd hv hw1 (kk p e s m args below meth c H locs ls ev hw hh)
theorem v_istore_n {k : Fin 4} {x : Int} (hd : decode mi.2.1 pc = .ok (.istore_n k, 1)) (hn : pc + 1 = nx) (hs : lvS lv = true) (hk : k.val < mi.2.2.1) (kk : V g R mi Z E nx (lset lv k.val (vi x)) st φ n ca sl) : V g R mi Z E pc lv (vi x :: st) φ n ca sl := by
  subst hn
  intro p e s m args below meth c H locs ls ev hw hh
  exact lv_istore_n ev.1 ev.2.1 hd rfl hh hk rfl (fun ls' h' => kk p e s m args below meth c H locs ls' ev hw (lset_has hs h'))
theorem v_istore {i : Nat} {x : Int} (hd : decode mi.2.1 pc = .ok (.istore i, 2)) (hn : pc + 2 = nx) (hs : lvS lv = true) (hk : i < mi.2.2.1) (kk : V g R mi Z E nx (lset lv i (vi x)) st φ n ca sl) : V g R mi Z E pc lv (vi x :: st) φ n ca sl := by
  subst hn
  intro p e s m args below meth c H locs ls ev hw hh
  exact lv_istore ev.1 ev.2.1 hd hh hk rfl (fun ls' h' => kk p e s m args below meth c H locs ls' ev hw (lset_has hs h'))
theorem v_astore_n {k : Fin 4} {x : Nat} (hd : decode mi.2.1 pc = .ok (.astore_n k, 1)) (hn : pc + 1 = nx) (hs : lvS lv = true) (hk : k.val < mi.2.2.1) (kk : V g R mi Z E nx (lset lv k.val (rf g x)) st φ n ca sl) : V g R mi Z E pc lv (rf g x :: st) φ n ca sl := by
  subst hn
  intro p e s m args below meth c H locs ls ev hw hh
  exact lv_astore_n ev.1 ev.2.1 hd rfl hh hk rfl (fun ls' h' => kk p e s m args below meth c H locs ls' ev hw (lset_has hs h'))
theorem v_astore {i : Nat} {x : Nat} (hd : decode mi.2.1 pc = .ok (.astore i, 2)) (hn : pc + 2 = nx) (hs : lvS lv = true) (hk : i < mi.2.2.1) (kk : V g R mi Z E nx (lset lv i (rf g x)) st φ n ca sl) : V g R mi Z E pc lv (rf g x :: st) φ n ca sl := by
  subst hn
  intro p e s m args below meth c H locs ls ev hw hh
  exact lv_astore ev.1 ev.2.1 hd hh hk rfl (fun ls' h' => kk p e s m args below meth c H locs ls' ev hw (lset_has hs h'))
theorem v_iinc {i : Nat} {z x : Int} (j : Nat) (hd : decode mi.2.1 pc = .ok (.iinc i z, 3)) (hn : pc + 3 = nx) (hl : lv[j]? = some (i, vi x)) (hs : lvS lv = true) (hk : i < mi.2.2.1) (kk : V g R mi Z E nx (lset lv i (vi (x + z))) st φ n ca sl) : V g R mi Z E pc lv st φ n ca sl := by
  subst hn
  intro p e s m args below meth c H locs ls ev hw hh
  exact lv_iinc (v := Int32.ofInt (x + z)) ev.1 ev.2.1 hd hh hl (by rw [Int32.ofInt_add]) hk rfl (fun ls' h' => kk p e s m args below meth c H locs ls' ev hw (lset_has hs h'))
theorem v_goto {off : Int} {tgt : Nat} (hd : decode mi.2.1 pc = .ok (.goto off, 3)) (ht : (pc : Int) + off = (tgt : Int)) (kk : V g R mi Z E tgt lv st φ n ca sl) : V g R mi Z E pc lv st φ n ca sl := by
  intro p e s m args below meth c H locs ls ev hw hh
  exact lv_goto ev.1 ev.2.1 hd ht (kk p e s m args below meth c H locs ls ev hw hh)
theorem v_icmp_eq {x y off : Int} {tgt : Nat} (hd : decode mi.2.1 pc = .ok (.if_icmp .eq off, 3)) (ht : (pc : Int) + off = (tgt : Int)) (hn : pc + 3 = nx) (hx : inR x) (hy : inR y) (k1 : x = y → V g R mi Z E tgt lv st φ n ca sl) (k2 : ¬ x = y → V g R mi Z E nx lv st φ n ca sl) : V g R mi Z E pc lv (vi y :: vi x :: st) φ n ca sl := by
  subst hn
  intro p e s m args below meth c H locs ls ev hw hh
  exact lv_icmp_eq ev.1 ev.2.1 hd ht (fun h => k1 ((I_eq hx hy).mp h) p e s m args below meth c H locs ls ev hw hh) (fun h => k2 (fun z => h ((I_eq hx hy).mpr z)) p e s m args below meth c H locs ls ev hw hh)
theorem v_icmp_ne {x y off : Int} {tgt : Nat} (hd : decode mi.2.1 pc = .ok (.if_icmp .ne off, 3)) (ht : (pc : Int) + off = (tgt : Int)) (hn : pc + 3 = nx) (hx : inR x) (hy : inR y) (k1 : ¬ x = y → V g R mi Z E tgt lv st φ n ca sl) (k2 : x = y → V g R mi Z E nx lv st φ n ca sl) : V g R mi Z E pc lv (vi y :: vi x :: st) φ n ca sl := by
  subst hn
  intro p e s m args below meth c H locs ls ev hw hh
  exact lv_icmp_ne ev.1 ev.2.1 hd ht (fun h => k1 (fun z => h ((I_eq hx hy).mpr z)) p e s m args below meth c H locs ls ev hw hh) (fun h => k2 ((I_eq hx hy).mp h) p e s m args below meth c H locs ls ev hw hh)
theorem v_icmp_lt {x y off : Int} {tgt : Nat} (hd : decode mi.2.1 pc = .ok (.if_icmp .lt off, 3)) (ht : (pc : Int) + off = (tgt : Int)) (hn : pc + 3 = nx) (hx : inR x) (hy : inR y) (k1 : x < y → V g R mi Z E tgt lv st φ n ca sl) (k2 : ¬ x < y → V g R mi Z E nx lv st φ n ca sl) : V g R mi Z E pc lv (vi y :: vi x :: st) φ n ca sl := by
  subst hn
  intro p e s m args below meth c H locs ls ev hw hh
  exact lv_icmp_lt ev.1 ev.2.1 hd ht (fun h => k1 ((I_lt hx hy).mp h) p e s m args below meth c H locs ls ev hw hh) (fun h => k2 (fun z => h ((I_lt hx hy).mpr z)) p e s m args below meth c H locs ls ev hw hh)
theorem v_icmp_ge {x y off : Int} {tgt : Nat} (hd : decode mi.2.1 pc = .ok (.if_icmp .ge off, 3)) (ht : (pc : Int) + off = (tgt : Int)) (hn : pc + 3 = nx) (hx : inR x) (hy : inR y) (k1 : y ≤ x → V g R mi Z E tgt lv st φ n ca sl) (k2 : ¬ y ≤ x → V g R mi Z E nx lv st φ n ca sl) : V g R mi Z E pc lv (vi y :: vi x :: st) φ n ca sl := by
  subst hn
  intro p e s m args below meth c H locs ls ev hw hh
  exact lv_icmp_ge ev.1 ev.2.1 hd ht (fun h => k1 ((I_le hy hx).mp h) p e s m args below meth c H locs ls ev hw hh) (fun h => k2 (fun z => h ((I_le hy hx).mpr z)) p e s m args below meth c H locs ls ev hw hh)
theorem v_icmp_gt {x y off : Int} {tgt : Nat} (hd : decode mi.2.1 pc = .ok (.if_icmp .gt off, 3)) (ht : (pc : Int) + off = (tgt : Int)) (hn : pc + 3 = nx) (hx : inR x) (hy : inR y) (k1 : y < x → V g R mi Z E tgt lv st φ n ca sl) (k2 : ¬ y < x → V g R mi Z E nx lv st φ n ca sl) : V g R mi Z E pc lv (vi y :: vi x :: st) φ n ca sl := by
  subst hn
  intro p e s m args below meth c H locs ls ev hw hh
  exact lv_icmp_gt ev.1 ev.2.1 hd ht (fun h => k1 ((I_lt hy hx).mp h) p e s m args below meth c H locs ls ev hw hh) (fun h => k2 (fun z => h ((I_lt hy hx).mpr z)) p e s m args below meth c H locs ls ev hw hh)
theorem v_icmp_le {x y off : Int} {tgt : Nat} (hd : decode mi.2.1 pc = .ok (.if_icmp .le off, 3)) (ht : (pc : Int) + off = (tgt : Int)) (hn : pc + 3 = nx) (hx : inR x) (hy : inR y) (k1 : x ≤ y → V g R mi Z E tgt lv st φ n ca sl) (k2 : ¬ x ≤ y → V g R mi Z E nx lv st φ n ca sl) : V g R mi Z E pc lv (vi y :: vi x :: st) φ n ca sl := by
  subst hn
  intro p e s m args below meth c H locs ls ev hw hh
  exact lv_icmp_le ev.1 ev.2.1 hd ht (fun h => k1 ((I_le hx hy).mp h) p e s m args below meth c H locs ls ev hw hh) (fun h => k2 (fun z => h ((I_le hx hy).mpr z)) p e s m args below meth c H locs ls ev hw hh)
theorem v_if_eq {x off : Int} {tgt : Nat} (hd : decode mi.2.1 pc = .ok (.ifCond .eq off, 3)) (ht : (pc : Int) + off = (tgt : Int)) (hn : pc + 3 = nx) (hx : inR x) (k1 : x = 0 → V g R mi Z E tgt lv st φ n ca sl) (k2 : ¬ x = 0 → V g R mi Z E nx lv st φ n ca sl) : V g R mi Z E pc lv (vi x :: st) φ n ca sl := by
  subst hn
  intro p e s m args below meth c H locs ls ev hw hh
  exact lv_if_eq ev.1 ev.2.1 hd ht (fun h => k1 ((I_eq hx inR_0).mp h) p e s m args below meth c H locs ls ev hw hh) (fun h => k2 (fun z => h ((I_eq hx inR_0).mpr z)) p e s m args below meth c H locs ls ev hw hh)
theorem v_if_ne {x off : Int} {tgt : Nat} (hd : decode mi.2.1 pc = .ok (.ifCond .ne off, 3)) (ht : (pc : Int) + off = (tgt : Int)) (hn : pc + 3 = nx) (hx : inR x) (k1 : ¬ x = 0 → V g R mi Z E tgt lv st φ n ca sl) (k2 : x = 0 → V g R mi Z E nx lv st φ n ca sl) : V g R mi Z E pc lv (vi x :: st) φ n ca sl := by
  subst hn
  intro p e s m args below meth c H locs ls ev hw hh
  exact lv_if_ne ev.1 ev.2.1 hd ht (fun h => k1 (fun z => h ((I_eq hx inR_0).mpr z)) p e s m args below meth c H locs ls ev hw hh) (fun h => k2 ((I_eq hx inR_0).mp h) p e s m args below meth c H locs ls ev hw hh)
theorem v_if_lt {x off : Int} {tgt : Nat} (hd : decode mi.2.1 pc = .ok (.ifCond .lt off, 3)) (ht : (pc : Int) + off = (tgt : Int)) (hn : pc + 3 = nx) (hx : inR x) (k1 : x < 0 → V g R mi Z E tgt lv st φ n ca sl) (k2 : ¬ x < 0 → V g R mi Z E nx lv st φ n ca sl) : V g R mi Z E pc lv (vi x :: st) φ n ca sl := by
  subst hn
  intro p e s m args below meth c H locs ls ev hw hh
  exact lv_if_lt ev.1 ev.2.1 hd ht (fun h => k1 ((I_lt hx inR_0).mp h) p e s m args below meth c H locs ls ev hw hh) (fun h => k2 (fun z => h ((I_lt hx inR_0).mpr z)) p e s m args below meth c H locs ls ev hw hh)
theorem v_if_ge {x off : Int} {tgt : Nat} (hd : decode mi.2.1 pc = .ok (.ifCond .ge off, 3)) (ht : (pc : Int) + off = (tgt : Int)) (hn : pc + 3 = nx) (hx : inR x) (k1 : 0 ≤ x → V g R mi Z E tgt lv st φ n ca sl) (k2 : ¬ 0 ≤ x → V g R mi Z E nx lv st φ n ca sl) : V g R mi Z E pc lv (vi x :: st) φ n ca sl := by
  subst hn
  intro p e s m args below meth c H locs ls ev hw hh
  exact lv_if_ge ev.1 ev.2.1 hd ht (fun h => k1 ((I_le inR_0 hx).mp h) p e s m args below meth c H locs ls ev hw hh) (fun h => k2 (fun z => h ((I_le inR_0 hx).mpr z)) p e s m args below meth c H locs ls ev hw hh)
theorem v_if_gt {x off : Int} {tgt : Nat} (hd : decode mi.2.1 pc = .ok (.ifCond .gt off, 3)) (ht : (pc : Int) + off = (tgt : Int)) (hn : pc + 3 = nx) (hx : inR x) (k1 : 0 < x → V g R mi Z E tgt lv st φ n ca sl) (k2 : ¬ 0 < x → V g R mi Z E nx lv st φ n ca sl) : V g R mi Z E pc lv (vi x :: st) φ n ca sl := by
  subst hn
  intro p e s m args below meth c H locs ls ev hw hh
  exact lv_if_gt ev.1 ev.2.1 hd ht (fun h => k1 ((I_lt inR_0 hx).mp h) p e s m args below meth c H locs ls ev hw hh) (fun h => k2 (fun z => h ((I_lt inR_0 hx).mpr z)) p e s m args below meth c H locs ls ev hw hh)
theorem v_if_le {x off : Int} {tgt : Nat} (hd : decode mi.2.1 pc = .ok (.ifCond .le off, 3)) (ht : (pc : Int) + off = (tgt : Int)) (hn : pc + 3 = nx) (hx : inR x) (k1 : x ≤ 0 → V g R mi Z E tgt lv st φ n ca sl) (k2 : ¬ x ≤ 0 → V g R mi Z E nx lv st φ n ca sl) : V g R mi Z E pc lv (vi x :: st) φ n ca sl := by
  subst hn
  intro p e s m args below meth c H locs ls ev hw hh
  exact lv_if_le ev.1 ev.2.1 hd ht (fun h => k1 ((I_le hx inR_0).mp h) p e s m args below meth c H locs ls ev hw hh) (fun h => k2 (fun z => h ((I_le hx inR_0).mpr z)) p e s m args below meth c H locs ls ev hw hh)
end VROWS
end
section
/-! ===== the world's cells: reads and writes ===== -/
theorem Hp.at {g : GG} {φ : Nat → ce} {n k : Nat} {H : Heap} {x : ce} (h : Hp g φ n H) (hk : k < n) (hx : φ k = x) : va_at g.2.2.1 vwCl (g.2.1 + k, toE g x) H := by
  have := h.2 k hk
  rwa [hx] at this
theorem Hp.set {g : GG} {φ : Nat → ce} {n k : Nat} {H H1 : Heap} {x : ce} (h : Hp g φ n H) (h1 : va_at g.2.2.1 vwCl (g.2.1 + k, toE g x) H1) (hz : H1.size = H.size) (oq : ∀ q : Nat, q ≠ g.2.1 + k → H1[q]? = H[q]?) : Hp g (va_up φ k x) n H1 := by
  refine ⟨by rw [hz]; exact h.1, fun j hj => ?_⟩
  by_cases e : j = k
  · subst e
    rw [show va_up φ j x j = x from if_pos rfl]
    exact h1
  · rw [show va_up φ k x j = φ j from if_neg e]
    exact (h.2 j hj).kept (oq _ (by show g.2.1 + j ≠ g.2.1 + k; omega))
theorem Hp.push {g : GG} {φ : Nat → ce} {n : Nat} {H H1 : Heap} {x : ce} (h : Hp g φ n H) (h1 : va_at g.2.2.1 vwCl (g.2.1 + n, toE g x) H1) (hz : H1.size = H.size + 1) (oq : ∀ q : Nat, q < H.size → H1[q]? = H[q]?) : Hp g (va_up φ n x) (n + 1) H1 := by
  refine ⟨by rw [hz, h.1]; omega, fun j hj => ?_⟩
  by_cases e : j = n
  · subst e
    rw [show va_up φ j x j = x from if_pos rfl]
    exact h1
  · rw [show va_up φ n x j = φ j from if_neg e]
    exact (h.2 j (by omega)).kept (oq _ (by show g.2.1 + j < H.size; rw [h.1]; omega))
theorem Hp.cong {g : GG} {φ ψ : Nat → ce} {n : Nat} {H : Heap} (h : Hp g φ n H) (e : ∀ k, k < n → φ k = ψ k) : Hp g ψ n H := ⟨h.1, fun k hk => by rw [← e k hk]; exact h.2 k hk⟩
/-- what the machine's words give of a class of ours: fields' words among wU -/
theorem vaS_put {g : GG} {s : State} {H H1 : Heap} {locs : List Loc} {a k : Nat} (h : va_S (fun q => g.2.1 ≤ q) s.heap H locs) (z : H1.size = H.size) (oq : ∀ q : Nat, q ≠ g.2.1 + a → H1[q]? = H[q]?) : va_S (fun q => g.2.1 ≤ q) s.heap H1 (locs ++ [⟨g.2.1 + a, k⟩]) := h.put z oq (Nat.le_add_right _ _)
theorem vaS_push {g : GG} {s : State} {H H1 : Heap} {locs : List Loc} (h : va_S (fun q => g.2.1 ≤ q) s.heap H locs) (z : H.size ≤ H1.size) (oq : ∀ q : Nat, q < H.size → H1[q]? = H[q]?) : va_S (fun q => g.2.1 ≤ q) s.heap H1 locs := ⟨Nat.le_trans h.1 z, fun q h1 h2 => (oq q (Nat.lt_of_lt_of_le h1 h.1)).trans (h.2.1 q h1 h2), h.2.2⟩
section VHEAP
variable {g : GG} {R : Room} {mi : MI} {Z : List Frame → Array Value → State → State → Prop} {E : Array Value → State → Prop} {pc nx : Nat} {lv : List (Nat × Value)} {st : List Value} {φ : Nat → ce} {n ca sl : Nat}
/-- the world named anew -/
theorem V.cong {ψ : Nat → ce} (e : ∀ k, k < n → φ k = ψ k) (kk : V g R mi Z E pc lv st ψ n ca sl) : V g R mi Z E pc lv st φ n ca sl :=
  fun p e' s m args below meth c H locs ls ev hw hh => kk p e' s m args below meth c H locs ls ev ⟨hw.1.cong e, hw.2⟩ hh
theorem V.widen {ca' sl' : Nat} (h1 : ca ≤ ca') (h2 : sl ≤ sl') (kk : V g R mi Z E pc lv st φ n ca' sl') : V g R mi Z E pc lv st φ n ca sl :=
  fun p e' s m args below meth c H locs ls ev hw hh => W.widen h1 h2 (kk p e' s m args below meth c H locs ls ev hw hh)
theorem V.lsub {lv' : List (Nat × Value)} (h : ∀ q ∈ lv', q ∈ lv) (kk : V g R mi Z E pc lv' st φ n ca sl) : V g R mi Z E pc lv st φ n ca sl :=
  fun p e' s m args below meth c H locs ls ev hw hh => kk p e' s m args below meth c H locs ls ev hw ⟨hh.1, hh.2.1, fun q hq => hh.2.2 q (h q hq)⟩
theorem v_get {k p idx ci N : Nat} {fs : List Value} {v : Value} {C : String} {T : u_T} (hd : decode mi.2.1 pc = .ok (.getfield idx, 3)) (hn : pc + 3 = nx) (hk : k < n) (hφ : φ k = .inr (ci, fs)) (hc : vwCl[ci]? = some (C, T, N)) (hin : ∀ w ∈ u_ws C T N, w ∈ wU) (hp : p < N) (hl : Cond.fieldLink mi.1.cls idx (T p).1 (T p).2.1 (T p).2.2.1 ∈ wU) (hv : fs[p]? = some v) (kk : V g R mi Z E nx lv (v :: st) φ n ca sl) : V g R mi Z E pc lv (rf g k :: st) φ n ca sl := by
  subst hn
  intro p' e s m args below meth c H locs ls ev hw hh
  obtain ⟨hx, hb, hr, hml, hown, hts, hlk, hnm, hK, hbs, hE⟩ := id ev
  have hat := hw.1.at hk hφ
  exact va_get (D := g.2.2.1) (cl := vwCl) (ws := [(g.2.1 + k, .inr (ci, fs))]) (tys := tysG g) hx hb hts hin hown hK (fun j q hq => by
    have hj : j < 1 := (List.getElem?_eq_some_iff.mp hq).1
    rw [show j = 0 by omega] at hq
    cases hq
    exact hat) 0 rfl hc p hp (hts _ hl) (fun _ h => h) hv hd (kk p' e s m args below meth c H locs ls ev hw hh)
theorem v_put {k p idx ci N : Nat} {fs : List Value} {v : Value} {C : String} {T : u_T} (hd : decode mi.2.1 pc = .ok (.putfield idx, 3)) (hn : pc + 3 = nx) (hk : k < n) (hφ : φ k = .inr (ci, fs)) (hc : vwCl[ci]? = some (C, T, N)) (hin : ∀ w ∈ u_ws C T N, w ∈ wU) (ty0 : Nat → FieldType) (hty : ∀ k, k < N → parseFieldDescriptor (T k).2.2.1 = some (ty0 k)) (hnm : ∀ a, a < N → ∀ b, b < N → a ≠ b → (T a).2.1 ≠ (T b).2.1) (hp : p < N) (hl : Cond.fieldLink mi.1.cls idx (T p).1 (T p).2.1 (T p).2.2.1 ∈ wU) (hfin : (T p).2.2.2 = false ∨ ((T p).2.2.2 = true ∧ mi.1.name = "<init>" ∧ (T p).1 = mi.1.cls)) (hvt : narrow (ty0 p) v = v) (hfit : fits (ty0 p) v = true) (hfl : p < fs.length) (kk : V g R mi Z E nx lv st (va_up φ k (.inr (ci, fs.set p v))) n ca sl) : V g R mi Z E pc lv (v :: rf g k :: st) φ n ca sl := by
  subst hn
  intro p' e s m args below meth c H locs ls ev hw hh
  obtain ⟨hx, hb, hr, hml, hown, hts, hlk, hnm', hK, hbs, hE⟩ := id ev
  have hap := va_apart (own := mi.1.cls) hts hin ty0 hty hnm hK hc
  obtain ⟨r, h1, cell, q1, q2, q3, q4⟩ := hw.1.at hk hφ
  have hr' : r = (C, T, N) := Option.some.inj (h1.symm.trans hc)
  subst hr'
  obtain ⟨hS, hfc, kC, hkC, hkind⟩ := hK.1 ci _ hc
  obtain ⟨cf, kf, fi, f, hi, hsl⟩ := hS p hp
  have hlay := hts _ (hin _ (u_in_lay hp))
  have hst := (u_facts hfc hkC (u_lays hts hin hp) hi).1
  have fin : ∀ H' : Heap, H'[g.2.1 + k]? = some (cell.setSlot (g.2.2.1.2 ci p) v) → H'.size = H.size → (∀ q, q ≠ g.2.1 + k → H'[q]? = H[q]?) → W p' g.1 e R s m args below meth c H' (locs ++ [⟨g.2.1 + k, g.2.2.1.2 ci p⟩]) ca sl (Z below args s) (F0 m (pc + 3) ls st) := by
    intro H' e1 e2 e3
    refine kk p' e s m args below meth c H' _ ls ev ⟨hw.1.set ?_ e2 e3, vaS_put hw.2 e2 e3⟩ hh
    exact ⟨_, hc, t_OB.to (V := updV (vp_V fs) p v) ⟨_, e1, q2, q3, t_set q4 hap hp v⟩ (fun j _ => vp_updV_set hfl v j)⟩
  unfold u_lay at hlay
  rcases hfin with hfin | ⟨hfin, hini, hdecl⟩
  · rw [if_neg (by rw [hfin]; decide)] at hlay
    have h6 := u_store hfc hkC hkind hlay hi (hty p hp) hvt hfit
    refine W.putK hx hb (f := f) ⟨hown, hts _ hl, ⟨_, _, _, hi⟩, hst⟩ (by rw [q2]; exact h6) q1 q3 (by rw [hsl]; exact k2_hasslot (q4 p hp)) rfl rfl hd fun H' e1 e2 e3 => ?_
    rw [hsl] at e1 ⊢
    exact fin H' e1 e2 e3
  · rw [if_pos hfin] at hlay
    have hcf : m.cls = cf := by
      obtain ⟨_, _, c', _, _, _, -, -, hf', -, -, -, hown2, -⟩ := Cond.laysFinal_spec hlay
      have e1 : c' = cf := by have := hi.symm.trans hf'; simp at this; exact this.1.symm
      rw [hdecl] at hown2
      rw [← e1]; exact Option.some.inj (hown.symm.trans hown2)
    have h6 := u_fits hfc hkC hkind (Or.inr hlay) hi (hty p hp) hvt hfit
    refine W.putFinK hx hb hown (hts _ hl) hi hst hcf (hnm' hini) (by rw [q2]; exact h6) q1 q3 (by rw [hsl]; exact k2_hasslot (q4 p hp)) rfl rfl hd fun H' e1 e2 e3 => ?_
    rw [hsl] at e1 ⊢
    exact fin H' e1 e2 e3
/-- an int array -/
theorem v_iald {k N : Nat} {i : Int} {f : Nat → Int32} (hd : decode mi.2.1 pc = .ok (.iaload, 1)) (hn : pc + 1 = nx) (hk : k < n) (hφ : φ k = .inl (0, N, .inl f)) (h0 : 0 ≤ i) (h1 : i < N) (hN : N < 2147483648) {v : Int} (hv : f i.toNat = Int32.ofInt v) (kk : V g R mi Z E nx lv (vi v :: st) φ n ca sl) : V g R mi Z E pc lv (vi i :: rf g k :: st) φ n ca sl := by
  subst hn
  intro p' e s m args below meth c H locs ls ev hw hh
  obtain ⟨hx, hb, hr, hml, hown, hts, hlk, hnm, hK, hbs, hE⟩ := id ev
  have hat := hw.1.at hk hφ
  refine va_iald (D := g.2.2.1) (cl := vwCl) (ws := [(g.2.1 + k, .inl (g.2.2.2 0, N, .inl f))]) (tys := tysG g) hx hb hK (fun j q hq => by
    have hj : j < 1 := (List.getElem?_eq_some_iff.mp hq).1
    rw [show j = 0 by omega] at hq
    cases hq
    exact hat) 0 0 rfl rfl (I_in h0 h1 hN) hd ?_
  have h := kk p' e s m args below meth c H locs ls ev hw hh
  rw [I_cl ⟨by omega, by omega⟩ h0, hv]
  exact h
theorem v_iast {k N : Nat} {i x : Int} {f : Nat → Int32} (hd : decode mi.2.1 pc = .ok (.iastore, 1)) (hn : pc + 1 = nx) (hk : k < n) (hφ : φ k = .inl (0, N, .inl f)) (h0 : 0 ≤ i) (h1 : i < N) (hN : N < 2147483648) (kk : V g R mi Z E nx lv st (va_up φ k (.inl (0, N, .inl (upd f i.toNat (Int32.ofInt x))))) n ca sl) : V g R mi Z E pc lv (vi x :: vi i :: rf g k :: st) φ n ca sl := by
  subst hn
  intro p' e s m args below meth c H locs ls ev hw hh
  obtain ⟨hx, hb, hr, hml, hown, hts, hlk, hnm, hK, hbs, hE⟩ := id ev
  have hat := hw.1.at hk hφ
  have hin := I_in h0 h1 hN
  refine W.iast (j := Int32.ofInt i) (x := Int32.ofInt x) hx hb hat ((hK.2 0 _ rfl).1 N (fun j => .int (f j))) (fun q => by cases q) (by show ¬ (_ < 0 ∨ (arrV _ _ _).slots.size ≤ _); rw [arrV_size]; exact hin) rfl rfl hd fun H1 e1 z oq => ?_
  rw [I_cl ⟨by omega, by omega⟩ h0] at e1 ⊢
  refine kk p' e s m args below meth c H1 _ ls ev ⟨hw.1.set ?_ z oq, vaS_put hw.2 z oq⟩ hh
  show H1[g.2.1 + k]? = some (vp_cell _ _)
  rw [e1]
  rw [vp_cell_i, vp_cell_i, arrV_store]
  congr 2
  funext q
  by_cases hq : q = i.toNat
  · subst hq
    simp [updV, upd]
  · simp [updV, upd, hq]
/-- a boolean array -/
theorem v_zald {k N : Nat} {i : Int} {f : Nat → Int32} (hd : decode mi.2.1 pc = .ok (.baload, 1)) (hn : pc + 1 = nx) (hk : k < n) (hφ : φ k = .inl (1, N, .inl f)) (h0 : 0 ≤ i) (h1 : i < N) (hN : N < 2147483648) {v : Int} (hv : f i.toNat = Int32.ofInt v) (kk : V g R mi Z E nx lv (vi v :: st) φ n ca sl) : V g R mi Z E pc lv (vi i :: rf g k :: st) φ n ca sl := by
  subst hn
  intro p' e s m args below meth c H locs ls ev hw hh
  obtain ⟨hx, hb, hr, hml, hown, hts, hlk, hnm, hK, hbs, hE⟩ := id ev
  have hat := hw.1.at hk hφ
  refine va_zald (D := g.2.2.1) (cl := vwCl) (ws := [(g.2.1 + k, .inl (g.2.2.2 1, N, .inl f))]) (tys := tysG g) hx hb hK (fun j q hq => by
    have hj : j < 1 := (List.getElem?_eq_some_iff.mp hq).1
    rw [show j = 0 by omega] at hq
    cases hq
    exact hat) 0 1 rfl rfl (I_in h0 h1 hN) hd ?_
  have h := kk p' e s m args below meth c H locs ls ev hw hh
  rw [I_cl ⟨by omega, by omega⟩ h0, hv]
  exact h
theorem v_zast {k N : Nat} {i x : Int} {f : Nat → Int32} (hd : decode mi.2.1 pc = .ok (.bastore, 1)) (hn : pc + 1 = nx) (hk : k < n) (hφ : φ k = .inl (1, N, .inl f)) (h0 : 0 ≤ i) (h1 : i < N) (hN : N < 2147483648) (hx01 : x = 0 ∨ x = 1) (kk : V g R mi Z E nx lv st (va_up φ k (.inl (1, N, .inl (upd f i.toNat (Int32.ofInt x))))) n ca sl) : V g R mi Z E pc lv (vi x :: vi i :: rf g k :: st) φ n ca sl := by
  subst hn
  intro p' e s m args below meth c H locs ls ev hw hh
  obtain ⟨hx, hb, hr, hml, hown, hts, hlk, hnm, hK, hbs, hE⟩ := id ev
  have hat := hw.1.at hk hφ
  have hin := I_in h0 h1 hN
  have hnar : narrow .boolean (.int (Int32.ofInt x)) = .int (Int32.ofInt x) := by
    rcases hx01 with rfl | rfl <;> rfl
  refine W.zast (j := Int32.ofInt i) (x := Int32.ofInt x) hx hb hat ((hK.2 1 _ rfl).1 N (fun j => .int (f j))) (fun q => by cases q) (by show ¬ (_ < 0 ∨ (arrV _ _ _).slots.size ≤ _); rw [arrV_size]; exact hin) rfl rfl hd fun H1 e1 z oq => ?_
  rw [I_cl ⟨by omega, by omega⟩ h0] at e1 ⊢
  rw [hnar] at e1
  refine kk p' e s m args below meth c H1 _ ls ev ⟨hw.1.set ?_ z oq, vaS_put hw.2 z oq⟩ hh
  show H1[g.2.1 + k]? = some (vp_cell _ _)
  rw [e1]
  rw [vp_cell_i, vp_cell_i, arrV_store]
  congr 2
  funext q
  by_cases hq : q = i.toNat
  · subst hq
    simp [updV, upd]
  · simp [updV, upd, hq]
/-- an array of references: tt is its number among tysG -/
theorem v_aald {k N tt : Nat} {ty : FieldType} {i : Int} {f : Nat → Option Nat} (hd : decode mi.2.1 pc = .ok (.aaload, 1)) (hn : pc + 1 = nx) (hk : k < n) (hφ : φ k = .inl (tt, N, .inr (.inr (.inr (.inr f))))) (ht : (tysG g)[tt]? = some (g.2.2.2 tt, ty)) (href : ty.isReference = true) (h0 : 0 ≤ i) (h1 : i < N) (hN : N < 2147483648) {j : Nat} (hv : f i.toNat = some (g.2.1 + j)) (kk : V g R mi Z E nx lv (rf g j :: st) φ n ca sl) : V g R mi Z E pc lv (vi i :: rf g k :: st) φ n ca sl := by
  subst hn
  intro p' e s m args below meth c H locs ls ev hw hh
  obtain ⟨hx, hb, hr, hml, hown, hts, hlk, hnm, hK, hbs, hE⟩ := id ev
  have hat := hw.1.at hk hφ
  have hin := I_in h0 h1 hN
  have hlt : i.toNat < N := by omega
  refine W.aald (v := va_rf (f i.toNat)) (ty := ty) (j := Int32.ofInt i) hx hb hat ((hK.2 tt _ ht).1 N (fun j => va_rf (f j))) href (fun q => by cases q) (by show ¬ (_ < 0 ∨ (arrV _ _ _).slots.size ≤ _); rw [arrV_size]; exact hin) (by show (arrV _ _ _).slots[_]? = _; rw [I_cl ⟨by omega, by omega⟩ h0, arrV_read _ _ hlt]) rfl rfl hd ?_
  rw [hv]
  exact kk p' e s m args below meth c H locs ls ev hw hh
theorem v_alen {k tt : Nat} {ty : FieldType} {x : vp_A} (hd : decode mi.2.1 pc = .ok (.arraylength, 1)) (hn : pc + 1 = nx) (hk : k < n) (hφ : φ k = .inl (tt, x)) (ht : (tysG g)[tt]? = some (g.2.2.2 tt, ty)) (kk : V g R mi Z E nx lv (vi (x.1 : Int) :: st) φ n ca sl) : V g R mi Z E pc lv (rf g k :: st) φ n ca sl := by
  subst hn
  intro p' e s m args below meth c H locs ls ev hw hh
  obtain ⟨hx, hb, hr, hml, hown, hts, hlk, hnm, hK, hbs, hE⟩ := id ev
  have hat := hw.1.at hk hφ
  refine va_alen (D := g.2.2.1) (cl := vwCl) (ws := [(g.2.1 + k, .inl (g.2.2.2 tt, x))]) (tys := tysG g) (v := Int32.ofInt (x.1 : Int)) hx hb hK (fun j q hq => by
    have hj : j < 1 := (List.getElem?_eq_some_iff.mp hq).1
    rw [show j = 0 by omega] at hq
    cases hq
    exact hat) 0 tt rfl ht (by rw [Int32.ofInt_eq_ofNat]) hd ?_
  exact kk p' e s m args below meth c H locs ls ev hw hh
end VHEAP
end
section
/-! ===== contracts over the world, calls, ends ===== -/
theorem AOA_moved {u U : State} (hvm : u.vm.Alike U.vm) (h : va_Nw (.arrayOver (.array .int)) u) : va_Nw (.arrayOver (.array .int)) U := by
  obtain ⟨comp, c, k, h1, h2, h3, h4, h5⟩ := arrayOverA_spec h
  obtain ⟨k', hk', he⟩ := hvm.2.2 _ _ h3
  have hi : (U.vm.classes.findIdx? fun (x : Class) => match x.kind with | .array component _ => component == comp | _ => false) = some c := by
    have e1 := (va_idx_bare U.vm comp).symm
    have e2 := va_idx_bare u.vm comp
    have e3 : u.vm.bare = U.vm.bare := by first | exact hvm.bare_eq | exact hvm.bare_eq.symm
    rw [e3] at e2
    exact e1.trans (e2.trans h2)
  have hkind : k'.kind = .array comp (.array .int) := by rw [he]; exact h4
  have f1 : U.vm.findClass (FieldType.array .int).toString = some comp := by rw [hvm.findClass]; exact h1
  have f2 : U.vm.findClass ("[" ++ (FieldType.array .int).toString) = some c := by rw [hvm.findClass]; exact h5
  unfold va_Nw Cond.before Cond.holds
  simp only [Cond.value]
  rw [f1, Option.bind_some]
  refine (congrArg (fun o : Option Nat => (o.bind (fun c => (U.vm.classes[c]?).map fun (k : Class) => match k.kind with | .array _ ty => decide (ty = FieldType.array .int) && decide (U.vm.findClass ("[" ++ (FieldType.array .int).toString) = some c) | _ => false) == some true)) hi).trans ?_
  simp [hk', hkind, f2]
theorem KX.warm {s U : State} (hW : s.WarmedH U.vm) (h : KX s) : KX U := by
  obtain ⟨⟨a1, a2, a3, a4, a5⟩, b1, b2, b3, b4, b5⟩ := h
  exact ⟨⟨a1.moved hW.alike, a2.moved hW.alike, a3.moved hW.alike, a4.moved hW.alike, AOA_moved hW.alike a5⟩, b1.warmM hW, b2.warmM hW, b3.warmM hW, b4.warmM hW, b5.warmM hW⟩
theorem KX.same {u U : State} (hv : u.vm = U.vm) (h : KX u) : KX U := by
  obtain ⟨⟨a1, a2, a3, a4, a5⟩, b1, b2, b3, b4, b5⟩ := h
  have ha : u.vm.Alike U.vm := by rw [hv]; exact Vm.Alike.refl _
  exact ⟨⟨a1.moved ha, a2.moved ha, a3.moved ha, a4.moved ha, AOA_moved ha a5⟩, va_Nw.same rfl hv b1, va_Nw.same rfl hv b2, va_Nw.same rfl hv b3, va_Nw.same rfl hv b4, va_Nw.same rfl hv b5⟩
def QQ (g : GG) (Q : Option Value → (Nat → ce) → Nat → Prop) : Array Value → State → Outcome → State → Prop := fun _ st oc t => ∃ (r : Option Value) (φ : Nat → ce) (n : Nat), oc = .returned r ∧ Q r φ n ∧ Hp g φ n t.heap ∧ va_F (fun q => g.2.1 ≤ q) st t
def rmD (d mc ms : Nat) : Room := { frames := d, cells := mc, slots := ms, locals := 34 * d }
/-- the method mi with the arguments As in the world φ of n cells comes to Q; at most d frames, mc cells of ms slots -/
def CT (g : GG) (d mc ms : Nat) (mi : MI) (As : List Value) (φ : Nat → ce) (n : Nat) (Q : Option Value → (Nat → ce) → Nat → Prop) : Prop :=
  Met g.1 mi.1 (.code mi.1 mi.2.1 mi.2.2.1 mi.2.2.2 :: wU) (rmD d mc ms) (va_Pc As (fun U => Hp g φ n U.heap ∧ KU g U ∧ KX U)) (QQ g Q) mc ms (fun a => g.2.1 ≤ a)
def ZM (g : GG) (mc ms : Nat) (Q : Option Value → (Nat → ce) → Nat → Prop) : List Frame → Array Value → State → State → Prop := fun below args s => MQ below (QQ g Q) args s mc ms (fun a => g.2.1 ≤ a)
def E0 : Array Value → State → Prop := fun _ _ => True
theorem CT.of {g : GG} {d mc ms : Nat} {mi : MI} {As : List Value} {φ : Nat → ce} {n : Nat} {Q : Option Value → (Nat → ce) → Nat → Prop} {lv : List (Nat × Value)} (hy : plainName mi.1.cls = true) (hl : (lg_sl As).length ≤ mi.2.2.1) (hlv : lv_args 0 As = lv)
    (h : V g (rmD d mc ms) mi (ZM g mc ms Q) E0 0 lv [] φ n 0 0) : CT g d mc ms mi As φ n Q := by
  subst hlv
  refine Met.ofW (cc := mi.2.1) (maxL := mi.2.2.1) (ret := mi.2.2.2) hy rfl ?_
  intro p e s m args below meth c s₁ B hml hv
  obtain ⟨rfl, hHp, hK, hX⟩ := hv
  have hts := atoms_spec (ws := Cond.code mi.1 mi.2.1 mi.2.2.1 mi.2.2.2 :: wU) B.pre
  have hown : s.vm.findClass mi.1.cls = some m.cls := findClass_of_methodNamed B.named
  rw [lg_entry_eq]
  exact h p e s m As.toArray below meth c s.heap [] _ ⟨B.exec, B.bytes, B.returns, hml, hown, fun w hw => hts w (List.mem_cons_of_mem _ hw), B.notSynchronized, fun hi => (name_of_methodNamed B.named B.method).1.trans hi, hK, by rw [hHp.1]; exact Nat.le_add_right _ _, trivial, hX⟩ ⟨hHp, va_S.rf⟩ (lv_entry As hl)
theorem CT.mono {g : GG} {d mc ms : Nat} {mi : MI} {As : List Value} {φ : Nat → ce} {n : Nat} {Q Q' : Option Value → (Nat → ce) → Nat → Prop} (hQ : ∀ r φ' n', Q r φ' n' → Q' r φ' n') (h : CT g d mc ms mi As φ n Q) : CT g d mc ms mi As φ n Q' := by
  intro p e ha hc hk s m args below h1 h2 h3 h4
  obtain ⟨k, o, a1, a2, a3, ⟨r, φ', n', b1, b2, b3, b4⟩, b5⟩ := h p e ha hc hk s m args below h1 h2 h3 h4
  exact ⟨k, o, a1, a2, a3, ⟨r, φ', n', b1, hQ _ _ _ b2, b3, b4⟩, b5⟩
/-- what a call wants of a method of ours: an instance's, a static one, a constructor -/
def mokB (mi : MI) (k : Nat) : Prop := Cond.code mi.1 mi.2.1 mi.2.2.1 mi.2.2.2 ∈ wU ∧ Cond.initialized mi.1.cls ∈ wU ∧ (mi.1.cls ≠ "java/lang/invoke/MethodHandle" ∧ mi.1.cls ≠ "java/lang/invoke/VarHandle" ∧ (parseMethodDescriptor mi.1.desc).map (fun d => d.parameters.length) = some k)
def mokV (mi : MI) (k : Nat) : Prop := mokB mi k ∧ Cond.instanceMethod mi.1 ∈ wU ∧ Cond.selects mi.1.cls mi.1 mi.1 ∈ wU
def mokS (mi : MI) (k : Nat) : Prop := mokB mi k ∧ Cond.static mi.1 ∈ wU
def mokI (mi : MI) (k : Nat) : Prop := mokB mi k ∧ Cond.instanceMethod mi.1 ∈ wU ∧ mi.1.name = "<init>" ∧ mi.2.2.2 = none
theorem wU_GoodIn {w : Cond} (h : w ∈ wU) : GoodIn wU (w :: wU) := fun x hx => by
  have hx' : x ∈ wU := by
    rcases List.mem_cons.mp hx with e | e
    · rw [e]; exact h
    · exact e
  exact ⟨hx', good_of_word (wU_good hx')⟩
section VCALL
variable {g : GG} {R : Room} {mi : MI} {Z : List Frame → Array Value → State → State → Prop} {E : Array Value → State → Prop} {pc nx : Nat} {lv : List (Nat × Value)} {st : List Value} {φ : Nat → ce} {n ca sl : Nat}
theorem W_run {p : Program} {e : Env} {s : State} {m : MethodId} {args : Array Value} {below : List Frame} {meth : Method} {c : Code} {H : Heap} {locs : List Loc} {ls : Array Slot} {st0 rest : List Value} {mc ms : Nat} {Q' : Option Value → (Nat → ce) → Nat → Prop} {a : Array Value} {Q : State → Prop}
    (hr : va_Run p g.1 e R s m args below meth c H locs ca sl mc ms (F0 m pc ls st0) rest (QQ g Q' a) (fun a => g.2.1 ≤ a)) (hw : Hw g s φ n H locs)
    (kk : ∀ (r : Option Value) (φ' : Nat → ce) (n' : Nat) (H1 : Heap) (locs1 : List Loc), Q' r φ' n' → Hw g s φ' n' H1 locs1 → W p g.1 e R s m args below meth c H1 locs1 (ca + mc) (sl + ms) Q (F0 m (pc + 3) ls (r.toList ++ rest))) : W p g.1 e R s m args below meth c H locs ca sl Q (F0 m pc ls st0) := by
  intro T hT X
  obtain ⟨v, st₀, t, T', L, h0, X', hL, e1, e2, ⟨r, φ', n', hv, hq, hp, hz, hk⟩, st⟩ := hr T hT X
  cases hv
  rw [h0] at hz hk
  obtain ⟨t2, a1, b1⟩ := kk v φ' n' T'.heap (locs ++ L) hq ⟨by rw [e1]; exact hp, Nat.le_trans hw.2.1 (by rw [e1]; exact hz), fun q h1 h2 => by rw [e1, hk q (Nat.lt_of_lt_of_le h1 hw.2.1) h2]; exact hw.2.2.1 q h1 h2, fun q hq => by
      rcases List.mem_append.mp hq with h | h
      · exact hw.2.2.2 q h
      · exact hL q h⟩ T' rfl X'
  exact ⟨t2, st t2 a1, b1⟩
theorem blindP {As : List Value} : FrameBlind (va_Pc As (fun U => Hp g φ n U.heap ∧ KU g U ∧ KX U)) := by
  intro a U f mk h
  obtain ⟨h1, h2, h3, h4⟩ := h
  exact ⟨h1, h2, va_K.moved (u := U) (U := U.calling f mk a) (Vm.Alike.refl U.vm) h3, KX.same (u := U) (U := U.calling f mk a) rfl h4⟩
theorem v_callV {d mc ms idx k ci N x : Nat} {T : u_T} {fs : List Value} {mi' : MI} {As' st0 : List Value} {Q' : Option Value → (Nat → ce) → Nat → Prop} (hM : CT g d mc ms mi' (rf g k :: As') φ n Q') (hd : decode mi.2.1 pc = .ok (.invokevirtual idx, 3)) (hn : pc + 3 = nx) (hm : mokV mi' x) (hl : Cond.methodLink mi.1.cls idx mi'.1 ∈ wU)
    (hk : k < n) (hφ : φ k = .inr (ci, fs)) (hc : vwCl[ci]? = some (mi'.1.cls, T, N)) (hst : st0 = As'.reverse ++ rf g k :: st) (hx : As'.length = x) (hcat : (st.map fun v => v.category).sum ≤ 8) (hR : d + 1 ≤ R.frames ∧ 8 + (mi'.2.2.1 + 11) + 34 * d ≤ R.locals) (hca : ca + mc ≤ R.cells ∧ sl + ms ≤ R.slots) (hnl : lv = lv)
    (kk : ∀ (r : Option Value) (φ' : Nat → ce) (n' : Nat), Q' r φ' n' → V g R mi Z E nx lv (r.toList ++ st) φ' n' (ca + mc) (sl + ms)) : V g R mi Z E pc lv st0 φ n ca sl := by
  subst hn
  subst hst
  intro p' e s m args below meth c H locs ls ev hw hh
  obtain ⟨hex, hb, hr, hml, hown, hts, hlk, hnm, hK, hbs, hE, hX⟩ := id ev
  obtain ⟨⟨m1, m2, m3⟩, m4, m5⟩ := hm
  have hat := hw.1.at hk hφ
  refine W_run (va_runV (As := As') (rest := st) (C := mi'.1.cls) (b := g.2.1 + k) ⟨hex, hb, hml, hown, hts⟩ hM ⟨callB_of (rm := rmD d mc ms) x hts (wU_GoodIn m1) rfl rfl rfl (hts _ m2) (hts _ hl) m3 hR, hts _ m4, hts _ m5⟩ ⟨blindP, ?_, fun U hU hW => ⟨rfl, by rw [hU]; exact hw.1, va_K.moved hW.alike hK, hX.warm hW⟩⟩ rfl hx hh.1 rfl (lv_room hcat) hd hca) hw (fun r φ' n' H1 locs1 hq hw1 => kk r φ' n' hq p' e s m args below meth c H1 locs1 ls ev hw1 hh)
  obtain ⟨r', h1, cell, q1, q2, q3, q4⟩ := hat
  have hr' : r' = (mi'.1.cls, T, N) := Option.some.inj (h1.symm.trans hc)
  subst hr'
  exact ⟨cell, q1, by rw [q3]; rfl, by rw [q2]; exact (hK.1 ci _ hc).2.1⟩
theorem v_callS {d mc ms idx x : Nat} {mi' : MI} {As' st0 : List Value} {Q' : Option Value → (Nat → ce) → Nat → Prop} (hM : CT g d mc ms mi' As' φ n Q') (hd : decode mi.2.1 pc = .ok (.invokestatic idx, 3)) (hn : pc + 3 = nx) (hm : mokS mi' x) (hl : Cond.methodLink mi.1.cls idx mi'.1 ∈ wU)
    (hst : st0 = As'.reverse ++ st) (hx : As'.length = x) (hcat : (st.map fun v => v.category).sum ≤ 8) (hR : d + 1 ≤ R.frames ∧ 8 + (mi'.2.2.1 + 11) + 34 * d ≤ R.locals) (hca : ca + mc ≤ R.cells ∧ sl + ms ≤ R.slots)
    (kk : ∀ (r : Option Value) (φ' : Nat → ce) (n' : Nat), Q' r φ' n' → V g R mi Z E nx lv (r.toList ++ st) φ' n' (ca + mc) (sl + ms)) : V g R mi Z E pc lv st0 φ n ca sl := by
  subst hn
  subst hst
  intro p' e s m args below meth c H locs ls ev hw hh
  obtain ⟨hex, hb, hr, hml, hown, hts, hlk, hnm, hK, hbs, hE, hX⟩ := id ev
  obtain ⟨⟨m1, m2, m3⟩, m4⟩ := hm
  exact W_run (va_runS (As := As') (rest := st) ⟨hex, hb, hml, hown, hts⟩ hM ⟨callB_of (rm := rmD d mc ms) x hts (wU_GoodIn m1) rfl rfl rfl (hts _ m2) (hts _ hl) m3 hR, hts _ m4⟩ ⟨blindP, fun U hU hW => ⟨rfl, by rw [hU]; exact hw.1, va_K.moved hW.alike hK, hX.warm hW⟩⟩ rfl hx hh.1 rfl (lv_room hcat) hd hca) hw (fun r φ' n' H1 locs1 hq hw1 => kk r φ' n' hq p' e s m args below meth c H1 locs1 ls ev hw1 hh)
theorem v_callI {d mc ms idx k x : Nat} {mi' : MI} {As' st0 : List Value} {Q' : Option Value → (Nat → ce) → Nat → Prop} (hM : CT g d mc ms mi' (rf g k :: As') φ n Q') (hd : decode mi.2.1 pc = .ok (.invokespecial idx, 3)) (hn : pc + 3 = nx) (hm : mokI mi' x) (hl : Cond.methodLink mi.1.cls idx mi'.1 ∈ wU)
    (hst : st0 = As'.reverse ++ rf g k :: st) (hx : As'.length = x) (hcat : (st.map fun v => v.category).sum ≤ 8) (hR : d + 1 ≤ R.frames ∧ 8 + (mi'.2.2.1 + 11) + 34 * d ≤ R.locals) (hca : ca + mc ≤ R.cells ∧ sl + ms ≤ R.slots)
    (kk : ∀ (r : Option Value) (φ' : Nat → ce) (n' : Nat), Q' r φ' n' → V g R mi Z E nx lv (r.toList ++ st) φ' n' (ca + mc) (sl + ms)) : V g R mi Z E pc lv st0 φ n ca sl := by
  subst hn
  subst hst
  intro p' e s m args below meth c H locs ls ev hw hh
  obtain ⟨hex, hb, hr, hml, hown, hts, hlk, hnm, hK, hbs, hE, hX⟩ := id ev
  obtain ⟨⟨m1, m2, m3⟩, m4, m5, m6⟩ := hm
  exact W_run (va_runI (As := As') (rest := st) (b := g.2.1 + k) ⟨hex, hb, hml, hown, hts⟩ hM ⟨callB_of (rm := rmD d mc ms) (ret := none) x hts (wU_GoodIn m1) (by rw [m6]) rfl rfl (hts _ m2) (hts _ hl) m3 hR, m5, hts _ m4⟩ ⟨blindP, fun U hU hW => ⟨rfl, by rw [hU]; exact hw.1, va_K.moved hW.alike hK, hX.warm hW⟩⟩ rfl hx hh.1 rfl (lv_room hcat) hd hca) hw (fun r φ' n' H1 locs1 hq hw1 => kk r φ' n' hq p' e s m args below meth c H1 locs1 ls ev hw1 hh)
/-- a private constructor of a nest mate -/
theorem v_callIN {d mc ms idx k x : Nat} {host : String} {mi' : MI} {As' st0 : List Value} {Q' : Option Value → (Nat → ce) → Nat → Prop} (hM : CT g d mc ms mi' (rf g k :: As') φ n Q') (hd : decode mi.2.1 pc = .ok (.invokespecial idx, 3)) (hn : pc + 3 = nx) (hm : mokI mi' x) (hl : ∀ U : State, KX U → va_Nw (.methodLinkNest mi.1.cls idx mi'.1 host) U)
    (hst : st0 = As'.reverse ++ rf g k :: st) (hx : As'.length = x) (hcat : (st.map fun v => v.category).sum ≤ 8) (hR : d + 1 ≤ R.frames ∧ 8 + (mi'.2.2.1 + 11) + 34 * d ≤ R.locals) (hca : ca + mc ≤ R.cells ∧ sl + ms ≤ R.slots)
    (kk : ∀ (r : Option Value) (φ' : Nat → ce) (n' : Nat), Q' r φ' n' → V g R mi Z E nx lv (r.toList ++ st) φ' n' (ca + mc) (sl + ms)) : V g R mi Z E pc lv st0 φ n ca sl := by
  subst hn
  subst hst
  intro p' e s m args below meth c H locs ls ev hw hh
  obtain ⟨hex, hb, hr, hml, hown, hts, hlk, hnm, hK, hbs, hE, hX⟩ := id ev
  obtain ⟨⟨m1, m2, m3⟩, m4, m5, m6⟩ := hm
  exact W_run (va_runIN (As := As') (rest := st) (b := g.2.1 + k) ⟨hex, hb, hml, hown, hts⟩ hM ⟨va_cnB (rm := rmD d mc ms) (ret := none) x hts (wU_GoodIn m1) (by rw [m6]) rfl rfl (hl s hX) (hts _ m2) m3 hR, m5, hts _ m4⟩ ⟨blindP, fun U hU hW => ⟨rfl, by rw [hU]; exact hw.1, va_K.moved hW.alike hK, hX.warm hW⟩⟩ rfl hx hh.1 rfl (lv_room hcat) hd hca) hw (fun r φ' n' H1 locs1 hq hw1 => kk r φ' n' hq p' e s m args below meth c H1 locs1 ls ev hw1 hh)
/-- Object's constructor -/
theorem v_objInit {idx k : Nat} (hd : decode mi.2.1 pc = .ok (.invokespecial idx, 3)) (hn : pc + 3 = nx) (hl : Cond.methodLink mi.1.cls idx Lib.objectInit ∈ wU) (hi : Cond.instanceMethod Lib.objectInit ∈ wU) (hc : Cond.code Lib.objectInit ⟨#[0xb1]⟩ 1 none ∈ wU) (hR : 1 ≤ R.frames ∧ 20 ≤ R.locals) (hcat : (st.map fun v => v.category).sum ≤ 8) (kk : V g R mi Z E nx lv st φ n ca sl) : V g R mi Z E pc lv (rf g k :: st) φ n ca sl := by
  subst hn
  intro p' e s m args below meth c H locs ls ev hw hh
  obtain ⟨hex, hb, hr, hml, hown, hts, hlk, hnm, hK, hbs, hE, hX⟩ := id ev
  exact W.objInit hex hb hown (hts _ hl) (hts _ hi) (hts _ hc) rfl (by rw [hml]; exact hh.1) rfl hd hR.1 (by show 2 * 0 + _ + 12 ≤ _; omega) (kk p' e s m args below meth c H locs ls ev hw hh)
/-- ends -/
theorem v_iret {x : Int} {Q : Option Value → (Nat → ce) → Nat → Prop} (hd : decode mi.2.1 pc = .ok (.ireturn, 1)) (hr : mi.2.2.2 = some .int) (hQ : Q (some (vi x)) φ n) : V g R mi (ZM g ca sl Q) E pc lv [vi x] φ n ca sl := by
  intro p' e s m args below meth c H locs ls ev hw hh
  obtain ⟨hex, hb, hr', hml, hown, hts, hlk, hnm, hK, hbs, hE, hX⟩ := id ev
  exact W.iret (v := Int32.ofInt x) hex hb (hr'.trans hr) (fun t ht hW => ⟨_, φ, n, rfl, hQ, by rw [ht]; exact hw.1, hw.2.F ht⟩) hw.2.2.2 hd
theorem v_zret {x : Int} {Q : Option Value → (Nat → ce) → Nat → Prop} (hd : decode mi.2.1 pc = .ok (.ireturn, 1)) (hr : mi.2.2.2 = some .boolean) (hx : x = 0 ∨ x = 1) (hQ : Q (some (vi x)) φ n) : V g R mi (ZM g ca sl Q) E pc lv [vi x] φ n ca sl := by
  intro p' e s m args below meth c H locs ls ev hw hh
  obtain ⟨hex, hb, hr', hml, hown, hts, hlk, hnm, hK, hbs, hE, hX⟩ := id ev
  exact W.zret (v := Int32.ofInt x) (ty := .boolean) hex hb (hr'.trans hr) (by rcases hx with rfl | rfl <;> rfl) (fun t ht hW => ⟨_, φ, n, rfl, hQ, by rw [ht]; exact hw.1, hw.2.F ht⟩) hw.2.2.2 hd
theorem v_ret {Q : Option Value → (Nat → ce) → Nat → Prop} (hd : decode mi.2.1 pc = .ok (.return_, 1)) (hr : mi.2.2.2 = none) (hQ : Q none φ n) : V g R mi (ZM g ca sl Q) E pc lv [] φ n ca sl := by
  intro p' e s m args below meth c H locs ls ev hw hh
  obtain ⟨hex, hb, hr', hml, hown, hts, hlk, hnm, hK, hbs, hE, hX⟩ := id ev
  exact W.vret hex hb (hr'.trans hr) (fun t ht hW => ⟨_, φ, n, rfl, hQ, by rw [ht]; exact hw.1, hw.2.F ht⟩) hw.2.2.2 hd
end VCALL
end
section
/-! ===== the typed world: every int of every cell by (kind, hall, number, place) ===== -/
abbrev SS : Type := Nat → Int → Int → Int → Int
def up (σ : SS) (a : Nat) (t i j v : Int) : SS := fun a' t' i' j' => if a' = a ∧ t' = t ∧ i' = i ∧ j' = j then v else σ a' t' i' j'
/-- kinds: 0 point, 1 its row, 2 belt, 3 its cells, 4 flight, 5 bag, 6 its way, 7 hall, 8 a row of sums, 9 BagHall, 10 now, 11 kept, 12 isGiven, 13 far, 14 BagHallModel, 15 to 18 the arrays of points, belts, flights, bags, 19 Ways, 20 sums -/
def hkx (j : Nat) : Nat × Int := if j = 0 then (7, 0) else if j < 5 then (14 + j, 0) else if j < 29 then (if (j - 5) % 2 = 0 then (0, ((j - 5) / 2 : Nat)) else (1, ((j - 5) / 2 : Nat))) else if j < 61 then (if (j - 29) % 2 = 0 then (2, ((j - 29) / 2 : Nat)) else (3, ((j - 29) / 2 : Nat))) else if j < 69 then (4, (j - 61 : Nat)) else (if (j - 69) % 2 = 0 then (5, ((j - 69) / 2 : Nat)) else (6, ((j - 69) / 2 : Nat)))
def ky (k : Nat) : Nat × Int × Int := if k = 0 then (9, 0, 0) else if k < 190 then ((hkx (k - 1)).1, 0, (hkx (k - 1)).2) else if k = 190 then (19, 0, 0) else if k = 191 then (20, 0, 0) else if k < 204 then (8, 0, (k - 192 : Nat)) else if k = 204 then (14, 0, 0) else if k < 209 then (k - 195, 0, 0) else ((hkx (k - 209)).1, 1, (hkx (k - 209)).2)
def adI (a : Nat) (t i : Int) : Int := match a with
  | 0 => 6 + 208 * t + 2 * i
  | 1 => 7 + 208 * t + 2 * i
  | 2 => 30 + 208 * t + 2 * i
  | 3 => 31 + 208 * t + 2 * i
  | 4 => 62 + 208 * t + i
  | 5 => 70 + 208 * t + 2 * i
  | 6 => 71 + 208 * t + 2 * i
  | 7 => 1 + 208 * t
  | 8 => 192 + i
  | 9 => 0
  | 10 => 205
  | 11 => 206
  | 12 => 207
  | 13 => 208
  | 14 => 204
  | 15 => 2 + 208 * t
  | 16 => 3 + 208 * t
  | 17 => 4 + 208 * t
  | 18 => 5 + 208 * t
  | 19 => 190
  | _ => 191
def ad (a : Nat) (t i : Int) : Nat := (adI a t i).toNat
def lenK (a : Nat) : Int := match a with
  | 0 => 12
  | 1 => 12
  | 2 => 16
  | 3 => 16
  | 4 => 8
  | 5 => 60
  | 6 => 60
  | 8 => 12
  | _ => 1
def isH (a : Nat) : Bool := a < 8 || (15 ≤ a && a < 19)
def sz (kp : Bool) : Nat := if kp then 398 else 209
def ok (kp : Bool) (a : Nat) (t i : Int) : Prop := 0 ≤ i ∧ i < lenK a ∧ (t = 0 ∨ (t = 1 ∧ kp = true ∧ isH a = true))
def bld (g : GG) (kp : Bool) (a : Nat) (t i : Int) (f : Int → Int) : ce := match a with
  | 0 => .inr (4, [vi (f 0), vi (f 1), vi (f 2), vi (f 3), vi (f 4), rf g (ad 1 t i)])
  | 1 => .inl (0, 60, .inl (fun j => Int32.ofInt (f j)))
  | 2 => .inr (1, [vi (f 0), vi (f 1), vi (f 2), vi (f 3), vi (f 4), vi (f 5), rf g (ad 3 t i)])
  | 3 => .inl (0, 12, .inl (fun j => Int32.ofInt (f j)))
  | 4 => .inr (2, [vi (f 0), vi (f 1), vi (f 2)])
  | 5 => .inr (0, [vi (f 0), vi (f 1), vi (f 2), vi (f 3), vi (f 4), vi (f 5), rf g (ad 6 t i)])
  | 6 => .inl (0, 30, .inl (fun j => Int32.ofInt (f j)))
  | 7 => .inr (3, [rf g (ad 15 t 0), rf g (ad 16 t 0), rf g (ad 17 t 0), rf g (ad 18 t 0), vi (f 0), vi (f 1), vi (f 2), vi (f 3), vi (f 4)])
  | 8 => .inl (0, 12, .inl (fun j => Int32.ofInt (f j)))
  | 9 => .inr (6, [rf g (ad 7 0 0), rf g (ad 19 0 0), if kp then rf g (ad 7 1 0) else .null, vi (f 0)])
  | 10 => .inl (0, 4324, .inl (fun j => Int32.ofInt (f j)))
  | 11 => .inl (0, 4324, .inl (fun j => Int32.ofInt (f j)))
  | 12 => .inl (1, 60, .inl (fun j => Int32.ofInt (f j)))
  | 13 => .inl (0, 12, .inl (fun j => Int32.ofInt (f j)))
  | 14 => .inr (7, [rf g (ad 10 0 0), rf g (ad 11 0 0), vi (f 0), vi (f 1), rf g (ad 12 0 0), rf g (ad 13 0 0)])
  | 15 => .inl (2, 12, .inr (.inr (.inr (.inr (fun j => some (g.2.1 + ad 0 t j))))))
  | 16 => .inl (3, 16, .inr (.inr (.inr (.inr (fun j => some (g.2.1 + ad 2 t j))))))
  | 17 => .inl (4, 8, .inr (.inr (.inr (.inr (fun j => some (g.2.1 + ad 4 t j))))))
  | 18 => .inl (5, 60, .inr (.inr (.inr (.inr (fun j => some (g.2.1 + ad 5 t j))))))
  | 19 => .inr (5, [rf g (ad 20 0 0)])
  | _ => .inl (6, 12, .inr (.inr (.inr (.inr (fun j => some (g.2.1 + ad 8 0 j))))))
def vw (g : GG) (kp : Bool) (σ : SS) (k : Nat) : ce := bld g kp (ky k).1 (ky k).2.1 (ky k).2.2 (σ (ky k).1 (ky k).2.1 (ky k).2.2)
theorem ky_ad0 : ∀ a : Fin 21, ∀ t : Fin 2, ∀ i : Fin 60, ((i.val : Int) < lenK a.val) → (t.val = 0 ∨ isH a.val = true) → ky (ad a.val (t.val : Int) (i.val : Int)) = (a.val, (t.val : Int), (i.val : Int)) ∧ ad a.val (t.val : Int) (i.val : Int) < (if t.val = 1 then 398 else 209) := by decide +kernel
theorem ad_ky0 : ∀ k : Fin 398, ad (ky k.val).1 (ky k.val).2.1 (ky k.val).2.2 = k.val := by decide +kernel
theorem sz_le (kp : Bool) : sz kp ≤ 398 := by cases kp <;> decide
theorem lenK_le (a : Nat) : lenK a ≤ 60 := by
  unfold lenK
  split <;> decide
theorem ky_ad {kp : Bool} {a : Nat} {t i : Int} (ha : a < 21) (h : ok kp a t i) : ky (ad a t i) = (a, t, i) ∧ ad a t i < sz kp := by
  obtain ⟨h0, h1, h2⟩ := h
  have hl := lenK_le a
  obtain ⟨n, rfl⟩ := Int.eq_ofNat_of_zero_le h0
  rcases h2 with rfl | ⟨rfl, hk, hh⟩
  · have := ky_ad0 ⟨a, ha⟩ 0 ⟨n, by omega⟩ h1 (Or.inl rfl)
    refine ⟨this.1, ?_⟩
    have h3 : ad a 0 n < 209 := this.2
    cases kp <;> simp [sz] <;> omega
  · have := ky_ad0 ⟨a, ha⟩ 1 ⟨n, by omega⟩ h1 (Or.inr hh)
    refine ⟨this.1, ?_⟩
    have h3 : ad a 1 n < 398 := this.2
    rw [hk]
    exact h3
theorem vw_at {g : GG} {kp : Bool} {σ : SS} {a : Nat} {t i : Int} (ha : a < 21) (h : ok kp a t i) : vw g kp σ (ad a t i) = bld g kp a t i (σ a t i) := by
  unfold vw
  rw [(ky_ad ha h).1]
theorem vw_up {g : GG} {kp : Bool} {σ : SS} {a : Nat} {t i j v : Int} {k : Nat} (hk : k < sz kp) (hne : k ≠ ad a t i) : vw g kp (up σ a t i j v) k = vw g kp σ k := by
  have hk2 : k < 398 := Nat.lt_of_lt_of_le hk (sz_le kp)
  unfold vw
  congr 1
  funext x
  unfold up
  rw [if_neg]
  rintro ⟨e1, e2, e3, -⟩
  apply hne
  have := ad_ky0 ⟨k, hk2⟩
  simp only at this
  rw [← this, e1, e2, e3]
theorem vw_upat {g : GG} {kp : Bool} {σ : SS} {a : Nat} {t i j v : Int} (ha : a < 21) (h : ok kp a t i) : vw g kp (up σ a t i j v) (ad a t i) = bld g kp a t i (fun x => if x = j then v else σ a t i x) := by
  rw [vw_at ha h]
  congr 1
  funext x
  unfold up
  by_cases e : x = j
  · rw [if_pos ⟨rfl, rfl, rfl, e⟩, if_pos e]
  · rw [if_neg (fun q => e q.2.2.2), if_neg e]
section VT
variable {g : GG} {R : Room} {mi : MI} {Z : List Frame → Array Value → State → State → Prop} {E : Array Value → State → Prop} {pc nx : Nat} {lv : List (Nat × Value)} {st : List Value} {kp : Bool} {σ : SS} {ca sl : Nat}
/-- behind a write to one cell -/
theorem t_upd {a : Nat} {t i j v : Int} {x : ce} (ha : a < 21) (h : ok kp a t i) (hx : bld g kp a t i (fun y => if y = j then v else σ a t i y) = x) (kk : V g R mi Z E pc lv st (vw g kp (up σ a t i j v)) (sz kp) ca sl) : V g R mi Z E pc lv st (va_up (vw g kp σ) (ad a t i) x) (sz kp) ca sl := by
  refine V.cong (fun k hk => ?_) kk
  by_cases e : k = ad a t i
  · subst e
    rw [show va_up (vw g kp σ) (ad a t i) x (ad a t i) = x from if_pos rfl, vw_upat ha h, hx]
  · rw [show va_up (vw g kp σ) (ad a t i) x k = vw g kp σ k from if_neg e, vw_up hk e]
/-- reads of an object's field: p is the field's number; a the kind, ci, C, T, N of its class -/
theorem t_get {a : Nat} {t i : Int} {p idx ci N : Nat} {fs : List Value} {v : Value} {C : String} {T : u_T} (hd : decode mi.2.1 pc = .ok (.getfield idx, 3)) (hn : pc + 3 = nx) (ha : a < 21) (h : ok kp a t i) (hb : bld g kp a t i (σ a t i) = .inr (ci, fs)) (hc : vwCl[ci]? = some (C, T, N)) (hin : ∀ w ∈ u_ws C T N, w ∈ wU) (hp : p < N) (hl : Cond.fieldLink mi.1.cls idx (T p).1 (T p).2.1 (T p).2.2.1 ∈ wU) (hv : fs[p]? = some v) (kk : V g R mi Z E nx lv (v :: st) (vw g kp σ) (sz kp) ca sl) : V g R mi Z E pc lv (rf g (ad a t i) :: st) (vw g kp σ) (sz kp) ca sl :=
  v_get hd hn (ky_ad ha h).2 ((vw_at ha h).trans hb) hc hin hp hl hv kk
theorem t_put {a : Nat} {t i j z : Int} {p idx ci N : Nat} {fs : List Value} {C : String} {T : u_T} (hd : decode mi.2.1 pc = .ok (.putfield idx, 3)) (hn : pc + 3 = nx) (ha : a < 21) (h : ok kp a t i) (hb : bld g kp a t i (σ a t i) = .inr (ci, fs)) (hc : vwCl[ci]? = some (C, T, N)) (hin : ∀ w ∈ u_ws C T N, w ∈ wU) (ty0 : Nat → FieldType) (hty : ∀ k, k < N → parseFieldDescriptor (T k).2.2.1 = some (ty0 k)) (hnm : ∀ a, a < N → ∀ b, b < N → a ≠ b → (T a).2.1 ≠ (T b).2.1) (hp : p < N) (hl : Cond.fieldLink mi.1.cls idx (T p).1 (T p).2.1 (T p).2.2.1 ∈ wU) (hfin : (T p).2.2.2 = false) (hty2 : ty0 p = .int ∨ (ty0 p = .boolean ∧ (z = 0 ∨ z = 1))) (hfl : p < fs.length) (hj : bld g kp a t i (fun y => if y = j then z else σ a t i y) = .inr (ci, fs.set p (vi z))) (kk : V g R mi Z E nx lv st (vw g kp (up σ a t i j z)) (sz kp) ca sl) : V g R mi Z E pc lv (vi z :: rf g (ad a t i) :: st) (vw g kp σ) (sz kp) ca sl := by
  have hnf : narrow (ty0 p) (vi z) = vi z ∧ fits (ty0 p) (vi z) = true := by
    rcases hty2 with e | ⟨e, rfl | rfl⟩ <;> rw [e] <;> exact ⟨rfl, rfl⟩
  exact v_put hd hn (ky_ad ha h).2 ((vw_at ha h).trans hb) hc hin ty0 hty hnm hp hl (Or.inl hfin) hnf.1 hnf.2 hfl (t_upd ha h hj kk)
/-- int arrays: kinds 1, 3, 6, 8, 10, 11, 13 -/
def lenA (a : Nat) : Nat := match a with
  | 1 => 60
  | 6 => 30
  | 10 => 4324
  | 11 => 4324
  | 12 => 60
  | _ => 12
def isA (a : Nat) : Bool := a == 1 || a == 3 || a == 6 || a == 8 || a == 10 || a == 11 || a == 13
theorem bld_A {a : Nat} (h : isA a = true) (t i : Int) (f : Int → Int) : bld g kp a t i f = .inl (0, lenA a, .inl (fun j => Int32.ofInt (f j))) := by
  simp only [isA, Bool.or_eq_true, beq_iff_eq] at h
  rcases h with (((((rfl | rfl) | rfl) | rfl) | rfl) | rfl) | rfl <;> rfl
theorem lenA_lt (a : Nat) : lenA a < 2147483648 := by
  unfold lenA
  split <;> decide
theorem isA_lt {a : Nat} (h : isA a = true) : a < 21 := by
  simp only [isA, Bool.or_eq_true, beq_iff_eq] at h
  omega
theorem t_ald {a : Nat} {t i x : Int} (hd : decode mi.2.1 pc = .ok (.iaload, 1)) (hn : pc + 1 = nx) (hA : isA a = true) (h : ok kp a t i) (h0 : 0 ≤ x ∧ x < lenA a) (kk : V g R mi Z E nx lv (vi (σ a t i x) :: st) (vw g kp σ) (sz kp) ca sl) : V g R mi Z E pc lv (vi x :: rf g (ad a t i) :: st) (vw g kp σ) (sz kp) ca sl :=
  v_iald hd hn (ky_ad (isA_lt hA) h).2 ((vw_at (isA_lt hA) h).trans (bld_A hA t i _)) h0.1 h0.2 (lenA_lt a) (by rw [Int.toNat_of_nonneg h0.1]) kk
theorem t_ast {a : Nat} {t i x z : Int} (hd : decode mi.2.1 pc = .ok (.iastore, 1)) (hn : pc + 1 = nx) (hA : isA a = true) (h : ok kp a t i) (h0 : 0 ≤ x ∧ x < lenA a) (kk : V g R mi Z E nx lv st (vw g kp (up σ a t i x z)) (sz kp) ca sl) : V g R mi Z E pc lv (vi z :: vi x :: rf g (ad a t i) :: st) (vw g kp σ) (sz kp) ca sl := by
  refine v_iast hd hn (ky_ad (isA_lt hA) h).2 ((vw_at (isA_lt hA) h).trans (bld_A hA t i _)) h0.1 h0.2 (lenA_lt a) (t_upd (j := x) (v := z) (isA_lt hA) h ?_ kk)
  rw [bld_A hA]
  congr 4
  funext q
  unfold upd
  by_cases e : q = x.toNat
  · subst e
    rw [if_pos (Int.toNat_of_nonneg h0.1), if_pos rfl]
  · rw [if_neg (fun z => e (by omega)), if_neg e]
theorem t_zld {x : Int} (hd : decode mi.2.1 pc = .ok (.baload, 1)) (hn : pc + 1 = nx) (h0 : 0 ≤ x ∧ x < 60) (kk : V g R mi Z E nx lv (vi (σ 12 0 0 x) :: st) (vw g kp σ) (sz kp) ca sl) : V g R mi Z E pc lv (vi x :: rf g (ad 12 0 0) :: st) (vw g kp σ) (sz kp) ca sl :=
  v_zald (N := 60) hd hn (ky_ad (a := 12) (by decide) ⟨by decide, by decide, Or.inl rfl⟩).2 (vw_at (a := 12) (by decide) ⟨by decide, by decide, Or.inl rfl⟩) h0.1 h0.2 (by decide) (by rw [Int.toNat_of_nonneg h0.1]) kk
theorem t_zst {x z : Int} (hd : decode mi.2.1 pc = .ok (.bastore, 1)) (hn : pc + 1 = nx) (h0 : 0 ≤ x ∧ x < 60) (hz : z = 0 ∨ z = 1) (kk : V g R mi Z E nx lv st (vw g kp (up σ 12 0 0 x z)) (sz kp) ca sl) : V g R mi Z E pc lv (vi z :: vi x :: rf g (ad 12 0 0) :: st) (vw g kp σ) (sz kp) ca sl := by
  refine v_zast (N := 60) hd hn (ky_ad (a := 12) (by decide) ⟨by decide, by decide, Or.inl rfl⟩).2 (vw_at (a := 12) (by decide) ⟨by decide, by decide, Or.inl rfl⟩) h0.1 h0.2 (by decide) hz (t_upd (a := 12) (j := x) (v := z) (by decide) ⟨by decide, by decide, Or.inl rfl⟩ ?_ kk)
  show (Sum.inl (1, 60, Sum.inl _) : ce) = _
  congr 4
  funext q
  show Int32.ofInt (if (q : Int) = x then z else σ 12 0 0 q) = _
  unfold upd
  by_cases e : q = x.toNat
  · subst e
    rw [if_pos (Int.toNat_of_nonneg h0.1), if_pos rfl]
  · rw [if_neg (fun z => e (by omega)), if_neg e]
/-- arrays of references: kinds 15 to 18 and 20 hold the cells of kinds 0, 2, 4, 5, 8 -/
theorem t_ldP {t x : Int} (hd : decode mi.2.1 pc = .ok (.aaload, 1)) (hn : pc + 1 = nx) (h : ok kp 15 t 0) (h0 : 0 ≤ x ∧ x < 12) (kk : V g R mi Z E nx lv (rf g (ad 0 t x) :: st) (vw g kp σ) (sz kp) ca sl) : V g R mi Z E pc lv (vi x :: rf g (ad 15 t 0) :: st) (vw g kp σ) (sz kp) ca sl :=
  v_aald (tt := 2) (N := 12) hd hn (ky_ad (by decide) h).2 (vw_at (by decide) h) rfl rfl h0.1 h0.2 (by decide) (by rw [Int.toNat_of_nonneg h0.1]) kk
theorem t_ldB {t x : Int} (hd : decode mi.2.1 pc = .ok (.aaload, 1)) (hn : pc + 1 = nx) (h : ok kp 16 t 0) (h0 : 0 ≤ x ∧ x < 16) (kk : V g R mi Z E nx lv (rf g (ad 2 t x) :: st) (vw g kp σ) (sz kp) ca sl) : V g R mi Z E pc lv (vi x :: rf g (ad 16 t 0) :: st) (vw g kp σ) (sz kp) ca sl :=
  v_aald (tt := 3) (N := 16) hd hn (ky_ad (by decide) h).2 (vw_at (by decide) h) rfl rfl h0.1 h0.2 (by decide) (by rw [Int.toNat_of_nonneg h0.1]) kk
theorem t_ldF {t x : Int} (hd : decode mi.2.1 pc = .ok (.aaload, 1)) (hn : pc + 1 = nx) (h : ok kp 17 t 0) (h0 : 0 ≤ x ∧ x < 8) (kk : V g R mi Z E nx lv (rf g (ad 4 t x) :: st) (vw g kp σ) (sz kp) ca sl) : V g R mi Z E pc lv (vi x :: rf g (ad 17 t 0) :: st) (vw g kp σ) (sz kp) ca sl :=
  v_aald (tt := 4) (N := 8) hd hn (ky_ad (by decide) h).2 (vw_at (by decide) h) rfl rfl h0.1 h0.2 (by decide) (by rw [Int.toNat_of_nonneg h0.1]) kk
theorem t_ldG {t x : Int} (hd : decode mi.2.1 pc = .ok (.aaload, 1)) (hn : pc + 1 = nx) (h : ok kp 18 t 0) (h0 : 0 ≤ x ∧ x < 60) (kk : V g R mi Z E nx lv (rf g (ad 5 t x) :: st) (vw g kp σ) (sz kp) ca sl) : V g R mi Z E pc lv (vi x :: rf g (ad 18 t 0) :: st) (vw g kp σ) (sz kp) ca sl :=
  v_aald (tt := 5) (N := 60) hd hn (ky_ad (by decide) h).2 (vw_at (by decide) h) rfl rfl h0.1 h0.2 (by decide) (by rw [Int.toNat_of_nonneg h0.1]) kk
theorem t_ldS {x : Int} (hd : decode mi.2.1 pc = .ok (.aaload, 1)) (hn : pc + 1 = nx) (h0 : 0 ≤ x ∧ x < 12) (kk : V g R mi Z E nx lv (rf g (ad 8 0 x) :: st) (vw g kp σ) (sz kp) ca sl) : V g R mi Z E pc lv (vi x :: rf g (ad 20 0 0) :: st) (vw g kp σ) (sz kp) ca sl :=
  v_aald (tt := 6) (N := 12) hd hn (ky_ad (a := 20) (by decide) ⟨by decide, by decide, Or.inl rfl⟩).2 (vw_at (a := 20) (by decide) ⟨by decide, by decide, Or.inl rfl⟩) rfl rfl h0.1 h0.2 (by decide) (by rw [Int.toNat_of_nonneg h0.1]) kk
theorem t_len {a : Nat} {t i : Int} (hd : decode mi.2.1 pc = .ok (.arraylength, 1)) (hn : pc + 1 = nx) (hA : isA a = true) (h : ok kp a t i) (kk : V g R mi Z E nx lv (vi (lenA a : Int) :: st) (vw g kp σ) (sz kp) ca sl) : V g R mi Z E pc lv (rf g (ad a t i) :: st) (vw g kp σ) (sz kp) ca sl :=
  v_alen (tt := 0) hd hn (ky_ad (isA_lt hA) h).2 ((vw_at (isA_lt hA) h).trans (bld_A hA t i _)) rfl kk
end VT
end
section
theorem iU0 : ∀ w ∈ u_ws RX0 TX0 7, w ∈ wU := by decide +kernel
theorem iU1 : ∀ w ∈ u_ws RX1 TX1 7, w ∈ wU := by decide +kernel
theorem iU2 : ∀ w ∈ u_ws RX2 TX2 3, w ∈ wU := by decide +kernel
theorem iU3 : ∀ w ∈ u_ws RX3 TX3 9, w ∈ wU := by decide +kernel
theorem iU4 : ∀ w ∈ u_ws RX4 TX4 6, w ∈ wU := by decide +kernel
theorem iU5 : ∀ w ∈ u_ws RX5 TX5 1, w ∈ wU := by decide +kernel
theorem iU6 : ∀ w ∈ u_ws RX6 TX6 4, w ∈ wU := by decide +kernel
theorem iU7 : ∀ w ∈ u_ws RX7 TX7 6, w ∈ wU := by decide +kernel
theorem fl_X4_15 : Cond.fieldLink RX4 15 "BagHall$Point" "kind" "I" ∈ wU := wU_at 84 (by decide +kernel) (by decide +kernel)
theorem fl_X5_26 : Cond.fieldLink RX5 26 "BagHall$Point" "kind" "I" ∈ wU := wU_at 85 (by decide +kernel) (by decide +kernel)
theorem fl_X6_66 : Cond.fieldLink RX6 66 "BagHall$Point" "kind" "I" ∈ wU := wU_at 86 (by decide +kernel) (by decide +kernel)
theorem fl_X3_56 : Cond.fieldLink RX3 56 "BagHall$Point" "kind" "I" ∈ wU := wU_at 87 (by decide +kernel) (by decide +kernel)
theorem fl_X4_19 : Cond.fieldLink RX4 19 "BagHall$Point" "value" "I" ∈ wU := wU_at 88 (by decide +kernel) (by decide +kernel)
theorem fl_X6_259 : Cond.fieldLink RX6 259 "BagHall$Point" "value" "I" ∈ wU := wU_at 89 (by decide +kernel) (by decide +kernel)
theorem fl_X4_22 : Cond.fieldLink RX4 22 "BagHall$Point" "handInlet" "I" ∈ wU := wU_at 90 (by decide +kernel) (by decide +kernel)
theorem fl_X6_300 : Cond.fieldLink RX6 300 "BagHall$Point" "handInlet" "I" ∈ wU := wU_at 91 (by decide +kernel) (by decide +kernel)
theorem fl_X4_25 : Cond.fieldLink RX4 25 "BagHall$Point" "turnsLeft" "I" ∈ wU := wU_at 92 (by decide +kernel) (by decide +kernel)
theorem fl_X6_297 : Cond.fieldLink RX6 297 "BagHall$Point" "turnsLeft" "I" ∈ wU := wU_at 93 (by decide +kernel) (by decide +kernel)
theorem fl_X4_28 : Cond.fieldLink RX4 28 "BagHall$Point" "size" "I" ∈ wU := wU_at 94 (by decide +kernel) (by decide +kernel)
theorem fl_X6_141 : Cond.fieldLink RX6 141 "BagHall$Point" "size" "I" ∈ wU := wU_at 95 (by decide +kernel) (by decide +kernel)
theorem fl_X4_9 : Cond.fieldLink RX4 9 "BagHall$Point" "row" "[I" ∈ wU := wU_at 96 (by decide +kernel) (by decide +kernel)
theorem fl_X6_185 : Cond.fieldLink RX6 185 "BagHall$Point" "row" "[I" ∈ wU := wU_at 97 (by decide +kernel) (by decide +kernel)
theorem fl_X1_15 : Cond.fieldLink RX1 15 "BagHall$Belt" "from" "I" ∈ wU := wU_at 117 (by decide +kernel) (by decide +kernel)
theorem fl_X5_52 : Cond.fieldLink RX5 52 "BagHall$Belt" "from" "I" ∈ wU := wU_at 118 (by decide +kernel) (by decide +kernel)
theorem fl_X3_90 : Cond.fieldLink RX3 90 "BagHall$Belt" "from" "I" ∈ wU := wU_at 119 (by decide +kernel) (by decide +kernel)
theorem fl_X1_19 : Cond.fieldLink RX1 19 "BagHall$Belt" "to" "I" ∈ wU := wU_at 120 (by decide +kernel) (by decide +kernel)
theorem fl_X5_59 : Cond.fieldLink RX5 59 "BagHall$Belt" "to" "I" ∈ wU := wU_at 121 (by decide +kernel) (by decide +kernel)
theorem fl_X6_88 : Cond.fieldLink RX6 88 "BagHall$Belt" "to" "I" ∈ wU := wU_at 122 (by decide +kernel) (by decide +kernel)
theorem fl_X3_87 : Cond.fieldLink RX3 87 "BagHall$Belt" "to" "I" ∈ wU := wU_at 123 (by decide +kernel) (by decide +kernel)
theorem fl_X1_22 : Cond.fieldLink RX1 22 "BagHall$Belt" "length" "I" ∈ wU := wU_at 124 (by decide +kernel) (by decide +kernel)
theorem fl_X5_62 : Cond.fieldLink RX5 62 "BagHall$Belt" "length" "I" ∈ wU := wU_at 125 (by decide +kernel) (by decide +kernel)
theorem fl_X6_174 : Cond.fieldLink RX6 174 "BagHall$Belt" "length" "I" ∈ wU := wU_at 126 (by decide +kernel) (by decide +kernel)
theorem fl_X1_25 : Cond.fieldLink RX1 25 "BagHall$Belt" "turns" "I" ∈ wU := wU_at 127 (by decide +kernel) (by decide +kernel)
theorem fl_X6_94 : Cond.fieldLink RX6 94 "BagHall$Belt" "turns" "I" ∈ wU := wU_at 128 (by decide +kernel) (by decide +kernel)
theorem fl_X1_28 : Cond.fieldLink RX1 28 "BagHall$Belt" "fallen" "Z" ∈ wU := wU_at 129 (by decide +kernel) (by decide +kernel)
theorem fl_X5_46 : Cond.fieldLink RX5 46 "BagHall$Belt" "fallen" "Z" ∈ wU := wU_at 130 (by decide +kernel) (by decide +kernel)
theorem fl_X6_110 : Cond.fieldLink RX6 110 "BagHall$Belt" "fallen" "Z" ∈ wU := wU_at 131 (by decide +kernel) (by decide +kernel)
theorem fl_X3_93 : Cond.fieldLink RX3 93 "BagHall$Belt" "fallen" "Z" ∈ wU := wU_at 132 (by decide +kernel) (by decide +kernel)
theorem fl_X1_32 : Cond.fieldLink RX1 32 "BagHall$Belt" "fresh" "Z" ∈ wU := wU_at 133 (by decide +kernel) (by decide +kernel)
theorem fl_X6_220 : Cond.fieldLink RX6 220 "BagHall$Belt" "fresh" "Z" ∈ wU := wU_at 134 (by decide +kernel) (by decide +kernel)
theorem fl_X1_9 : Cond.fieldLink RX1 9 "BagHall$Belt" "cells" "[I" ∈ wU := wU_at 135 (by decide +kernel) (by decide +kernel)
theorem fl_X6_177 : Cond.fieldLink RX6 177 "BagHall$Belt" "cells" "[I" ∈ wU := wU_at 136 (by decide +kernel) (by decide +kernel)
theorem fl_X2_7 : Cond.fieldLink RX2 7 "BagHall$Flight" "chute" "I" ∈ wU := wU_at 157 (by decide +kernel) (by decide +kernel)
theorem fl_X6_192 : Cond.fieldLink RX6 192 "BagHall$Flight" "chute" "I" ∈ wU := wU_at 158 (by decide +kernel) (by decide +kernel)
theorem fl_X2_13 : Cond.fieldLink RX2 13 "BagHall$Flight" "opening" "I" ∈ wU := wU_at 159 (by decide +kernel) (by decide +kernel)
theorem fl_X6_199 : Cond.fieldLink RX6 199 "BagHall$Flight" "opening" "I" ∈ wU := wU_at 160 (by decide +kernel) (by decide +kernel)
theorem fl_X2_16 : Cond.fieldLink RX2 16 "BagHall$Flight" "close" "I" ∈ wU := wU_at 161 (by decide +kernel) (by decide +kernel)
theorem fl_X6_202 : Cond.fieldLink RX6 202 "BagHall$Flight" "close" "I" ∈ wU := wU_at 162 (by decide +kernel) (by decide +kernel)
theorem fl_X0_15 : Cond.fieldLink RX0 15 "BagHall$Bag" "flight" "I" ∈ wU := wU_at 175 (by decide +kernel) (by decide +kernel)
theorem fl_X3_96 : Cond.fieldLink RX3 96 "BagHall$Bag" "flight" "I" ∈ wU := wU_at 176 (by decide +kernel) (by decide +kernel)
theorem fl_X6_262 : Cond.fieldLink RX6 262 "BagHall$Bag" "flight" "I" ∈ wU := wU_at 177 (by decide +kernel) (by decide +kernel)
theorem fl_X0_19 : Cond.fieldLink RX0 19 "BagHall$Bag" "doubtful" "Z" ∈ wU := wU_at 178 (by decide +kernel) (by decide +kernel)
theorem fl_X3_62 : Cond.fieldLink RX3 62 "BagHall$Bag" "doubtful" "Z" ∈ wU := wU_at 179 (by decide +kernel) (by decide +kernel)
theorem fl_X6_268 : Cond.fieldLink RX6 268 "BagHall$Bag" "doubtful" "Z" ∈ wU := wU_at 180 (by decide +kernel) (by decide +kernel)
theorem fl_X0_33 : Cond.fieldLink RX0 33 "BagHall$Bag" "where" "I" ∈ wU := wU_at 181 (by decide +kernel) (by decide +kernel)
theorem fl_X3_74 : Cond.fieldLink RX3 74 "BagHall$Bag" "where" "I" ∈ wU := wU_at 182 (by decide +kernel) (by decide +kernel)
theorem fl_X6_135 : Cond.fieldLink RX6 135 "BagHall$Bag" "where" "I" ∈ wU := wU_at 183 (by decide +kernel) (by decide +kernel)
theorem fl_X0_36 : Cond.fieldLink RX0 36 "BagHall$Bag" "place" "I" ∈ wU := wU_at 184 (by decide +kernel) (by decide +kernel)
theorem fl_X3_77 : Cond.fieldLink RX3 77 "BagHall$Bag" "place" "I" ∈ wU := wU_at 185 (by decide +kernel) (by decide +kernel)
theorem fl_X6_144 : Cond.fieldLink RX6 144 "BagHall$Bag" "place" "I" ∈ wU := wU_at 186 (by decide +kernel) (by decide +kernel)
theorem fl_X0_26 : Cond.fieldLink RX0 26 "BagHall$Bag" "came" "I" ∈ wU := wU_at 187 (by decide +kernel) (by decide +kernel)
theorem fl_X6_153 : Cond.fieldLink RX6 153 "BagHall$Bag" "came" "I" ∈ wU := wU_at 188 (by decide +kernel) (by decide +kernel)
theorem fl_X0_23 : Cond.fieldLink RX0 23 "BagHall$Bag" "stepCount" "I" ∈ wU := wU_at 189 (by decide +kernel) (by decide +kernel)
theorem fl_X6_156 : Cond.fieldLink RX6 156 "BagHall$Bag" "stepCount" "I" ∈ wU := wU_at 190 (by decide +kernel) (by decide +kernel)
theorem fl_X0_9 : Cond.fieldLink RX0 9 "BagHall$Bag" "way" "[I" ∈ wU := wU_at 191 (by decide +kernel) (by decide +kernel)
theorem fl_X3_11 : Cond.fieldLink RX3 11 "BagHall$Hall" "points" "[LBagHall$Point;" ∈ wU := wU_at 207 (by decide +kernel) (by decide +kernel)
theorem fl_X5_22 : Cond.fieldLink RX5 22 "BagHall$Hall" "points" "[LBagHall$Point;" ∈ wU := wU_at 208 (by decide +kernel) (by decide +kernel)
theorem fl_X6_45 : Cond.fieldLink RX6 45 "BagHall$Hall" "points" "[LBagHall$Point;" ∈ wU := wU_at 209 (by decide +kernel) (by decide +kernel)
theorem fl_X3_19 : Cond.fieldLink RX3 19 "BagHall$Hall" "belts" "[LBagHall$Belt;" ∈ wU := wU_at 210 (by decide +kernel) (by decide +kernel)
theorem fl_X5_38 : Cond.fieldLink RX5 38 "BagHall$Hall" "belts" "[LBagHall$Belt;" ∈ wU := wU_at 211 (by decide +kernel) (by decide +kernel)
theorem fl_X6_72 : Cond.fieldLink RX6 72 "BagHall$Hall" "belts" "[LBagHall$Belt;" ∈ wU := wU_at 212 (by decide +kernel) (by decide +kernel)
theorem fl_X3_25 : Cond.fieldLink RX3 25 "BagHall$Hall" "flights" "[LBagHall$Flight;" ∈ wU := wU_at 213 (by decide +kernel) (by decide +kernel)
theorem fl_X6_103 : Cond.fieldLink RX6 103 "BagHall$Hall" "flights" "[LBagHall$Flight;" ∈ wU := wU_at 214 (by decide +kernel) (by decide +kernel)
theorem fl_X3_31 : Cond.fieldLink RX3 31 "BagHall$Hall" "bags" "[LBagHall$Bag;" ∈ wU := wU_at 215 (by decide +kernel) (by decide +kernel)
theorem fl_X6_120 : Cond.fieldLink RX6 120 "BagHall$Hall" "bags" "[LBagHall$Bag;" ∈ wU := wU_at 216 (by decide +kernel) (by decide +kernel)
theorem fl_X5_16 : Cond.fieldLink RX5 16 "BagHall$Hall" "pointCount" "I" ∈ wU := wU_at 217 (by decide +kernel) (by decide +kernel)
theorem fl_X3_39 : Cond.fieldLink RX3 39 "BagHall$Hall" "pointCount" "I" ∈ wU := wU_at 218 (by decide +kernel) (by decide +kernel)
theorem fl_X6_42 : Cond.fieldLink RX6 42 "BagHall$Hall" "pointCount" "I" ∈ wU := wU_at 219 (by decide +kernel) (by decide +kernel)
theorem fl_X3_43 : Cond.fieldLink RX3 43 "BagHall$Hall" "beltCount" "I" ∈ wU := wU_at 220 (by decide +kernel) (by decide +kernel)
theorem fl_X5_35 : Cond.fieldLink RX5 35 "BagHall$Hall" "beltCount" "I" ∈ wU := wU_at 221 (by decide +kernel) (by decide +kernel)
theorem fl_X6_69 : Cond.fieldLink RX6 69 "BagHall$Hall" "beltCount" "I" ∈ wU := wU_at 222 (by decide +kernel) (by decide +kernel)
theorem fl_X3_46 : Cond.fieldLink RX3 46 "BagHall$Hall" "flightCount" "I" ∈ wU := wU_at 223 (by decide +kernel) (by decide +kernel)
theorem fl_X6_100 : Cond.fieldLink RX6 100 "BagHall$Hall" "flightCount" "I" ∈ wU := wU_at 224 (by decide +kernel) (by decide +kernel)
theorem fl_X3_49 : Cond.fieldLink RX3 49 "BagHall$Hall" "bagCount" "I" ∈ wU := wU_at 225 (by decide +kernel) (by decide +kernel)
theorem fl_X6_117 : Cond.fieldLink RX6 117 "BagHall$Hall" "bagCount" "I" ∈ wU := wU_at 226 (by decide +kernel) (by decide +kernel)
theorem fl_X6_171 : Cond.fieldLink RX6 171 "BagHall$Hall" "tick" "I" ∈ wU := wU_at 227 (by decide +kernel) (by decide +kernel)
theorem fl_X3_112 : Cond.fieldLink RX3 112 "BagHall$Hall" "tick" "I" ∈ wU := wU_at 228 (by decide +kernel) (by decide +kernel)
theorem fl_X5_11 : Cond.fieldLink RX5 11 "BagHall$Ways" "sums" "[[I" ∈ wU := wU_at 256 (by decide +kernel) (by decide +kernel)
theorem fl_X6_188 : Cond.fieldLink RX6 188 "BagHall$Ways" "sums" "[[I" ∈ wU := wU_at 257 (by decide +kernel) (by decide +kernel)
theorem fl_X6_10 : Cond.fieldLink RX6 10 "BagHall" "hall" "LBagHall$Hall;" ∈ wU := wU_at 261 (by decide +kernel) (by decide +kernel)
theorem fl_X6_19 : Cond.fieldLink RX6 19 "BagHall" "ways" "LBagHall$Ways;" ∈ wU := wU_at 262 (by decide +kernel) (by decide +kernel)
theorem fl_X6_23 : Cond.fieldLink RX6 23 "BagHall" "kept" "LBagHall$Hall;" ∈ wU := wU_at 263 (by decide +kernel) (by decide +kernel)
theorem fl_X6_26 : Cond.fieldLink RX6 26 "BagHall" "findings" "I" ∈ wU := wU_at 264 (by decide +kernel) (by decide +kernel)
theorem fl_X7_9 : Cond.fieldLink RX7 9 "BagHallModel" "now" "[I" ∈ wU := wU_at 647 (by decide +kernel) (by decide +kernel)
theorem fl_X7_13 : Cond.fieldLink RX7 13 "BagHallModel" "kept" "[I" ∈ wU := wU_at 648 (by decide +kernel) (by decide +kernel)
theorem fl_X7_138 : Cond.fieldLink RX7 138 "BagHallModel" "isKept" "Z" ∈ wU := wU_at 649 (by decide +kernel) (by decide +kernel)
theorem fl_X7_23 : Cond.fieldLink RX7 23 "BagHallModel" "findings" "I" ∈ wU := wU_at 650 (by decide +kernel) (by decide +kernel)
theorem fl_X7_16 : Cond.fieldLink RX7 16 "BagHallModel" "isGiven" "[Z" ∈ wU := wU_at 651 (by decide +kernel) (by decide +kernel)
theorem fl_X7_20 : Cond.fieldLink RX7 20 "BagHallModel" "far" "[I" ∈ wU := wU_at 652 (by decide +kernel) (by decide +kernel)
theorem ml_L_9 : Cond.methodLink RL 9 yX6_init ∈ wU := wU_at 59 (by decide +kernel) (by decide +kernel)
theorem ml_X6_1 : Cond.methodLink RX6 1 Lib.objectInit ∈ wU := wU_at 62 (by decide +kernel) (by decide +kernel)
theorem ml_X6_9 : Cond.methodLink RX6 9 yX3_init ∈ wU := wU_at 67 (by decide +kernel) (by decide +kernel)
theorem ml_X3_3 : Cond.methodLink RX3 3 Lib.objectInit ∈ wU := wU_at 70 (by decide +kernel) (by decide +kernel)
theorem ml_X4_3 : Cond.methodLink RX4 3 Lib.objectInit ∈ wU := wU_at 83 (by decide +kernel) (by decide +kernel)
theorem ml_X1_3 : Cond.methodLink RX1 3 Lib.objectInit ∈ wU := wU_at 116 (by decide +kernel) (by decide +kernel)
theorem ml_X2_1 : Cond.methodLink RX2 1 Lib.objectInit ∈ wU := wU_at 156 (by decide +kernel) (by decide +kernel)
theorem ml_X0_3 : Cond.methodLink RX0 3 Lib.objectInit ∈ wU := wU_at 174 (by decide +kernel) (by decide +kernel)
theorem ml_X5_3 : Cond.methodLink RX5 3 Lib.objectInit ∈ wU := wU_at 253 (by decide +kernel) (by decide +kernel)
theorem ml_L_13 : Cond.methodLink RL 13 yX6_point ∈ wU := wU_at 274 (by decide +kernel) (by decide +kernel)
theorem ml_X6_30 : Cond.methodLink RX6 30 yX6_isKind ∈ wU := wU_at 278 (by decide +kernel) (by decide +kernel)
theorem ml_X6_62 : Cond.methodLink RX6 62 yX6_within ∈ wU := wU_at 281 (by decide +kernel) (by decide +kernel)
theorem ml_X6_34 : Cond.methodLink RX6 34 yX6_suits ∈ wU := wU_at 284 (by decide +kernel) (by decide +kernel)
theorem ml_X6_38 : Cond.methodLink RX6 38 yX6_finding ∈ wU := wU_at 287 (by decide +kernel) (by decide +kernel)
theorem ml_X6_49 : Cond.methodLink RX6 49 yX4_begin ∈ wU := wU_at 291 (by decide +kernel) (by decide +kernel)
theorem ml_X6_55 : Cond.methodLink RX6 55 yX5_measure ∈ wU := wU_at 295 (by decide +kernel) (by decide +kernel)
theorem ml_X5_31 : Cond.methodLink RX5 31 yX5_measureTo ∈ wU := wU_at 299 (by decide +kernel) (by decide +kernel)
theorem ml_X5_42 : Cond.methodLink RX5 42 yX5_shortenBy ∈ wU := wU_at 303 (by decide +kernel) (by decide +kernel)
theorem ml_X5_55 : Cond.methodLink RX5 55 yX3_hasPoint ∈ wU := wU_at 307 (by decide +kernel) (by decide +kernel)
theorem ml_L_18 : Cond.methodLink RL 18 yX6_belt ∈ wU := wU_at 311 (by decide +kernel) (by decide +kernel)
theorem ml_X6_59 : Cond.methodLink RX6 59 yX3_hasPoint ∈ wU := wU_at 315 (by decide +kernel) (by decide +kernel)
theorem ml_X6_76 : Cond.methodLink RX6 76 yX1_begin ∈ wU := wU_at 316 (by decide +kernel) (by decide +kernel)
theorem ml_X6_81 : Cond.methodLink RX6 81 yX4_meetInlet ∈ wU := wU_at 320 (by decide +kernel) (by decide +kernel)
theorem ml_X4_31 : Cond.methodLink RX4 31 yX4_putAtHand ∈ wU := wU_at 324 (by decide +kernel) (by decide +kernel)
theorem ml_L_23 : Cond.methodLink RL 23 yX6_as ∈ wU := wU_at 328 (by decide +kernel) (by decide +kernel)
theorem ml_L_27 : Cond.methodLink RL 27 yX6_turns ∈ wU := wU_at 332 (by decide +kernel) (by decide +kernel)
theorem ml_X6_85 : Cond.methodLink RX6 85 yX3_hasBelt ∈ wU := wU_at 336 (by decide +kernel) (by decide +kernel)
theorem ml_X6_91 : Cond.methodLink RX6 91 yX3_isOfKind ∈ wU := wU_at 340 (by decide +kernel) (by decide +kernel)
theorem ml_X3_52 : Cond.methodLink RX3 52 yX3_hasPoint ∈ wU := wU_at 344 (by decide +kernel) (by decide +kernel)
theorem ml_X6_97 : Cond.methodLink RX6 97 yX4_limitLeft ∈ wU := wU_at 345 (by decide +kernel) (by decide +kernel)
theorem ml_X4_35 : Cond.methodLink RX4 35 Lib.Math.min.name ∈ wU := wU_at 349 (by decide +kernel) (by decide +kernel)
theorem ml_L_31 : Cond.methodLink RL 31 yX6_flight ∈ wU := wU_at 352 (by decide +kernel) (by decide +kernel)
theorem ml_X6_107 : Cond.methodLink RX6 107 yX2_begin ∈ wU := wU_at 356 (by decide +kernel) (by decide +kernel)
theorem ml_L_35 : Cond.methodLink RL 35 yX6_fall ∈ wU := wU_at 360 (by decide +kernel) (by decide +kernel)
theorem ml_L_40 : Cond.methodLink RL 40 yX6_bag ∈ wU := wU_at 364 (by decide +kernel) (by decide +kernel)
theorem ml_X6_114 : Cond.methodLink RX6 114 yX3_hasFlight ∈ wU := wU_at 368 (by decide +kernel) (by decide +kernel)
theorem ml_X6_124 : Cond.methodLink RX6 124 yX0_begin ∈ wU := wU_at 372 (by decide +kernel) (by decide +kernel)
theorem ml_X0_29 : Cond.methodLink RX0 29 yX0_put ∈ wU := wU_at 376 (by decide +kernel) (by decide +kernel)
theorem ml_X6_128 : Cond.methodLink RX6 128 yX3_queue ∈ wU := wU_at 380 (by decide +kernel) (by decide +kernel)
theorem ml_X3_59 : Cond.methodLink RX3 59 yX3_hasBag ∈ wU := wU_at 384 (by decide +kernel) (by decide +kernel)
theorem ml_X3_66 : Cond.methodLink RX3 66 yX0_put ∈ wU := wU_at 388 (by decide +kernel) (by decide +kernel)
theorem ml_X3_70 : Cond.methodLink RX3 70 yX4_join ∈ wU := wU_at 389 (by decide +kernel) (by decide +kernel)
theorem ml_L_45 : Cond.methodLink RL 45 yX6_take ∈ wU := wU_at 393 (by decide +kernel) (by decide +kernel)
theorem ml_X6_132 : Cond.methodLink RX6 132 yX3_hasBag ∈ wU := wU_at 397 (by decide +kernel) (by decide +kernel)
theorem ml_X6_138 : Cond.methodLink RX6 138 yX3_lift ∈ wU := wU_at 398 (by decide +kernel) (by decide +kernel)
theorem ml_X3_80 : Cond.methodLink RX3 80 yX3_hasBelt ∈ wU := wU_at 402 (by decide +kernel) (by decide +kernel)
theorem ml_X3_83 : Cond.methodLink RX3 83 yX1_leave ∈ wU := wU_at 403 (by decide +kernel) (by decide +kernel)
theorem ml_X1_35 : Cond.methodLink RX1 35 yX1_cellOf ∈ wU := wU_at 407 (by decide +kernel) (by decide +kernel)
theorem ml_X3_86 : Cond.methodLink RX3 86 yX4_leave ∈ wU := wU_at 411 (by decide +kernel) (by decide +kernel)
theorem ml_X4_41 : Cond.methodLink RX4 41 yX4_indexOf ∈ wU := wU_at 415 (by decide +kernel) (by decide +kernel)
theorem ml_L_50 : Cond.methodLink RL 50 yX6_give ∈ wU := wU_at 419 (by decide +kernel) (by decide +kernel)
theorem ml_L_54 : Cond.methodLink RL 54 yX6_where ∈ wU := wU_at 423 (by decide +kernel) (by decide +kernel)
theorem ml_L_58 : Cond.methodLink RL 58 yX6_place ∈ wU := wU_at 427 (by decide +kernel) (by decide +kernel)
theorem ml_L_62 : Cond.methodLink RL 62 yX6_detail ∈ wU := wU_at 431 (by decide +kernel) (by decide +kernel)
theorem ml_X6_147 : Cond.methodLink RX6 147 yX1_cellOf ∈ wU := wU_at 435 (by decide +kernel) (by decide +kernel)
theorem ml_X6_150 : Cond.methodLink RX6 150 yX4_indexOf ∈ wU := wU_at 436 (by decide +kernel) (by decide +kernel)
theorem ml_L_66 : Cond.methodLink RL 66 yX6_steps ∈ wU := wU_at 437 (by decide +kernel) (by decide +kernel)
theorem ml_L_70 : Cond.methodLink RL 70 yX6_step ∈ wU := wU_at 441 (by decide +kernel) (by decide +kernel)
theorem ml_X6_159 : Cond.methodLink RX6 159 yX0_keepsStep ∈ wU := wU_at 445 (by decide +kernel) (by decide +kernel)
theorem ml_X6_162 : Cond.methodLink RX6 162 yX0_stepTick ∈ wU := wU_at 449 (by decide +kernel) (by decide +kernel)
theorem ml_X0_39 : Cond.methodLink RX0 39 yX0_keepsStep ∈ wU := wU_at 453 (by decide +kernel) (by decide +kernel)
theorem ml_X6_165 : Cond.methodLink RX6 165 yX0_stepPoint ∈ wU := wU_at 454 (by decide +kernel) (by decide +kernel)
theorem ml_L_74 : Cond.methodLink RL 74 yX6_tick ∈ wU := wU_at 458 (by decide +kernel) (by decide +kernel)
theorem ml_X6_168 : Cond.methodLink RX6 168 yX6_goOneTick ∈ wU := wU_at 462 (by decide +kernel) (by decide +kernel)
theorem ml_X6_223 : Cond.methodLink RX6 223 yX6_sendFrom ∈ wU := wU_at 466 (by decide +kernel) (by decide +kernel)
theorem ml_X6_232 : Cond.methodLink RX6 232 yX6_nextToGo ∈ wU := wU_at 470 (by decide +kernel) (by decide +kernel)
theorem ml_X6_256 : Cond.methodLink RX6 256 yX6_firstOpen ∈ wU := wU_at 474 (by decide +kernel) (by decide +kernel)
theorem ml_X6_265 : Cond.methodLink RX6 265 yX6_isOpen ∈ wU := wU_at 478 (by decide +kernel) (by decide +kernel)
theorem ml_X6_181 : Cond.methodLink RX6 181 yX4_first ∈ wU := wU_at 482 (by decide +kernel) (by decide +kernel)
theorem ml_X6_236 : Cond.methodLink RX6 236 yX6_outletFor ∈ wU := wU_at 486 (by decide +kernel) (by decide +kernel)
theorem ml_X6_271 : Cond.methodLink RX6 271 yX3_screenOutlet ∈ wU := wU_at 490 (by decide +kernel) (by decide +kernel)
theorem ml_X6_195 : Cond.methodLink RX6 195 yX5_shortestOutlet ∈ wU := wU_at 494 (by decide +kernel) (by decide +kernel)
theorem ml_X6_275 : Cond.methodLink RX6 275 yX3_lowestSoundOutlet ∈ wU := wU_at 498 (by decide +kernel) (by decide +kernel)
theorem ml_X6_240 : Cond.methodLink RX6 240 yX1_canEnter ∈ wU := wU_at 502 (by decide +kernel) (by decide +kernel)
theorem ml_X6_244 : Cond.methodLink RX6 244 yX4_leave ∈ wU := wU_at 506 (by decide +kernel) (by decide +kernel)
theorem ml_X6_247 : Cond.methodLink RX6 247 yX1_enter ∈ wU := wU_at 507 (by decide +kernel) (by decide +kernel)
theorem ml_X6_250 : Cond.methodLink RX6 250 yX0_put ∈ wU := wU_at 511 (by decide +kernel) (by decide +kernel)
theorem ml_X6_253 : Cond.methodLink RX6 253 yX0_addStep ∈ wU := wU_at 512 (by decide +kernel) (by decide +kernel)
theorem ml_X6_226 : Cond.methodLink RX6 226 yX1_moveOn ∈ wU := wU_at 516 (by decide +kernel) (by decide +kernel)
theorem ml_X6_229 : Cond.methodLink RX6 229 yX6_receiveAt ∈ wU := wU_at 520 (by decide +kernel) (by decide +kernel)
theorem ml_X6_278 : Cond.methodLink RX6 278 yX4_hasRoom ∈ wU := wU_at 524 (by decide +kernel) (by decide +kernel)
theorem ml_X6_281 : Cond.methodLink RX6 281 yX6_receiveByTurns ∈ wU := wU_at 528 (by decide +kernel) (by decide +kernel)
theorem ml_X6_291 : Cond.methodLink RX6 291 yX3_inletsOf ∈ wU := wU_at 532 (by decide +kernel) (by decide +kernel)
theorem ml_X6_294 : Cond.methodLink RX6 294 yX6_passTurn ∈ wU := wU_at 536 (by decide +kernel) (by decide +kernel)
theorem ml_X6_303 : Cond.methodLink RX6 303 yX3_inletBehind ∈ wU := wU_at 540 (by decide +kernel) (by decide +kernel)
theorem ml_X6_306 : Cond.methodLink RX6 306 yX4_putAtHand ∈ wU := wU_at 544 (by decide +kernel) (by decide +kernel)
theorem ml_X6_288 : Cond.methodLink RX6 288 yX6_receiveFrom ∈ wU := wU_at 545 (by decide +kernel) (by decide +kernel)
theorem ml_X6_309 : Cond.methodLink RX6 309 yX1_readyBag ∈ wU := wU_at 549 (by decide +kernel) (by decide +kernel)
theorem ml_X6_312 : Cond.methodLink RX6 312 yX1_leave ∈ wU := wU_at 553 (by decide +kernel) (by decide +kernel)
theorem ml_X6_313 : Cond.methodLink RX6 313 yX4_join ∈ wU := wU_at 554 (by decide +kernel) (by decide +kernel)
theorem ml_X6_316 : Cond.methodLink RX6 316 yX6_whereAt ∈ wU := wU_at 555 (by decide +kernel) (by decide +kernel)
theorem ml_X6_284 : Cond.methodLink RX6 284 yX6_receiveByNumbers ∈ wU := wU_at 559 (by decide +kernel) (by decide +kernel)
theorem ml_L_78 : Cond.methodLink RL 78 yX6_cell ∈ wU := wU_at 563 (by decide +kernel) (by decide +kernel)
theorem ml_L_82 : Cond.methodLink RL 82 yX6_holds ∈ wU := wU_at 567 (by decide +kernel) (by decide +kernel)
theorem ml_L_86 : Cond.methodLink RL 86 yX6_list ∈ wU := wU_at 571 (by decide +kernel) (by decide +kernel)
theorem ml_L_90 : Cond.methodLink RL 90 yX6_far ∈ wU := wU_at 575 (by decide +kernel) (by decide +kernel)
theorem ml_L_94 : Cond.methodLink RL 94 yX6_route ∈ wU := wU_at 579 (by decide +kernel) (by decide +kernel)
theorem ml_L_98 : Cond.methodLink RL 98 yX6_flown ∈ wU := wU_at 583 (by decide +kernel) (by decide +kernel)
theorem ml_X6_205 : Cond.methodLink RX6 205 yX3_bagsOfFlight_ ∈ wU := wU_at 587 (by decide +kernel) (by decide +kernel)
theorem ml_X6_209 : Cond.methodLink RX6 209 yX3_bagsOfFlight ∈ wU := wU_at 591 (by decide +kernel) (by decide +kernel)
theorem ml_L_102 : Cond.methodLink RL 102 yX6_count ∈ wU := wU_at 595 (by decide +kernel) (by decide +kernel)
theorem ml_X6_211 : Cond.methodLink RX6 211 yX3_bagsThatAre ∈ wU := wU_at 599 (by decide +kernel) (by decide +kernel)
theorem ml_X6_214 : Cond.methodLink RX6 214 yX3_fallenBelts ∈ wU := wU_at 603 (by decide +kernel) (by decide +kernel)
theorem ml_L_106 : Cond.methodLink RL 106 yX6_keep ∈ wU := wU_at 607 (by decide +kernel) (by decide +kernel)
theorem ml_X6_217 : Cond.methodLink RX6 217 yX3_copyFrom ∈ wU := wU_at 611 (by decide +kernel) (by decide +kernel)
theorem ml_X3_99 : Cond.methodLink RX3 99 yX4_copyFrom ∈ wU := wU_at 615 (by decide +kernel) (by decide +kernel)
theorem ml_X4_45 : Cond.methodLink RX4 45 arraycopyName ∈ wU := wU_at 619 (by decide +kernel) (by decide +kernel)
theorem ml_X3_103 : Cond.methodLink RX3 103 yX1_copyFrom ∈ wU := wU_at 622 (by decide +kernel) (by decide +kernel)
theorem ml_X1_39 : Cond.methodLink RX1 39 arraycopyName ∈ wU := wU_at 626 (by decide +kernel) (by decide +kernel)
theorem ml_X3_106 : Cond.methodLink RX3 106 yX2_copyFrom ∈ wU := wU_at 627 (by decide +kernel) (by decide +kernel)
theorem ml_X2_19 : Cond.methodLink RX2 19 yX2_begin ∈ wU := wU_at 631 (by decide +kernel) (by decide +kernel)
theorem ml_X3_109 : Cond.methodLink RX3 109 yX0_copyFrom ∈ wU := wU_at 632 (by decide +kernel) (by decide +kernel)
theorem ml_X0_43 : Cond.methodLink RX0 43 arraycopyName ∈ wU := wU_at 636 (by decide +kernel) (by decide +kernel)
theorem ml_L_111 : Cond.methodLink RL 111 yX6_back ∈ wU := wU_at 637 (by decide +kernel) (by decide +kernel)
theorem ml_L_12 : Cond.methodLink RL 12 yX7_init ∈ wU := wU_at 643 (by decide +kernel) (by decide +kernel)
theorem ml_X7_1 : Cond.methodLink RX7 1 Lib.objectInit ∈ wU := wU_at 646 (by decide +kernel) (by decide +kernel)
theorem ml_L_17 : Cond.methodLink RL 17 yX7_point ∈ wU := wU_at 667 (by decide +kernel) (by decide +kernel)
theorem ml_X7_27 : Cond.methodLink RX7 27 yX7_in ∈ wU := wU_at 671 (by decide +kernel) (by decide +kernel)
theorem ml_X7_31 : Cond.methodLink RX7 31 yX7_finding ∈ wU := wU_at 674 (by decide +kernel) (by decide +kernel)
theorem ml_L_22 : Cond.methodLink RL 22 yX7_belt ∈ wU := wU_at 678 (by decide +kernel) (by decide +kernel)
theorem ml_X7_35 : Cond.methodLink RX7 35 yX7_isPoint ∈ wU := wU_at 682 (by decide +kernel) (by decide +kernel)
theorem ml_X7_39 : Cond.methodLink RX7 39 yX7_kindOf ∈ wU := wU_at 686 (by decide +kernel) (by decide +kernel)
theorem ml_L_26 : Cond.methodLink RL 26 yX7_as ∈ wU := wU_at 690 (by decide +kernel) (by decide +kernel)
theorem ml_L_30 : Cond.methodLink RL 30 yX7_turns ∈ wU := wU_at 694 (by decide +kernel) (by decide +kernel)
theorem ml_X7_42 : Cond.methodLink RX7 42 yX7_isBelt ∈ wU := wU_at 698 (by decide +kernel) (by decide +kernel)
theorem ml_L_34 : Cond.methodLink RL 34 yX7_flight ∈ wU := wU_at 702 (by decide +kernel) (by decide +kernel)
theorem ml_L_39 : Cond.methodLink RL 39 yX7_fall ∈ wU := wU_at 706 (by decide +kernel) (by decide +kernel)
theorem ml_L_44 : Cond.methodLink RL 44 yX7_bag ∈ wU := wU_at 710 (by decide +kernel) (by decide +kernel)
theorem ml_X7_49 : Cond.methodLink RX7 49 yX7_isFlight ∈ wU := wU_at 714 (by decide +kernel) (by decide +kernel)
theorem ml_X7_52 : Cond.methodLink RX7 52 yX7_waits ∈ wU := wU_at 718 (by decide +kernel) (by decide +kernel)
theorem ml_X7_45 : Cond.methodLink RX7 45 yX7_lies ∈ wU := wU_at 722 (by decide +kernel) (by decide +kernel)
theorem ml_L_49 : Cond.methodLink RL 49 yX7_take ∈ wU := wU_at 726 (by decide +kernel) (by decide +kernel)
theorem ml_X7_56 : Cond.methodLink RX7 56 yX7_isBag ∈ wU := wU_at 730 (by decide +kernel) (by decide +kernel)
theorem ml_L_53 : Cond.methodLink RL 53 yX7_give ∈ wU := wU_at 734 (by decide +kernel) (by decide +kernel)
theorem ml_X7_59 : Cond.methodLink RX7 59 yX7_waitingAt ∈ wU := wU_at 738 (by decide +kernel) (by decide +kernel)
theorem ml_L_57 : Cond.methodLink RL 57 yX7_where ∈ wU := wU_at 742 (by decide +kernel) (by decide +kernel)
theorem ml_L_61 : Cond.methodLink RL 61 yX7_place ∈ wU := wU_at 746 (by decide +kernel) (by decide +kernel)
theorem ml_L_65 : Cond.methodLink RL 65 yX7_detail ∈ wU := wU_at 750 (by decide +kernel) (by decide +kernel)
theorem ml_L_69 : Cond.methodLink RL 69 yX7_steps ∈ wU := wU_at 754 (by decide +kernel) (by decide +kernel)
theorem ml_L_73 : Cond.methodLink RL 73 yX7_step ∈ wU := wU_at 758 (by decide +kernel) (by decide +kernel)
theorem ml_X7_62 : Cond.methodLink RX7 62 Lib.Math.min.name ∈ wU := wU_at 762 (by decide +kernel) (by decide +kernel)
theorem ml_L_93 : Cond.methodLink RL 93 yX7_far ∈ wU := wU_at 763 (by decide +kernel) (by decide +kernel)
theorem ml_X7_68 : Cond.methodLink RX7 68 yX7_findFar ∈ wU := wU_at 767 (by decide +kernel) (by decide +kernel)
theorem ml_L_97 : Cond.methodLink RL 97 yX7_route ∈ wU := wU_at 771 (by decide +kernel) (by decide +kernel)
theorem ml_X7_72 : Cond.methodLink RX7 72 yX7_outletFor ∈ wU := wU_at 775 (by decide +kernel) (by decide +kernel)
theorem ml_L_77 : Cond.methodLink RL 77 yX7_tick ∈ wU := wU_at 779 (by decide +kernel) (by decide +kernel)
theorem ml_X7_131 : Cond.methodLink RX7 131 yX7_tickOnce ∈ wU := wU_at 783 (by decide +kernel) (by decide +kernel)
theorem ml_X7_122 : Cond.methodLink RX7 122 yX7_giveAt ∈ wU := wU_at 787 (by decide +kernel) (by decide +kernel)
theorem ml_X7_81 : Cond.methodLink RX7 81 yX7_firstWaiting ∈ wU := wU_at 791 (by decide +kernel) (by decide +kernel)
theorem ml_X7_84 : Cond.methodLink RX7 84 yX7_outlet ∈ wU := wU_at 795 (by decide +kernel) (by decide +kernel)
theorem ml_X7_87 : Cond.methodLink RX7 87 yX7_put ∈ wU := wU_at 799 (by decide +kernel) (by decide +kernel)
theorem ml_X7_75 : Cond.methodLink RX7 75 yX7_isFree ∈ wU := wU_at 803 (by decide +kernel) (by decide +kernel)
theorem ml_X7_91 : Cond.methodLink RX7 91 yX7_goes ∈ wU := wU_at 807 (by decide +kernel) (by decide +kernel)
theorem ml_X7_94 : Cond.methodLink RX7 94 yX7_firstOpened ∈ wU := wU_at 811 (by decide +kernel) (by decide +kernel)
theorem ml_X7_97 : Cond.methodLink RX7 97 yX7_screened ∈ wU := wU_at 815 (by decide +kernel) (by decide +kernel)
theorem ml_X7_78 : Cond.methodLink RX7 78 yX7_outletAt ∈ wU := wU_at 819 (by decide +kernel) (by decide +kernel)
theorem ml_X7_125 : Cond.methodLink RX7 125 yX7_move ∈ wU := wU_at 823 (by decide +kernel) (by decide +kernel)
theorem ml_X7_128 : Cond.methodLink RX7 128 yX7_takeAt ∈ wU := wU_at 827 (by decide +kernel) (by decide +kernel)
theorem ml_X7_100 : Cond.methodLink RX7 100 yX7_ready ∈ wU := wU_at 831 (by decide +kernel) (by decide +kernel)
theorem ml_X7_109 : Cond.methodLink RX7 109 yX7_takeFrom ∈ wU := wU_at 835 (by decide +kernel) (by decide +kernel)
theorem ml_X7_113 : Cond.methodLink RX7 113 yX7_readyInlet ∈ wU := wU_at 839 (by decide +kernel) (by decide +kernel)
theorem ml_X7_116 : Cond.methodLink RX7 116 yX7_storedAt ∈ wU := wU_at 843 (by decide +kernel) (by decide +kernel)
theorem ml_X7_119 : Cond.methodLink RX7 119 yX7_merge ∈ wU := wU_at 847 (by decide +kernel) (by decide +kernel)
theorem ml_X7_103 : Cond.methodLink RX7 103 yX7_inlets ∈ wU := wU_at 851 (by decide +kernel) (by decide +kernel)
theorem ml_X7_106 : Cond.methodLink RX7 106 yX7_nextInlet ∈ wU := wU_at 855 (by decide +kernel) (by decide +kernel)
theorem ml_L_81 : Cond.methodLink RL 81 yX7_cell ∈ wU := wU_at 859 (by decide +kernel) (by decide +kernel)
theorem ml_L_85 : Cond.methodLink RL 85 yX7_holds ∈ wU := wU_at 863 (by decide +kernel) (by decide +kernel)
theorem ml_L_89 : Cond.methodLink RL 89 yX7_list ∈ wU := wU_at 867 (by decide +kernel) (by decide +kernel)
theorem ml_X7_134 : Cond.methodLink RX7 134 yX7_aheadOf ∈ wU := wU_at 871 (by decide +kernel) (by decide +kernel)
theorem ml_L_101 : Cond.methodLink RL 101 yX7_flown ∈ wU := wU_at 875 (by decide +kernel) (by decide +kernel)
theorem ml_L_105 : Cond.methodLink RL 105 yX7_count ∈ wU := wU_at 879 (by decide +kernel) (by decide +kernel)
theorem ml_L_110 : Cond.methodLink RL 110 yX7_keep ∈ wU := wU_at 883 (by decide +kernel) (by decide +kernel)
theorem ml_L_114 : Cond.methodLink RL 114 yX7_back ∈ wU := wU_at 887 (by decide +kernel) (by decide +kernel)
abbrev mX0_init : MI := (yX0_init, cX0_init, 1, none)
theorem kX0_init : mokI mX0_init 0 := ⟨⟨wU_at 173 (by decide +kernel) (by decide +kernel), wU_at 52 (by decide +kernel) (by decide +kernel), by decide +kernel⟩, wU_at 172 (by decide +kernel) (by decide +kernel), rfl, rfl⟩
abbrev mX0_begin : MI := (yX0_begin, cX0_begin, 2, none)
theorem kX0_begin : mokV mX0_begin 1 := ⟨⟨wU_at 375 (by decide +kernel) (by decide +kernel), wU_at 52 (by decide +kernel) (by decide +kernel), by decide +kernel⟩, wU_at 373 (by decide +kernel) (by decide +kernel), wU_at 374 (by decide +kernel) (by decide +kernel)⟩
abbrev mX0_put : MI := (yX0_put, cX0_put, 3, none)
theorem kX0_put : mokV mX0_put 2 := ⟨⟨wU_at 379 (by decide +kernel) (by decide +kernel), wU_at 52 (by decide +kernel) (by decide +kernel), by decide +kernel⟩, wU_at 377 (by decide +kernel) (by decide +kernel), wU_at 378 (by decide +kernel) (by decide +kernel)⟩
abbrev mX0_addStep : MI := (yX0_addStep, cX0_addStep, 3, none)
theorem kX0_addStep : mokV mX0_addStep 2 := ⟨⟨wU_at 515 (by decide +kernel) (by decide +kernel), wU_at 52 (by decide +kernel) (by decide +kernel), by decide +kernel⟩, wU_at 513 (by decide +kernel) (by decide +kernel), wU_at 514 (by decide +kernel) (by decide +kernel)⟩
abbrev mX0_keepsStep : MI := (yX0_keepsStep, cX0_keepsStep, 2, (some .boolean))
theorem kX0_keepsStep : mokV mX0_keepsStep 1 := ⟨⟨wU_at 448 (by decide +kernel) (by decide +kernel), wU_at 52 (by decide +kernel) (by decide +kernel), by decide +kernel⟩, wU_at 446 (by decide +kernel) (by decide +kernel), wU_at 447 (by decide +kernel) (by decide +kernel)⟩
abbrev mX0_stepTick : MI := (yX0_stepTick, cX0_stepTick, 2, (some .int))
theorem kX0_stepTick : mokV mX0_stepTick 1 := ⟨⟨wU_at 452 (by decide +kernel) (by decide +kernel), wU_at 52 (by decide +kernel) (by decide +kernel), by decide +kernel⟩, wU_at 450 (by decide +kernel) (by decide +kernel), wU_at 451 (by decide +kernel) (by decide +kernel)⟩
abbrev mX0_stepPoint : MI := (yX0_stepPoint, cX0_stepPoint, 2, (some .int))
theorem kX0_stepPoint : mokV mX0_stepPoint 1 := ⟨⟨wU_at 457 (by decide +kernel) (by decide +kernel), wU_at 52 (by decide +kernel) (by decide +kernel), by decide +kernel⟩, wU_at 455 (by decide +kernel) (by decide +kernel), wU_at 456 (by decide +kernel) (by decide +kernel)⟩
abbrev mX0_copyFrom : MI := (yX0_copyFrom, cX0_copyFrom, 2, none)
theorem kX0_copyFrom : mokV mX0_copyFrom 1 := ⟨⟨wU_at 635 (by decide +kernel) (by decide +kernel), wU_at 52 (by decide +kernel) (by decide +kernel), by decide +kernel⟩, wU_at 633 (by decide +kernel) (by decide +kernel), wU_at 634 (by decide +kernel) (by decide +kernel)⟩
abbrev mX1_init : MI := (yX1_init, cX1_init, 1, none)
theorem kX1_init : mokI mX1_init 0 := ⟨⟨wU_at 115 (by decide +kernel) (by decide +kernel), wU_at 50 (by decide +kernel) (by decide +kernel), by decide +kernel⟩, wU_at 114 (by decide +kernel) (by decide +kernel), rfl, rfl⟩
abbrev mX1_begin : MI := (yX1_begin, cX1_begin, 5, none)
theorem kX1_begin : mokV mX1_begin 3 := ⟨⟨wU_at 319 (by decide +kernel) (by decide +kernel), wU_at 50 (by decide +kernel) (by decide +kernel), by decide +kernel⟩, wU_at 317 (by decide +kernel) (by decide +kernel), wU_at 318 (by decide +kernel) (by decide +kernel)⟩
abbrev mX1_canEnter : MI := (yX1_canEnter, cX1_canEnter, 1, (some .boolean))
theorem kX1_canEnter : mokV mX1_canEnter 0 := ⟨⟨wU_at 505 (by decide +kernel) (by decide +kernel), wU_at 50 (by decide +kernel) (by decide +kernel), by decide +kernel⟩, wU_at 503 (by decide +kernel) (by decide +kernel), wU_at 504 (by decide +kernel) (by decide +kernel)⟩
abbrev mX1_enter : MI := (yX1_enter, cX1_enter, 2, none)
theorem kX1_enter : mokV mX1_enter 1 := ⟨⟨wU_at 510 (by decide +kernel) (by decide +kernel), wU_at 50 (by decide +kernel) (by decide +kernel), by decide +kernel⟩, wU_at 508 (by decide +kernel) (by decide +kernel), wU_at 509 (by decide +kernel) (by decide +kernel)⟩
abbrev mX1_moveOn : MI := (yX1_moveOn, cX1_moveOn, 3, none)
theorem kX1_moveOn : mokV mX1_moveOn 0 := ⟨⟨wU_at 519 (by decide +kernel) (by decide +kernel), wU_at 50 (by decide +kernel) (by decide +kernel), by decide +kernel⟩, wU_at 517 (by decide +kernel) (by decide +kernel), wU_at 518 (by decide +kernel) (by decide +kernel)⟩
abbrev mX1_readyBag : MI := (yX1_readyBag, cX1_readyBag, 2, (some .int))
theorem kX1_readyBag : mokV mX1_readyBag 0 := ⟨⟨wU_at 552 (by decide +kernel) (by decide +kernel), wU_at 50 (by decide +kernel) (by decide +kernel), by decide +kernel⟩, wU_at 550 (by decide +kernel) (by decide +kernel), wU_at 551 (by decide +kernel) (by decide +kernel)⟩
abbrev mX1_cellOf : MI := (yX1_cellOf, cX1_cellOf, 3, (some .int))
theorem kX1_cellOf : mokV mX1_cellOf 1 := ⟨⟨wU_at 410 (by decide +kernel) (by decide +kernel), wU_at 50 (by decide +kernel) (by decide +kernel), by decide +kernel⟩, wU_at 408 (by decide +kernel) (by decide +kernel), wU_at 409 (by decide +kernel) (by decide +kernel)⟩
abbrev mX1_leave : MI := (yX1_leave, cX1_leave, 3, none)
theorem kX1_leave : mokV mX1_leave 1 := ⟨⟨wU_at 406 (by decide +kernel) (by decide +kernel), wU_at 50 (by decide +kernel) (by decide +kernel), by decide +kernel⟩, wU_at 404 (by decide +kernel) (by decide +kernel), wU_at 405 (by decide +kernel) (by decide +kernel)⟩
abbrev mX1_copyFrom : MI := (yX1_copyFrom, cX1_copyFrom, 2, none)
theorem kX1_copyFrom : mokV mX1_copyFrom 1 := ⟨⟨wU_at 625 (by decide +kernel) (by decide +kernel), wU_at 50 (by decide +kernel) (by decide +kernel), by decide +kernel⟩, wU_at 623 (by decide +kernel) (by decide +kernel), wU_at 624 (by decide +kernel) (by decide +kernel)⟩
abbrev mX2_init : MI := (yX2_init, cX2_init, 1, none)
theorem kX2_init : mokI mX2_init 0 := ⟨⟨wU_at 155 (by decide +kernel) (by decide +kernel), wU_at 51 (by decide +kernel) (by decide +kernel), by decide +kernel⟩, wU_at 154 (by decide +kernel) (by decide +kernel), rfl, rfl⟩
abbrev mX2_begin : MI := (yX2_begin, cX2_begin, 4, none)
theorem kX2_begin : mokV mX2_begin 3 := ⟨⟨wU_at 359 (by decide +kernel) (by decide +kernel), wU_at 51 (by decide +kernel) (by decide +kernel), by decide +kernel⟩, wU_at 357 (by decide +kernel) (by decide +kernel), wU_at 358 (by decide +kernel) (by decide +kernel)⟩
abbrev mX2_copyFrom : MI := (yX2_copyFrom, cX2_copyFrom, 2, none)
theorem kX2_copyFrom : mokV mX2_copyFrom 1 := ⟨⟨wU_at 630 (by decide +kernel) (by decide +kernel), wU_at 51 (by decide +kernel) (by decide +kernel), by decide +kernel⟩, wU_at 628 (by decide +kernel) (by decide +kernel), wU_at 629 (by decide +kernel) (by decide +kernel)⟩
abbrev mX3_init : MI := (yX3_init, cX3_init, 2, none)
theorem kX3_init : mokI mX3_init 0 := ⟨⟨wU_at 69 (by decide +kernel) (by decide +kernel), wU_at 48 (by decide +kernel) (by decide +kernel), by decide +kernel⟩, wU_at 68 (by decide +kernel) (by decide +kernel), rfl, rfl⟩
abbrev mX3_hasPoint : MI := (yX3_hasPoint, cX3_hasPoint, 2, (some .boolean))
theorem kX3_hasPoint : mokV mX3_hasPoint 1 := ⟨⟨wU_at 310 (by decide +kernel) (by decide +kernel), wU_at 48 (by decide +kernel) (by decide +kernel), by decide +kernel⟩, wU_at 308 (by decide +kernel) (by decide +kernel), wU_at 309 (by decide +kernel) (by decide +kernel)⟩
abbrev mX3_hasBelt : MI := (yX3_hasBelt, cX3_hasBelt, 2, (some .boolean))
theorem kX3_hasBelt : mokV mX3_hasBelt 1 := ⟨⟨wU_at 339 (by decide +kernel) (by decide +kernel), wU_at 48 (by decide +kernel) (by decide +kernel), by decide +kernel⟩, wU_at 337 (by decide +kernel) (by decide +kernel), wU_at 338 (by decide +kernel) (by decide +kernel)⟩
abbrev mX3_hasFlight : MI := (yX3_hasFlight, cX3_hasFlight, 2, (some .boolean))
theorem kX3_hasFlight : mokV mX3_hasFlight 1 := ⟨⟨wU_at 371 (by decide +kernel) (by decide +kernel), wU_at 48 (by decide +kernel) (by decide +kernel), by decide +kernel⟩, wU_at 369 (by decide +kernel) (by decide +kernel), wU_at 370 (by decide +kernel) (by decide +kernel)⟩
abbrev mX3_hasBag : MI := (yX3_hasBag, cX3_hasBag, 2, (some .boolean))
theorem kX3_hasBag : mokV mX3_hasBag 1 := ⟨⟨wU_at 387 (by decide +kernel) (by decide +kernel), wU_at 48 (by decide +kernel) (by decide +kernel), by decide +kernel⟩, wU_at 385 (by decide +kernel) (by decide +kernel), wU_at 386 (by decide +kernel) (by decide +kernel)⟩
abbrev mX3_isOfKind : MI := (yX3_isOfKind, cX3_isOfKind, 3, (some .boolean))
theorem kX3_isOfKind : mokV mX3_isOfKind 2 := ⟨⟨wU_at 343 (by decide +kernel) (by decide +kernel), wU_at 48 (by decide +kernel) (by decide +kernel), by decide +kernel⟩, wU_at 341 (by decide +kernel) (by decide +kernel), wU_at 342 (by decide +kernel) (by decide +kernel)⟩
abbrev mX3_queue : MI := (yX3_queue, cX3_queue, 4, none)
theorem kX3_queue : mokV mX3_queue 3 := ⟨⟨wU_at 383 (by decide +kernel) (by decide +kernel), wU_at 48 (by decide +kernel) (by decide +kernel), by decide +kernel⟩, wU_at 381 (by decide +kernel) (by decide +kernel), wU_at 382 (by decide +kernel) (by decide +kernel)⟩
abbrev mX3_lift : MI := (yX3_lift, cX3_lift, 3, none)
theorem kX3_lift : mokV mX3_lift 1 := ⟨⟨wU_at 401 (by decide +kernel) (by decide +kernel), wU_at 48 (by decide +kernel) (by decide +kernel), by decide +kernel⟩, wU_at 399 (by decide +kernel) (by decide +kernel), wU_at 400 (by decide +kernel) (by decide +kernel)⟩
abbrev mX3_inletsOf : MI := (yX3_inletsOf, cX3_inletsOf, 4, (some .int))
theorem kX3_inletsOf : mokV mX3_inletsOf 1 := ⟨⟨wU_at 535 (by decide +kernel) (by decide +kernel), wU_at 48 (by decide +kernel) (by decide +kernel), by decide +kernel⟩, wU_at 533 (by decide +kernel) (by decide +kernel), wU_at 534 (by decide +kernel) (by decide +kernel)⟩
abbrev mX3_inletBehind : MI := (yX3_inletBehind, cX3_inletBehind, 5, (some .int))
theorem kX3_inletBehind : mokV mX3_inletBehind 2 := ⟨⟨wU_at 543 (by decide +kernel) (by decide +kernel), wU_at 48 (by decide +kernel) (by decide +kernel), by decide +kernel⟩, wU_at 541 (by decide +kernel) (by decide +kernel), wU_at 542 (by decide +kernel) (by decide +kernel)⟩
abbrev mX3_lowestSoundOutlet : MI := (yX3_lowestSoundOutlet, cX3_lowestSoundOutlet, 3, (some .int))
theorem kX3_lowestSoundOutlet : mokV mX3_lowestSoundOutlet 1 := ⟨⟨wU_at 501 (by decide +kernel) (by decide +kernel), wU_at 48 (by decide +kernel) (by decide +kernel), by decide +kernel⟩, wU_at 499 (by decide +kernel) (by decide +kernel), wU_at 500 (by decide +kernel) (by decide +kernel)⟩
abbrev mX3_screenOutlet : MI := (yX3_screenOutlet, cX3_screenOutlet, 5, (some .int))
theorem kX3_screenOutlet : mokV mX3_screenOutlet 2 := ⟨⟨wU_at 493 (by decide +kernel) (by decide +kernel), wU_at 48 (by decide +kernel) (by decide +kernel), by decide +kernel⟩, wU_at 491 (by decide +kernel) (by decide +kernel), wU_at 492 (by decide +kernel) (by decide +kernel)⟩
abbrev mX3_bagsThatAre : MI := (yX3_bagsThatAre, cX3_bagsThatAre, 4, (some .int))
theorem kX3_bagsThatAre : mokV mX3_bagsThatAre 1 := ⟨⟨wU_at 602 (by decide +kernel) (by decide +kernel), wU_at 48 (by decide +kernel) (by decide +kernel), by decide +kernel⟩, wU_at 600 (by decide +kernel) (by decide +kernel), wU_at 601 (by decide +kernel) (by decide +kernel)⟩
abbrev mX3_bagsOfFlight : MI := (yX3_bagsOfFlight, cX3_bagsOfFlight, 4, (some .int))
theorem kX3_bagsOfFlight : mokV mX3_bagsOfFlight 1 := ⟨⟨wU_at 594 (by decide +kernel) (by decide +kernel), wU_at 48 (by decide +kernel) (by decide +kernel), by decide +kernel⟩, wU_at 592 (by decide +kernel) (by decide +kernel), wU_at 593 (by decide +kernel) (by decide +kernel)⟩
abbrev mX3_bagsOfFlight_ : MI := (yX3_bagsOfFlight_, cX3_bagsOfFlight_, 5, (some .int))
theorem kX3_bagsOfFlight_ : mokV mX3_bagsOfFlight_ 2 := ⟨⟨wU_at 590 (by decide +kernel) (by decide +kernel), wU_at 48 (by decide +kernel) (by decide +kernel), by decide +kernel⟩, wU_at 588 (by decide +kernel) (by decide +kernel), wU_at 589 (by decide +kernel) (by decide +kernel)⟩
abbrev mX3_fallenBelts : MI := (yX3_fallenBelts, cX3_fallenBelts, 3, (some .int))
theorem kX3_fallenBelts : mokV mX3_fallenBelts 0 := ⟨⟨wU_at 606 (by decide +kernel) (by decide +kernel), wU_at 48 (by decide +kernel) (by decide +kernel), by decide +kernel⟩, wU_at 604 (by decide +kernel) (by decide +kernel), wU_at 605 (by decide +kernel) (by decide +kernel)⟩
abbrev mX3_copyFrom : MI := (yX3_copyFrom, cX3_copyFrom, 3, none)
theorem kX3_copyFrom : mokV mX3_copyFrom 1 := ⟨⟨wU_at 614 (by decide +kernel) (by decide +kernel), wU_at 48 (by decide +kernel) (by decide +kernel), by decide +kernel⟩, wU_at 612 (by decide +kernel) (by decide +kernel), wU_at 613 (by decide +kernel) (by decide +kernel)⟩
abbrev mX4_init : MI := (yX4_init, cX4_init, 1, none)
theorem kX4_init : mokI mX4_init 0 := ⟨⟨wU_at 82 (by decide +kernel) (by decide +kernel), wU_at 49 (by decide +kernel) (by decide +kernel), by decide +kernel⟩, wU_at 81 (by decide +kernel) (by decide +kernel), rfl, rfl⟩
abbrev mX4_begin : MI := (yX4_begin, cX4_begin, 3, none)
theorem kX4_begin : mokV mX4_begin 2 := ⟨⟨wU_at 294 (by decide +kernel) (by decide +kernel), wU_at 49 (by decide +kernel) (by decide +kernel), by decide +kernel⟩, wU_at 292 (by decide +kernel) (by decide +kernel), wU_at 293 (by decide +kernel) (by decide +kernel)⟩
abbrev mX4_meetInlet : MI := (yX4_meetInlet, cX4_meetInlet, 2, none)
theorem kX4_meetInlet : mokV mX4_meetInlet 1 := ⟨⟨wU_at 323 (by decide +kernel) (by decide +kernel), wU_at 49 (by decide +kernel) (by decide +kernel), by decide +kernel⟩, wU_at 321 (by decide +kernel) (by decide +kernel), wU_at 322 (by decide +kernel) (by decide +kernel)⟩
abbrev mX4_putAtHand : MI := (yX4_putAtHand, cX4_putAtHand, 3, none)
theorem kX4_putAtHand : mokV mX4_putAtHand 2 := ⟨⟨wU_at 327 (by decide +kernel) (by decide +kernel), wU_at 49 (by decide +kernel) (by decide +kernel), by decide +kernel⟩, wU_at 325 (by decide +kernel) (by decide +kernel), wU_at 326 (by decide +kernel) (by decide +kernel)⟩
abbrev mX4_limitLeft : MI := (yX4_limitLeft, cX4_limitLeft, 3, none)
theorem kX4_limitLeft : mokV mX4_limitLeft 2 := ⟨⟨wU_at 348 (by decide +kernel) (by decide +kernel), wU_at 49 (by decide +kernel) (by decide +kernel), by decide +kernel⟩, wU_at 346 (by decide +kernel) (by decide +kernel), wU_at 347 (by decide +kernel) (by decide +kernel)⟩
abbrev mX4_hasRoom : MI := (yX4_hasRoom, cX4_hasRoom, 1, (some .boolean))
theorem kX4_hasRoom : mokV mX4_hasRoom 0 := ⟨⟨wU_at 527 (by decide +kernel) (by decide +kernel), wU_at 49 (by decide +kernel) (by decide +kernel), by decide +kernel⟩, wU_at 525 (by decide +kernel) (by decide +kernel), wU_at 526 (by decide +kernel) (by decide +kernel)⟩
abbrev mX4_first : MI := (yX4_first, cX4_first, 1, (some .int))
theorem kX4_first : mokV mX4_first 0 := ⟨⟨wU_at 485 (by decide +kernel) (by decide +kernel), wU_at 49 (by decide +kernel) (by decide +kernel), by decide +kernel⟩, wU_at 483 (by decide +kernel) (by decide +kernel), wU_at 484 (by decide +kernel) (by decide +kernel)⟩
abbrev mX4_indexOf : MI := (yX4_indexOf, cX4_indexOf, 3, (some .int))
theorem kX4_indexOf : mokV mX4_indexOf 1 := ⟨⟨wU_at 418 (by decide +kernel) (by decide +kernel), wU_at 49 (by decide +kernel) (by decide +kernel), by decide +kernel⟩, wU_at 416 (by decide +kernel) (by decide +kernel), wU_at 417 (by decide +kernel) (by decide +kernel)⟩
abbrev mX4_join : MI := (yX4_join, cX4_join, 2, none)
theorem kX4_join : mokV mX4_join 1 := ⟨⟨wU_at 392 (by decide +kernel) (by decide +kernel), wU_at 49 (by decide +kernel) (by decide +kernel), by decide +kernel⟩, wU_at 390 (by decide +kernel) (by decide +kernel), wU_at 391 (by decide +kernel) (by decide +kernel)⟩
abbrev mX4_leave : MI := (yX4_leave, cX4_leave, 4, none)
theorem kX4_leave : mokV mX4_leave 1 := ⟨⟨wU_at 414 (by decide +kernel) (by decide +kernel), wU_at 49 (by decide +kernel) (by decide +kernel), by decide +kernel⟩, wU_at 412 (by decide +kernel) (by decide +kernel), wU_at 413 (by decide +kernel) (by decide +kernel)⟩
abbrev mX4_copyFrom : MI := (yX4_copyFrom, cX4_copyFrom, 2, none)
theorem kX4_copyFrom : mokV mX4_copyFrom 1 := ⟨⟨wU_at 618 (by decide +kernel) (by decide +kernel), wU_at 49 (by decide +kernel) (by decide +kernel), by decide +kernel⟩, wU_at 616 (by decide +kernel) (by decide +kernel), wU_at 617 (by decide +kernel) (by decide +kernel)⟩
abbrev mX5_init : MI := (yX5_init, cX5_init, 1, none)
theorem kX5_init : mokI mX5_init 0 := ⟨⟨wU_at 252 (by decide +kernel) (by decide +kernel), wU_at 53 (by decide +kernel) (by decide +kernel), by decide +kernel⟩, wU_at 251 (by decide +kernel) (by decide +kernel), rfl, rfl⟩
abbrev mX5_measure : MI := (yX5_measure, cX5_measure, 3, none)
theorem kX5_measure : mokV mX5_measure 1 := ⟨⟨wU_at 298 (by decide +kernel) (by decide +kernel), wU_at 53 (by decide +kernel) (by decide +kernel), by decide +kernel⟩, wU_at 296 (by decide +kernel) (by decide +kernel), wU_at 297 (by decide +kernel) (by decide +kernel)⟩
abbrev mX5_measureTo : MI := (yX5_measureTo, cX5_measureTo, 6, none)
theorem kX5_measureTo : mokV mX5_measureTo 2 := ⟨⟨wU_at 302 (by decide +kernel) (by decide +kernel), wU_at 53 (by decide +kernel) (by decide +kernel), by decide +kernel⟩, wU_at 301 (by decide +kernel) (by decide +kernel), wU_at 1 (by decide +kernel) (by decide +kernel)⟩
abbrev mX5_shortenBy : MI := (yX5_shortenBy, cX5_shortenBy, 6, (some .boolean))
theorem kX5_shortenBy : mokV mX5_shortenBy 3 := ⟨⟨wU_at 306 (by decide +kernel) (by decide +kernel), wU_at 53 (by decide +kernel) (by decide +kernel), by decide +kernel⟩, wU_at 305 (by decide +kernel) (by decide +kernel), wU_at 2 (by decide +kernel) (by decide +kernel)⟩
abbrev mX5_shortestOutlet : MI := (yX5_shortestOutlet, cX5_shortestOutlet, 9, (some .int))
theorem kX5_shortestOutlet : mokV mX5_shortestOutlet 3 := ⟨⟨wU_at 497 (by decide +kernel) (by decide +kernel), wU_at 53 (by decide +kernel) (by decide +kernel), by decide +kernel⟩, wU_at 495 (by decide +kernel) (by decide +kernel), wU_at 496 (by decide +kernel) (by decide +kernel)⟩
abbrev mX6_init : MI := (yX6_init, cX6_init, 1, none)
theorem kX6_init : mokI mX6_init 0 := ⟨⟨wU_at 61 (by decide +kernel) (by decide +kernel), wU_at 47 (by decide +kernel) (by decide +kernel), by decide +kernel⟩, wU_at 60 (by decide +kernel) (by decide +kernel), rfl, rfl⟩
abbrev mX6_point : MI := (yX6_point, cX6_point, 4, (some .int))
theorem kX6_point : mokV mX6_point 2 := ⟨⟨wU_at 277 (by decide +kernel) (by decide +kernel), wU_at 47 (by decide +kernel) (by decide +kernel), by decide +kernel⟩, wU_at 275 (by decide +kernel) (by decide +kernel), wU_at 276 (by decide +kernel) (by decide +kernel)⟩
abbrev mX6_belt : MI := (yX6_belt, cX6_belt, 5, (some .int))
theorem kX6_belt : mokV mX6_belt 3 := ⟨⟨wU_at 314 (by decide +kernel) (by decide +kernel), wU_at 47 (by decide +kernel) (by decide +kernel), by decide +kernel⟩, wU_at 312 (by decide +kernel) (by decide +kernel), wU_at 313 (by decide +kernel) (by decide +kernel)⟩
abbrev mX6_as : MI := (yX6_as, cX6_as, 3, (some .int))
theorem kX6_as : mokV mX6_as 2 := ⟨⟨wU_at 331 (by decide +kernel) (by decide +kernel), wU_at 47 (by decide +kernel) (by decide +kernel), by decide +kernel⟩, wU_at 329 (by decide +kernel) (by decide +kernel), wU_at 330 (by decide +kernel) (by decide +kernel)⟩
abbrev mX6_turns : MI := (yX6_turns, cX6_turns, 5, (some .int))
theorem kX6_turns : mokV mX6_turns 2 := ⟨⟨wU_at 335 (by decide +kernel) (by decide +kernel), wU_at 47 (by decide +kernel) (by decide +kernel), by decide +kernel⟩, wU_at 333 (by decide +kernel) (by decide +kernel), wU_at 334 (by decide +kernel) (by decide +kernel)⟩
abbrev mX6_flight : MI := (yX6_flight, cX6_flight, 5, (some .int))
theorem kX6_flight : mokV mX6_flight 3 := ⟨⟨wU_at 355 (by decide +kernel) (by decide +kernel), wU_at 47 (by decide +kernel) (by decide +kernel), by decide +kernel⟩, wU_at 353 (by decide +kernel) (by decide +kernel), wU_at 354 (by decide +kernel) (by decide +kernel)⟩
abbrev mX6_fall : MI := (yX6_fall, cX6_fall, 3, (some .int))
theorem kX6_fall : mokV mX6_fall 2 := ⟨⟨wU_at 363 (by decide +kernel) (by decide +kernel), wU_at 47 (by decide +kernel) (by decide +kernel), by decide +kernel⟩, wU_at 361 (by decide +kernel) (by decide +kernel), wU_at 362 (by decide +kernel) (by decide +kernel)⟩
abbrev mX6_bag : MI := (yX6_bag, cX6_bag, 5, (some .int))
theorem kX6_bag : mokV mX6_bag 3 := ⟨⟨wU_at 367 (by decide +kernel) (by decide +kernel), wU_at 47 (by decide +kernel) (by decide +kernel), by decide +kernel⟩, wU_at 365 (by decide +kernel) (by decide +kernel), wU_at 366 (by decide +kernel) (by decide +kernel)⟩
abbrev mX6_take : MI := (yX6_take, cX6_take, 2, (some .int))
theorem kX6_take : mokV mX6_take 1 := ⟨⟨wU_at 396 (by decide +kernel) (by decide +kernel), wU_at 47 (by decide +kernel) (by decide +kernel), by decide +kernel⟩, wU_at 394 (by decide +kernel) (by decide +kernel), wU_at 395 (by decide +kernel) (by decide +kernel)⟩
abbrev mX6_give : MI := (yX6_give, cX6_give, 4, (some .int))
theorem kX6_give : mokV mX6_give 3 := ⟨⟨wU_at 422 (by decide +kernel) (by decide +kernel), wU_at 47 (by decide +kernel) (by decide +kernel), by decide +kernel⟩, wU_at 420 (by decide +kernel) (by decide +kernel), wU_at 421 (by decide +kernel) (by decide +kernel)⟩
abbrev mX6_where : MI := (yX6_where, cX6_where, 2, (some .int))
theorem kX6_where : mokV mX6_where 1 := ⟨⟨wU_at 426 (by decide +kernel) (by decide +kernel), wU_at 47 (by decide +kernel) (by decide +kernel), by decide +kernel⟩, wU_at 424 (by decide +kernel) (by decide +kernel), wU_at 425 (by decide +kernel) (by decide +kernel)⟩
abbrev mX6_place : MI := (yX6_place, cX6_place, 2, (some .int))
theorem kX6_place : mokV mX6_place 1 := ⟨⟨wU_at 430 (by decide +kernel) (by decide +kernel), wU_at 47 (by decide +kernel) (by decide +kernel), by decide +kernel⟩, wU_at 428 (by decide +kernel) (by decide +kernel), wU_at 429 (by decide +kernel) (by decide +kernel)⟩
abbrev mX6_detail : MI := (yX6_detail, cX6_detail, 3, (some .int))
theorem kX6_detail : mokV mX6_detail 1 := ⟨⟨wU_at 434 (by decide +kernel) (by decide +kernel), wU_at 47 (by decide +kernel) (by decide +kernel), by decide +kernel⟩, wU_at 432 (by decide +kernel) (by decide +kernel), wU_at 433 (by decide +kernel) (by decide +kernel)⟩
abbrev mX6_steps : MI := (yX6_steps, cX6_steps, 2, (some .int))
theorem kX6_steps : mokV mX6_steps 1 := ⟨⟨wU_at 440 (by decide +kernel) (by decide +kernel), wU_at 47 (by decide +kernel) (by decide +kernel), by decide +kernel⟩, wU_at 438 (by decide +kernel) (by decide +kernel), wU_at 439 (by decide +kernel) (by decide +kernel)⟩
abbrev mX6_step : MI := (yX6_step, cX6_step, 4, (some .int))
theorem kX6_step : mokV mX6_step 3 := ⟨⟨wU_at 444 (by decide +kernel) (by decide +kernel), wU_at 47 (by decide +kernel) (by decide +kernel), by decide +kernel⟩, wU_at 442 (by decide +kernel) (by decide +kernel), wU_at 443 (by decide +kernel) (by decide +kernel)⟩
abbrev mX6_tick : MI := (yX6_tick, cX6_tick, 3, (some .int))
theorem kX6_tick : mokV mX6_tick 1 := ⟨⟨wU_at 461 (by decide +kernel) (by decide +kernel), wU_at 47 (by decide +kernel) (by decide +kernel), by decide +kernel⟩, wU_at 459 (by decide +kernel) (by decide +kernel), wU_at 460 (by decide +kernel) (by decide +kernel)⟩
abbrev mX6_cell : MI := (yX6_cell, cX6_cell, 4, (some .int))
theorem kX6_cell : mokV mX6_cell 2 := ⟨⟨wU_at 566 (by decide +kernel) (by decide +kernel), wU_at 47 (by decide +kernel) (by decide +kernel), by decide +kernel⟩, wU_at 564 (by decide +kernel) (by decide +kernel), wU_at 565 (by decide +kernel) (by decide +kernel)⟩
abbrev mX6_holds : MI := (yX6_holds, cX6_holds, 4, (some .int))
theorem kX6_holds : mokV mX6_holds 1 := ⟨⟨wU_at 570 (by decide +kernel) (by decide +kernel), wU_at 47 (by decide +kernel) (by decide +kernel), by decide +kernel⟩, wU_at 568 (by decide +kernel) (by decide +kernel), wU_at 569 (by decide +kernel) (by decide +kernel)⟩
abbrev mX6_list : MI := (yX6_list, cX6_list, 4, (some .int))
theorem kX6_list : mokV mX6_list 2 := ⟨⟨wU_at 574 (by decide +kernel) (by decide +kernel), wU_at 47 (by decide +kernel) (by decide +kernel), by decide +kernel⟩, wU_at 572 (by decide +kernel) (by decide +kernel), wU_at 573 (by decide +kernel) (by decide +kernel)⟩
abbrev mX6_far : MI := (yX6_far, cX6_far, 4, (some .int))
theorem kX6_far : mokV mX6_far 2 := ⟨⟨wU_at 578 (by decide +kernel) (by decide +kernel), wU_at 47 (by decide +kernel) (by decide +kernel), by decide +kernel⟩, wU_at 576 (by decide +kernel) (by decide +kernel), wU_at 577 (by decide +kernel) (by decide +kernel)⟩
abbrev mX6_route : MI := (yX6_route, cX6_route, 4, (some .int))
theorem kX6_route : mokV mX6_route 2 := ⟨⟨wU_at 582 (by decide +kernel) (by decide +kernel), wU_at 47 (by decide +kernel) (by decide +kernel), by decide +kernel⟩, wU_at 580 (by decide +kernel) (by decide +kernel), wU_at 581 (by decide +kernel) (by decide +kernel)⟩
abbrev mX6_flown : MI := (yX6_flown, cX6_flown, 4, (some .int))
theorem kX6_flown : mokV mX6_flown 2 := ⟨⟨wU_at 586 (by decide +kernel) (by decide +kernel), wU_at 47 (by decide +kernel) (by decide +kernel), by decide +kernel⟩, wU_at 584 (by decide +kernel) (by decide +kernel), wU_at 585 (by decide +kernel) (by decide +kernel)⟩
abbrev mX6_count : MI := (yX6_count, cX6_count, 2, (some .int))
theorem kX6_count : mokV mX6_count 1 := ⟨⟨wU_at 598 (by decide +kernel) (by decide +kernel), wU_at 47 (by decide +kernel) (by decide +kernel), by decide +kernel⟩, wU_at 596 (by decide +kernel) (by decide +kernel), wU_at 597 (by decide +kernel) (by decide +kernel)⟩
abbrev mX6_keep : MI := (yX6_keep, cX6_keep, 1, (some .int))
theorem kX6_keep : mokV mX6_keep 0 := ⟨⟨wU_at 610 (by decide +kernel) (by decide +kernel), wU_at 47 (by decide +kernel) (by decide +kernel), by decide +kernel⟩, wU_at 608 (by decide +kernel) (by decide +kernel), wU_at 609 (by decide +kernel) (by decide +kernel)⟩
abbrev mX6_back : MI := (yX6_back, cX6_back, 1, (some .int))
theorem kX6_back : mokV mX6_back 0 := ⟨⟨wU_at 640 (by decide +kernel) (by decide +kernel), wU_at 47 (by decide +kernel) (by decide +kernel), by decide +kernel⟩, wU_at 638 (by decide +kernel) (by decide +kernel), wU_at 639 (by decide +kernel) (by decide +kernel)⟩
abbrev mX6_goOneTick : MI := (yX6_goOneTick, cX6_goOneTick, 2, none)
theorem kX6_goOneTick : mokV mX6_goOneTick 0 := ⟨⟨wU_at 465 (by decide +kernel) (by decide +kernel), wU_at 47 (by decide +kernel) (by decide +kernel), by decide +kernel⟩, wU_at 464 (by decide +kernel) (by decide +kernel), wU_at 3 (by decide +kernel) (by decide +kernel)⟩
abbrev mX6_sendFrom : MI := (yX6_sendFrom, cX6_sendFrom, 5, none)
theorem kX6_sendFrom : mokV mX6_sendFrom 1 := ⟨⟨wU_at 469 (by decide +kernel) (by decide +kernel), wU_at 47 (by decide +kernel) (by decide +kernel), by decide +kernel⟩, wU_at 468 (by decide +kernel) (by decide +kernel), wU_at 4 (by decide +kernel) (by decide +kernel)⟩
abbrev mX6_nextToGo : MI := (yX6_nextToGo, cX6_nextToGo, 3, (some .int))
theorem kX6_nextToGo : mokV mX6_nextToGo 1 := ⟨⟨wU_at 473 (by decide +kernel) (by decide +kernel), wU_at 47 (by decide +kernel) (by decide +kernel), by decide +kernel⟩, wU_at 472 (by decide +kernel) (by decide +kernel), wU_at 5 (by decide +kernel) (by decide +kernel)⟩
abbrev mX6_firstOpen : MI := (yX6_firstOpen, cX6_firstOpen, 4, (some .int))
theorem kX6_firstOpen : mokV mX6_firstOpen 1 := ⟨⟨wU_at 477 (by decide +kernel) (by decide +kernel), wU_at 47 (by decide +kernel) (by decide +kernel), by decide +kernel⟩, wU_at 476 (by decide +kernel) (by decide +kernel), wU_at 6 (by decide +kernel) (by decide +kernel)⟩
abbrev mX6_isOpen : MI := (yX6_isOpen, cX6_isOpen, 2, (some .boolean))
theorem kX6_isOpen : mokV mX6_isOpen 1 := ⟨⟨wU_at 481 (by decide +kernel) (by decide +kernel), wU_at 47 (by decide +kernel) (by decide +kernel), by decide +kernel⟩, wU_at 480 (by decide +kernel) (by decide +kernel), wU_at 7 (by decide +kernel) (by decide +kernel)⟩
abbrev mX6_outletFor : MI := (yX6_outletFor, cX6_outletFor, 3, (some .int))
theorem kX6_outletFor : mokV mX6_outletFor 2 := ⟨⟨wU_at 489 (by decide +kernel) (by decide +kernel), wU_at 47 (by decide +kernel) (by decide +kernel), by decide +kernel⟩, wU_at 488 (by decide +kernel) (by decide +kernel), wU_at 8 (by decide +kernel) (by decide +kernel)⟩
abbrev mX6_receiveAt : MI := (yX6_receiveAt, cX6_receiveAt, 3, none)
theorem kX6_receiveAt : mokV mX6_receiveAt 1 := ⟨⟨wU_at 523 (by decide +kernel) (by decide +kernel), wU_at 47 (by decide +kernel) (by decide +kernel), by decide +kernel⟩, wU_at 522 (by decide +kernel) (by decide +kernel), wU_at 9 (by decide +kernel) (by decide +kernel)⟩
abbrev mX6_receiveByNumbers : MI := (yX6_receiveByNumbers, cX6_receiveByNumbers, 4, none)
theorem kX6_receiveByNumbers : mokV mX6_receiveByNumbers 2 := ⟨⟨wU_at 562 (by decide +kernel) (by decide +kernel), wU_at 47 (by decide +kernel) (by decide +kernel), by decide +kernel⟩, wU_at 561 (by decide +kernel) (by decide +kernel), wU_at 14 (by decide +kernel) (by decide +kernel)⟩
abbrev mX6_receiveByTurns : MI := (yX6_receiveByTurns, cX6_receiveByTurns, 5, none)
theorem kX6_receiveByTurns : mokV mX6_receiveByTurns 1 := ⟨⟨wU_at 531 (by decide +kernel) (by decide +kernel), wU_at 47 (by decide +kernel) (by decide +kernel), by decide +kernel⟩, wU_at 530 (by decide +kernel) (by decide +kernel), wU_at 10 (by decide +kernel) (by decide +kernel)⟩
abbrev mX6_passTurn : MI := (yX6_passTurn, cX6_passTurn, 3, none)
theorem kX6_passTurn : mokV mX6_passTurn 1 := ⟨⟨wU_at 539 (by decide +kernel) (by decide +kernel), wU_at 47 (by decide +kernel) (by decide +kernel), by decide +kernel⟩, wU_at 538 (by decide +kernel) (by decide +kernel), wU_at 11 (by decide +kernel) (by decide +kernel)⟩
abbrev mX6_receiveFrom : MI := (yX6_receiveFrom, cX6_receiveFrom, 5, (some .boolean))
theorem kX6_receiveFrom : mokV mX6_receiveFrom 2 := ⟨⟨wU_at 548 (by decide +kernel) (by decide +kernel), wU_at 47 (by decide +kernel) (by decide +kernel), by decide +kernel⟩, wU_at 547 (by decide +kernel) (by decide +kernel), wU_at 12 (by decide +kernel) (by decide +kernel)⟩
abbrev mX6_whereAt : MI := (yX6_whereAt, cX6_whereAt, 4, (some .int))
theorem kX6_whereAt : mokV mX6_whereAt 2 := ⟨⟨wU_at 558 (by decide +kernel) (by decide +kernel), wU_at 47 (by decide +kernel) (by decide +kernel), by decide +kernel⟩, wU_at 557 (by decide +kernel) (by decide +kernel), wU_at 13 (by decide +kernel) (by decide +kernel)⟩
abbrev mX6_finding : MI := (yX6_finding, cX6_finding, 2, (some .int))
theorem kX6_finding : mokV mX6_finding 1 := ⟨⟨wU_at 290 (by decide +kernel) (by decide +kernel), wU_at 47 (by decide +kernel) (by decide +kernel), by decide +kernel⟩, wU_at 289 (by decide +kernel) (by decide +kernel), wU_at 0 (by decide +kernel) (by decide +kernel)⟩
abbrev mX6_within : MI := (yX6_within, cX6_within, 3, (some .boolean))
theorem kX6_within : mokS mX6_within 3 := ⟨⟨wU_at 283 (by decide +kernel) (by decide +kernel), wU_at 47 (by decide +kernel) (by decide +kernel), by decide +kernel⟩, wU_at 282 (by decide +kernel) (by decide +kernel)⟩
abbrev mX6_isKind : MI := (yX6_isKind, cX6_isKind, 1, (some .boolean))
theorem kX6_isKind : mokS mX6_isKind 1 := ⟨⟨wU_at 280 (by decide +kernel) (by decide +kernel), wU_at 47 (by decide +kernel) (by decide +kernel), by decide +kernel⟩, wU_at 279 (by decide +kernel) (by decide +kernel)⟩
abbrev mX6_suits : MI := (yX6_suits, cX6_suits, 2, (some .boolean))
theorem kX6_suits : mokS mX6_suits 2 := ⟨⟨wU_at 286 (by decide +kernel) (by decide +kernel), wU_at 47 (by decide +kernel) (by decide +kernel), by decide +kernel⟩, wU_at 285 (by decide +kernel) (by decide +kernel)⟩
abbrev mX7_init : MI := (yX7_init, cX7_init, 1, none)
theorem kX7_init : mokI mX7_init 0 := ⟨⟨wU_at 645 (by decide +kernel) (by decide +kernel), wU_at 54 (by decide +kernel) (by decide +kernel), by decide +kernel⟩, wU_at 644 (by decide +kernel) (by decide +kernel), rfl, rfl⟩
abbrev mX7_finding : MI := (yX7_finding, cX7_finding, 2, (some .int))
theorem kX7_finding : mokV mX7_finding 1 := ⟨⟨wU_at 677 (by decide +kernel) (by decide +kernel), wU_at 54 (by decide +kernel) (by decide +kernel), by decide +kernel⟩, wU_at 676 (by decide +kernel) (by decide +kernel), wU_at 15 (by decide +kernel) (by decide +kernel)⟩
abbrev mX7_in : MI := (yX7_in, cX7_in, 3, (some .boolean))
theorem kX7_in : mokS mX7_in 3 := ⟨⟨wU_at 673 (by decide +kernel) (by decide +kernel), wU_at 54 (by decide +kernel) (by decide +kernel), by decide +kernel⟩, wU_at 672 (by decide +kernel) (by decide +kernel)⟩
abbrev mX7_isPoint : MI := (yX7_isPoint, cX7_isPoint, 2, (some .boolean))
theorem kX7_isPoint : mokV mX7_isPoint 1 := ⟨⟨wU_at 685 (by decide +kernel) (by decide +kernel), wU_at 54 (by decide +kernel) (by decide +kernel), by decide +kernel⟩, wU_at 684 (by decide +kernel) (by decide +kernel), wU_at 16 (by decide +kernel) (by decide +kernel)⟩
abbrev mX7_isBelt : MI := (yX7_isBelt, cX7_isBelt, 2, (some .boolean))
theorem kX7_isBelt : mokV mX7_isBelt 1 := ⟨⟨wU_at 701 (by decide +kernel) (by decide +kernel), wU_at 54 (by decide +kernel) (by decide +kernel), by decide +kernel⟩, wU_at 700 (by decide +kernel) (by decide +kernel), wU_at 18 (by decide +kernel) (by decide +kernel)⟩
abbrev mX7_isFlight : MI := (yX7_isFlight, cX7_isFlight, 2, (some .boolean))
theorem kX7_isFlight : mokV mX7_isFlight 1 := ⟨⟨wU_at 717 (by decide +kernel) (by decide +kernel), wU_at 54 (by decide +kernel) (by decide +kernel), by decide +kernel⟩, wU_at 716 (by decide +kernel) (by decide +kernel), wU_at 19 (by decide +kernel) (by decide +kernel)⟩
abbrev mX7_isBag : MI := (yX7_isBag, cX7_isBag, 2, (some .boolean))
theorem kX7_isBag : mokV mX7_isBag 1 := ⟨⟨wU_at 733 (by decide +kernel) (by decide +kernel), wU_at 54 (by decide +kernel) (by decide +kernel), by decide +kernel⟩, wU_at 732 (by decide +kernel) (by decide +kernel), wU_at 22 (by decide +kernel) (by decide +kernel)⟩
abbrev mX7_kindOf : MI := (yX7_kindOf, cX7_kindOf, 2, (some .int))
theorem kX7_kindOf : mokV mX7_kindOf 1 := ⟨⟨wU_at 689 (by decide +kernel) (by decide +kernel), wU_at 54 (by decide +kernel) (by decide +kernel), by decide +kernel⟩, wU_at 688 (by decide +kernel) (by decide +kernel), wU_at 17 (by decide +kernel) (by decide +kernel)⟩
abbrev mX7_point : MI := (yX7_point, cX7_point, 4, (some .int))
theorem kX7_point : mokV mX7_point 2 := ⟨⟨wU_at 670 (by decide +kernel) (by decide +kernel), wU_at 54 (by decide +kernel) (by decide +kernel), by decide +kernel⟩, wU_at 668 (by decide +kernel) (by decide +kernel), wU_at 669 (by decide +kernel) (by decide +kernel)⟩
abbrev mX7_belt : MI := (yX7_belt, cX7_belt, 6, (some .int))
theorem kX7_belt : mokV mX7_belt 3 := ⟨⟨wU_at 681 (by decide +kernel) (by decide +kernel), wU_at 54 (by decide +kernel) (by decide +kernel), by decide +kernel⟩, wU_at 679 (by decide +kernel) (by decide +kernel), wU_at 680 (by decide +kernel) (by decide +kernel)⟩
abbrev mX7_as : MI := (yX7_as, cX7_as, 3, (some .int))
theorem kX7_as : mokV mX7_as 2 := ⟨⟨wU_at 693 (by decide +kernel) (by decide +kernel), wU_at 54 (by decide +kernel) (by decide +kernel), by decide +kernel⟩, wU_at 691 (by decide +kernel) (by decide +kernel), wU_at 692 (by decide +kernel) (by decide +kernel)⟩
abbrev mX7_turns : MI := (yX7_turns, cX7_turns, 5, (some .int))
theorem kX7_turns : mokV mX7_turns 2 := ⟨⟨wU_at 697 (by decide +kernel) (by decide +kernel), wU_at 54 (by decide +kernel) (by decide +kernel), by decide +kernel⟩, wU_at 695 (by decide +kernel) (by decide +kernel), wU_at 696 (by decide +kernel) (by decide +kernel)⟩
abbrev mX7_flight : MI := (yX7_flight, cX7_flight, 5, (some .int))
theorem kX7_flight : mokV mX7_flight 3 := ⟨⟨wU_at 705 (by decide +kernel) (by decide +kernel), wU_at 54 (by decide +kernel) (by decide +kernel), by decide +kernel⟩, wU_at 703 (by decide +kernel) (by decide +kernel), wU_at 704 (by decide +kernel) (by decide +kernel)⟩
abbrev mX7_fall : MI := (yX7_fall, cX7_fall, 4, (some .int))
theorem kX7_fall : mokV mX7_fall 2 := ⟨⟨wU_at 709 (by decide +kernel) (by decide +kernel), wU_at 54 (by decide +kernel) (by decide +kernel), by decide +kernel⟩, wU_at 707 (by decide +kernel) (by decide +kernel), wU_at 708 (by decide +kernel) (by decide +kernel)⟩
abbrev mX7_lies : MI := (yX7_lies, cX7_lies, 5, none)
theorem kX7_lies : mokV mX7_lies 4 := ⟨⟨wU_at 725 (by decide +kernel) (by decide +kernel), wU_at 54 (by decide +kernel) (by decide +kernel), by decide +kernel⟩, wU_at 724 (by decide +kernel) (by decide +kernel), wU_at 21 (by decide +kernel) (by decide +kernel)⟩
abbrev mX7_waits : MI := (yX7_waits, cX7_waits, 3, none)
theorem kX7_waits : mokV mX7_waits 2 := ⟨⟨wU_at 721 (by decide +kernel) (by decide +kernel), wU_at 54 (by decide +kernel) (by decide +kernel), by decide +kernel⟩, wU_at 720 (by decide +kernel) (by decide +kernel), wU_at 20 (by decide +kernel) (by decide +kernel)⟩
abbrev mX7_waitingAt : MI := (yX7_waitingAt, cX7_waitingAt, 4, (some .int))
theorem kX7_waitingAt : mokV mX7_waitingAt 1 := ⟨⟨wU_at 741 (by decide +kernel) (by decide +kernel), wU_at 54 (by decide +kernel) (by decide +kernel), by decide +kernel⟩, wU_at 740 (by decide +kernel) (by decide +kernel), wU_at 23 (by decide +kernel) (by decide +kernel)⟩
abbrev mX7_bag : MI := (yX7_bag, cX7_bag, 5, (some .int))
theorem kX7_bag : mokV mX7_bag 3 := ⟨⟨wU_at 713 (by decide +kernel) (by decide +kernel), wU_at 54 (by decide +kernel) (by decide +kernel), by decide +kernel⟩, wU_at 711 (by decide +kernel) (by decide +kernel), wU_at 712 (by decide +kernel) (by decide +kernel)⟩
abbrev mX7_take : MI := (yX7_take, cX7_take, 4, (some .int))
theorem kX7_take : mokV mX7_take 1 := ⟨⟨wU_at 729 (by decide +kernel) (by decide +kernel), wU_at 54 (by decide +kernel) (by decide +kernel), by decide +kernel⟩, wU_at 727 (by decide +kernel) (by decide +kernel), wU_at 728 (by decide +kernel) (by decide +kernel)⟩
abbrev mX7_give : MI := (yX7_give, cX7_give, 4, (some .int))
theorem kX7_give : mokV mX7_give 3 := ⟨⟨wU_at 737 (by decide +kernel) (by decide +kernel), wU_at 54 (by decide +kernel) (by decide +kernel), by decide +kernel⟩, wU_at 735 (by decide +kernel) (by decide +kernel), wU_at 736 (by decide +kernel) (by decide +kernel)⟩
abbrev mX7_where : MI := (yX7_where, cX7_where, 2, (some .int))
theorem kX7_where : mokV mX7_where 1 := ⟨⟨wU_at 745 (by decide +kernel) (by decide +kernel), wU_at 54 (by decide +kernel) (by decide +kernel), by decide +kernel⟩, wU_at 743 (by decide +kernel) (by decide +kernel), wU_at 744 (by decide +kernel) (by decide +kernel)⟩
abbrev mX7_place : MI := (yX7_place, cX7_place, 2, (some .int))
theorem kX7_place : mokV mX7_place 1 := ⟨⟨wU_at 749 (by decide +kernel) (by decide +kernel), wU_at 54 (by decide +kernel) (by decide +kernel), by decide +kernel⟩, wU_at 747 (by decide +kernel) (by decide +kernel), wU_at 748 (by decide +kernel) (by decide +kernel)⟩
abbrev mX7_detail : MI := (yX7_detail, cX7_detail, 5, (some .int))
theorem kX7_detail : mokV mX7_detail 1 := ⟨⟨wU_at 753 (by decide +kernel) (by decide +kernel), wU_at 54 (by decide +kernel) (by decide +kernel), by decide +kernel⟩, wU_at 751 (by decide +kernel) (by decide +kernel), wU_at 752 (by decide +kernel) (by decide +kernel)⟩
abbrev mX7_steps : MI := (yX7_steps, cX7_steps, 2, (some .int))
theorem kX7_steps : mokV mX7_steps 1 := ⟨⟨wU_at 757 (by decide +kernel) (by decide +kernel), wU_at 54 (by decide +kernel) (by decide +kernel), by decide +kernel⟩, wU_at 755 (by decide +kernel) (by decide +kernel), wU_at 756 (by decide +kernel) (by decide +kernel)⟩
abbrev mX7_step : MI := (yX7_step, cX7_step, 4, (some .int))
theorem kX7_step : mokV mX7_step 3 := ⟨⟨wU_at 761 (by decide +kernel) (by decide +kernel), wU_at 54 (by decide +kernel) (by decide +kernel), by decide +kernel⟩, wU_at 759 (by decide +kernel) (by decide +kernel), wU_at 760 (by decide +kernel) (by decide +kernel)⟩
abbrev mX7_goes : MI := (yX7_goes, cX7_goes, 4, none)
theorem kX7_goes : mokV mX7_goes 2 := ⟨⟨wU_at 810 (by decide +kernel) (by decide +kernel), wU_at 54 (by decide +kernel) (by decide +kernel), by decide +kernel⟩, wU_at 809 (by decide +kernel) (by decide +kernel), wU_at 32 (by decide +kernel) (by decide +kernel)⟩
abbrev mX7_findFar : MI := (yX7_findFar, cX7_findFar, 8, none)
theorem kX7_findFar : mokV mX7_findFar 1 := ⟨⟨wU_at 770 (by decide +kernel) (by decide +kernel), wU_at 54 (by decide +kernel) (by decide +kernel), by decide +kernel⟩, wU_at 769 (by decide +kernel) (by decide +kernel), wU_at 24 (by decide +kernel) (by decide +kernel)⟩
abbrev mX7_far : MI := (yX7_far, cX7_far, 3, (some .int))
theorem kX7_far : mokV mX7_far 2 := ⟨⟨wU_at 766 (by decide +kernel) (by decide +kernel), wU_at 54 (by decide +kernel) (by decide +kernel), by decide +kernel⟩, wU_at 764 (by decide +kernel) (by decide +kernel), wU_at 765 (by decide +kernel) (by decide +kernel)⟩
abbrev mX7_outletFor : MI := (yX7_outletFor, cX7_outletFor, 8, (some .int))
theorem kX7_outletFor : mokV mX7_outletFor 2 := ⟨⟨wU_at 778 (by decide +kernel) (by decide +kernel), wU_at 54 (by decide +kernel) (by decide +kernel), by decide +kernel⟩, wU_at 777 (by decide +kernel) (by decide +kernel), wU_at 25 (by decide +kernel) (by decide +kernel)⟩
abbrev mX7_route : MI := (yX7_route, cX7_route, 4, (some .int))
theorem kX7_route : mokV mX7_route 2 := ⟨⟨wU_at 774 (by decide +kernel) (by decide +kernel), wU_at 54 (by decide +kernel) (by decide +kernel), by decide +kernel⟩, wU_at 772 (by decide +kernel) (by decide +kernel), wU_at 773 (by decide +kernel) (by decide +kernel)⟩
abbrev mX7_outlet : MI := (yX7_outlet, cX7_outlet, 3, (some .int))
theorem kX7_outlet : mokV mX7_outlet 1 := ⟨⟨wU_at 798 (by decide +kernel) (by decide +kernel), wU_at 54 (by decide +kernel) (by decide +kernel), by decide +kernel⟩, wU_at 797 (by decide +kernel) (by decide +kernel), wU_at 29 (by decide +kernel) (by decide +kernel)⟩
abbrev mX7_outletAt : MI := (yX7_outletAt, cX7_outletAt, 5, (some .int))
theorem kX7_outletAt : mokV mX7_outletAt 2 := ⟨⟨wU_at 822 (by decide +kernel) (by decide +kernel), wU_at 54 (by decide +kernel) (by decide +kernel), by decide +kernel⟩, wU_at 821 (by decide +kernel) (by decide +kernel), wU_at 35 (by decide +kernel) (by decide +kernel)⟩
abbrev mX7_isFree : MI := (yX7_isFree, cX7_isFree, 2, (some .boolean))
theorem kX7_isFree : mokV mX7_isFree 1 := ⟨⟨wU_at 806 (by decide +kernel) (by decide +kernel), wU_at 54 (by decide +kernel) (by decide +kernel), by decide +kernel⟩, wU_at 805 (by decide +kernel) (by decide +kernel), wU_at 31 (by decide +kernel) (by decide +kernel)⟩
abbrev mX7_put : MI := (yX7_put, cX7_put, 3, (some .boolean))
theorem kX7_put : mokV mX7_put 2 := ⟨⟨wU_at 802 (by decide +kernel) (by decide +kernel), wU_at 54 (by decide +kernel) (by decide +kernel), by decide +kernel⟩, wU_at 801 (by decide +kernel) (by decide +kernel), wU_at 30 (by decide +kernel) (by decide +kernel)⟩
abbrev mX7_firstWaiting : MI := (yX7_firstWaiting, cX7_firstWaiting, 5, (some .int))
theorem kX7_firstWaiting : mokV mX7_firstWaiting 1 := ⟨⟨wU_at 794 (by decide +kernel) (by decide +kernel), wU_at 54 (by decide +kernel) (by decide +kernel), by decide +kernel⟩, wU_at 793 (by decide +kernel) (by decide +kernel), wU_at 28 (by decide +kernel) (by decide +kernel)⟩
abbrev mX7_firstOpened : MI := (yX7_firstOpened, cX7_firstOpened, 5, (some .int))
theorem kX7_firstOpened : mokV mX7_firstOpened 1 := ⟨⟨wU_at 814 (by decide +kernel) (by decide +kernel), wU_at 54 (by decide +kernel) (by decide +kernel), by decide +kernel⟩, wU_at 813 (by decide +kernel) (by decide +kernel), wU_at 33 (by decide +kernel) (by decide +kernel)⟩
abbrev mX7_screened : MI := (yX7_screened, cX7_screened, 4, (some .int))
theorem kX7_screened : mokV mX7_screened 2 := ⟨⟨wU_at 818 (by decide +kernel) (by decide +kernel), wU_at 54 (by decide +kernel) (by decide +kernel), by decide +kernel⟩, wU_at 817 (by decide +kernel) (by decide +kernel), wU_at 34 (by decide +kernel) (by decide +kernel)⟩
abbrev mX7_giveAt : MI := (yX7_giveAt, cX7_giveAt, 5, none)
theorem kX7_giveAt : mokV mX7_giveAt 1 := ⟨⟨wU_at 790 (by decide +kernel) (by decide +kernel), wU_at 54 (by decide +kernel) (by decide +kernel), by decide +kernel⟩, wU_at 789 (by decide +kernel) (by decide +kernel), wU_at 27 (by decide +kernel) (by decide +kernel)⟩
abbrev mX7_move : MI := (yX7_move, cX7_move, 5, none)
theorem kX7_move : mokV mX7_move 1 := ⟨⟨wU_at 826 (by decide +kernel) (by decide +kernel), wU_at 54 (by decide +kernel) (by decide +kernel), by decide +kernel⟩, wU_at 825 (by decide +kernel) (by decide +kernel), wU_at 36 (by decide +kernel) (by decide +kernel)⟩
abbrev mX7_ready : MI := (yX7_ready, cX7_ready, 3, (some .int))
theorem kX7_ready : mokV mX7_ready 1 := ⟨⟨wU_at 834 (by decide +kernel) (by decide +kernel), wU_at 54 (by decide +kernel) (by decide +kernel), by decide +kernel⟩, wU_at 833 (by decide +kernel) (by decide +kernel), wU_at 38 (by decide +kernel) (by decide +kernel)⟩
abbrev mX7_takeFrom : MI := (yX7_takeFrom, cX7_takeFrom, 5, none)
theorem kX7_takeFrom : mokV mX7_takeFrom 3 := ⟨⟨wU_at 838 (by decide +kernel) (by decide +kernel), wU_at 54 (by decide +kernel) (by decide +kernel), by decide +kernel⟩, wU_at 837 (by decide +kernel) (by decide +kernel), wU_at 39 (by decide +kernel) (by decide +kernel)⟩
abbrev mX7_readyInlet : MI := (yX7_readyInlet, cX7_readyInlet, 3, (some .int))
theorem kX7_readyInlet : mokV mX7_readyInlet 1 := ⟨⟨wU_at 842 (by decide +kernel) (by decide +kernel), wU_at 54 (by decide +kernel) (by decide +kernel), by decide +kernel⟩, wU_at 841 (by decide +kernel) (by decide +kernel), wU_at 40 (by decide +kernel) (by decide +kernel)⟩
abbrev mX7_nextInlet : MI := (yX7_nextInlet, cX7_nextInlet, 5, (some .int))
theorem kX7_nextInlet : mokV mX7_nextInlet 2 := ⟨⟨wU_at 858 (by decide +kernel) (by decide +kernel), wU_at 54 (by decide +kernel) (by decide +kernel), by decide +kernel⟩, wU_at 857 (by decide +kernel) (by decide +kernel), wU_at 44 (by decide +kernel) (by decide +kernel)⟩
abbrev mX7_inlets : MI := (yX7_inlets, cX7_inlets, 4, (some .int))
theorem kX7_inlets : mokV mX7_inlets 1 := ⟨⟨wU_at 854 (by decide +kernel) (by decide +kernel), wU_at 54 (by decide +kernel) (by decide +kernel), by decide +kernel⟩, wU_at 853 (by decide +kernel) (by decide +kernel), wU_at 43 (by decide +kernel) (by decide +kernel)⟩
abbrev mX7_merge : MI := (yX7_merge, cX7_merge, 5, none)
theorem kX7_merge : mokV mX7_merge 1 := ⟨⟨wU_at 850 (by decide +kernel) (by decide +kernel), wU_at 54 (by decide +kernel) (by decide +kernel), by decide +kernel⟩, wU_at 849 (by decide +kernel) (by decide +kernel), wU_at 42 (by decide +kernel) (by decide +kernel)⟩
abbrev mX7_storedAt : MI := (yX7_storedAt, cX7_storedAt, 4, (some .int))
theorem kX7_storedAt : mokV mX7_storedAt 1 := ⟨⟨wU_at 846 (by decide +kernel) (by decide +kernel), wU_at 54 (by decide +kernel) (by decide +kernel), by decide +kernel⟩, wU_at 845 (by decide +kernel) (by decide +kernel), wU_at 41 (by decide +kernel) (by decide +kernel)⟩
abbrev mX7_takeAt : MI := (yX7_takeAt, cX7_takeAt, 6, none)
theorem kX7_takeAt : mokV mX7_takeAt 1 := ⟨⟨wU_at 830 (by decide +kernel) (by decide +kernel), wU_at 54 (by decide +kernel) (by decide +kernel), by decide +kernel⟩, wU_at 829 (by decide +kernel) (by decide +kernel), wU_at 37 (by decide +kernel) (by decide +kernel)⟩
abbrev mX7_tickOnce : MI := (yX7_tickOnce, cX7_tickOnce, 2, none)
theorem kX7_tickOnce : mokV mX7_tickOnce 0 := ⟨⟨wU_at 786 (by decide +kernel) (by decide +kernel), wU_at 54 (by decide +kernel) (by decide +kernel), by decide +kernel⟩, wU_at 785 (by decide +kernel) (by decide +kernel), wU_at 26 (by decide +kernel) (by decide +kernel)⟩
abbrev mX7_tick : MI := (yX7_tick, cX7_tick, 3, (some .int))
theorem kX7_tick : mokV mX7_tick 1 := ⟨⟨wU_at 782 (by decide +kernel) (by decide +kernel), wU_at 54 (by decide +kernel) (by decide +kernel), by decide +kernel⟩, wU_at 780 (by decide +kernel) (by decide +kernel), wU_at 781 (by decide +kernel) (by decide +kernel)⟩
abbrev mX7_cell : MI := (yX7_cell, cX7_cell, 4, (some .int))
theorem kX7_cell : mokV mX7_cell 2 := ⟨⟨wU_at 862 (by decide +kernel) (by decide +kernel), wU_at 54 (by decide +kernel) (by decide +kernel), by decide +kernel⟩, wU_at 860 (by decide +kernel) (by decide +kernel), wU_at 861 (by decide +kernel) (by decide +kernel)⟩
abbrev mX7_holds : MI := (yX7_holds, cX7_holds, 2, (some .int))
theorem kX7_holds : mokV mX7_holds 1 := ⟨⟨wU_at 866 (by decide +kernel) (by decide +kernel), wU_at 54 (by decide +kernel) (by decide +kernel), by decide +kernel⟩, wU_at 864 (by decide +kernel) (by decide +kernel), wU_at 865 (by decide +kernel) (by decide +kernel)⟩
abbrev mX7_list : MI := (yX7_list, cX7_list, 6, (some .int))
theorem kX7_list : mokV mX7_list 2 := ⟨⟨wU_at 870 (by decide +kernel) (by decide +kernel), wU_at 54 (by decide +kernel) (by decide +kernel), by decide +kernel⟩, wU_at 868 (by decide +kernel) (by decide +kernel), wU_at 869 (by decide +kernel) (by decide +kernel)⟩
abbrev mX7_aheadOf : MI := (yX7_aheadOf, cX7_aheadOf, 8, (some .int))
theorem kX7_aheadOf : mokV mX7_aheadOf 3 := ⟨⟨wU_at 874 (by decide +kernel) (by decide +kernel), wU_at 54 (by decide +kernel) (by decide +kernel), by decide +kernel⟩, wU_at 873 (by decide +kernel) (by decide +kernel), wU_at 45 (by decide +kernel) (by decide +kernel)⟩
abbrev mX7_flown : MI := (yX7_flown, cX7_flown, 6, (some .int))
theorem kX7_flown : mokV mX7_flown 2 := ⟨⟨wU_at 878 (by decide +kernel) (by decide +kernel), wU_at 54 (by decide +kernel) (by decide +kernel), by decide +kernel⟩, wU_at 876 (by decide +kernel) (by decide +kernel), wU_at 877 (by decide +kernel) (by decide +kernel)⟩
abbrev mX7_count : MI := (yX7_count, cX7_count, 4, (some .int))
theorem kX7_count : mokV mX7_count 1 := ⟨⟨wU_at 882 (by decide +kernel) (by decide +kernel), wU_at 54 (by decide +kernel) (by decide +kernel), by decide +kernel⟩, wU_at 880 (by decide +kernel) (by decide +kernel), wU_at 881 (by decide +kernel) (by decide +kernel)⟩
abbrev mX7_keep : MI := (yX7_keep, cX7_keep, 2, (some .int))
theorem kX7_keep : mokV mX7_keep 0 := ⟨⟨wU_at 886 (by decide +kernel) (by decide +kernel), wU_at 54 (by decide +kernel) (by decide +kernel), by decide +kernel⟩, wU_at 884 (by decide +kernel) (by decide +kernel), wU_at 885 (by decide +kernel) (by decide +kernel)⟩
abbrev mX7_back : MI := (yX7_back, cX7_back, 2, (some .int))
theorem kX7_back : mokV mX7_back 0 := ⟨⟨wU_at 890 (by decide +kernel) (by decide +kernel), wU_at 54 (by decide +kernel) (by decide +kernel), by decide +kernel⟩, wU_at 888 (by decide +kernel) (by decide +kernel), wU_at 889 (by decide +kernel) (by decide +kernel)⟩
theorem io_w : Cond.instanceMethod Lib.objectInit ∈ wU := wU_at 63 (by decide +kernel) (by decide +kernel)
theorem co_w : Cond.code Lib.objectInit ⟨#[0xb1]⟩ 1 none ∈ wU := wU_at 64 (by decide +kernel) (by decide +kernel)
end
section
/-! ===== contracts over the typed world ===== -/
abbrev TC (g : GG) (kp : Bool) (d : Nat) (mi : MI) (As : List Value) (σ : SS) (Q : Option Value → SS → Prop) : Prop := CT g d 0 0 mi As (vw g kp σ) (sz kp) (fun r φ n => ∃ τ : SS, φ = vw g kp τ ∧ n = sz kp ∧ Q r τ)
/-- answer and state, exactly -/
abbrev XC (g : GG) (kp : Bool) (d : Nat) (mi : MI) (As : List Value) (σ : SS) (r : Option Value) (τ : SS) : Prop := TC g kp d mi As σ (fun r' τ' => r' = r ∧ τ' = τ)
abbrev ZT (g : GG) (kp : Bool) (Q : Option Value → SS → Prop) : List Frame → Array Value → State → State → Prop := ZM g 0 0 (fun r φ n => ∃ τ : SS, φ = vw g kp τ ∧ n = sz kp ∧ Q r τ)
/-- a value of a condition -/
def bI (p : Prop) (h : Decidable p) : Int := match h with
  | isTrue _ => 1
  | isFalse _ => 0
theorem bI_t {p : Prop} {h : Decidable p} (hp : p) : bI p h = 1 := by
  cases h with
  | isTrue _ => rfl
  | isFalse hn => exact absurd hp hn
theorem bI_f {p : Prop} {h : Decidable p} (hp : ¬ p) : bI p h = 0 := by
  cases h with
  | isTrue ht => exact absurd ht hp
  | isFalse _ => rfl
theorem ok_a {kp : Bool} {a : Nat} {i : Int} (h : 0 ≤ i ∧ i < lenK a) : ok kp a 0 i := ⟨h.1, h.2, Or.inl rfl⟩
theorem ok_m {kp : Bool} (a : Nat) (h : (decide (0 < lenK a)) = true) : ok kp a 0 0 := ⟨Int.le_refl 0, of_decide_eq_true h, Or.inl rfl⟩
theorem ok_0 {kp : Bool} {i : Int} (h : 0 ≤ i ∧ i < 12) : ok kp 0 0 i := ok_a h
theorem ok_1 {kp : Bool} {i : Int} (h : 0 ≤ i ∧ i < 12) : ok kp 1 0 i := ok_a h
theorem ok_2 {kp : Bool} {i : Int} (h : 0 ≤ i ∧ i < 16) : ok kp 2 0 i := ok_a h
theorem ok_3 {kp : Bool} {i : Int} (h : 0 ≤ i ∧ i < 16) : ok kp 3 0 i := ok_a h
theorem ok_4 {kp : Bool} {i : Int} (h : 0 ≤ i ∧ i < 8) : ok kp 4 0 i := ok_a h
theorem ok_5 {kp : Bool} {i : Int} (h : 0 ≤ i ∧ i < 60) : ok kp 5 0 i := ok_a h
theorem ok_6 {kp : Bool} {i : Int} (h : 0 ≤ i ∧ i < 60) : ok kp 6 0 i := ok_a h
theorem ok_8 {kp : Bool} {i : Int} (h : 0 ≤ i ∧ i < 12) : ok kp 8 0 i := ok_a h
/-- all ints of the world are ints -/
abbrev RG (σ : SS) : Prop := ∀ (a : Nat) (t i j : Int), inR (σ a t i j)
theorem RG_up {σ : SS} {a : Nat} {t i j v : Int} (h : RG σ) (hv : inR v) : RG (up σ a t i j v) := by
  intro a' t' i' j'
  unfold up
  split
  · exact hv
  · exact h _ _ _ _
section TCALL
variable {g : GG} {R : Room} {mi : MI} {Z : List Frame → Array Value → State → State → Prop} {E : Array Value → State → Prop} {pc nx : Nat} {lv : List (Nat × Value)} {st : List Value} {kp : Bool} {σ : SS} {ca sl : Nat}
theorem TC.of {d : Nat} {As : List Value} {Q : Option Value → SS → Prop} {lv : List (Nat × Value)} (hy : plainName mi.1.cls = true) (hl : (lg_sl As).length ≤ mi.2.2.1) (hlv : lv_args 0 As = lv)
    (h : V g (rmD d 0 0) mi (ZT g kp Q) E0 0 lv [] (vw g kp σ) (sz kp) 0 0) : TC g kp d mi As σ Q := CT.of hy hl hlv h
theorem TC.mono {d : Nat} {As : List Value} {Q Q' : Option Value → SS → Prop} (hQ : ∀ r τ, Q r τ → Q' r τ) (h : TC g kp d mi As σ Q) : TC g kp d mi As σ Q' :=
  CT.mono (fun r φ n ⟨τ, h1, h2, h3⟩ => ⟨τ, h1, h2, hQ r τ h3⟩) h
theorem t_iret {x : Int} {Q : Option Value → SS → Prop} (hd : decode mi.2.1 pc = .ok (.ireturn, 1)) (hr : mi.2.2.2 = some .int) (hQ : Q (some (vi x)) σ) : V g R mi (ZT g kp Q) E pc lv [vi x] (vw g kp σ) (sz kp) 0 0 := v_iret hd hr ⟨σ, rfl, rfl, hQ⟩
theorem t_zret {x : Int} {Q : Option Value → SS → Prop} (hd : decode mi.2.1 pc = .ok (.ireturn, 1)) (hr : mi.2.2.2 = some .boolean) (hx : x = 0 ∨ x = 1) (hQ : Q (some (vi x)) σ) : V g R mi (ZT g kp Q) E pc lv [vi x] (vw g kp σ) (sz kp) 0 0 := v_zret hd hr hx ⟨σ, rfl, rfl, hQ⟩
theorem t_ret {Q : Option Value → SS → Prop} (hd : decode mi.2.1 pc = .ok (.return_, 1)) (hr : mi.2.2.2 = none) (hQ : Q none σ) : V g R mi (ZT g kp Q) E pc lv [] (vw g kp σ) (sz kp) 0 0 := v_ret hd hr ⟨σ, rfl, rfl, hQ⟩
/-- calls: an instance's method on the cell (a, t, i) -/
theorem t_callV {d idx x ci N a : Nat} {t i : Int} {T : u_T} {fs : List Value} {mi' : MI} {As' st0 : List Value} {Q' : Option Value → SS → Prop} (hM : TC g kp d mi' (rf g (ad a t i) :: As') σ Q') (hd : decode mi.2.1 pc = .ok (.invokevirtual idx, 3)) (hn : pc + 3 = nx) (hm : mokV mi' x) (hl : Cond.methodLink mi.1.cls idx mi'.1 ∈ wU)
    (ha : a < 21) (h : ok kp a t i) (hb : bld g kp a t i (σ a t i) = .inr (ci, fs)) (hc : vwCl[ci]? = some (mi'.1.cls, T, N)) (hst : st0 = As'.reverse ++ rf g (ad a t i) :: st) (hx : As'.length = x) (hcat : (st.map fun v => v.category).sum ≤ 8) (hR : d + 1 ≤ R.frames ∧ 8 + (mi'.2.2.1 + 11) + 34 * d ≤ R.locals) (hca : ca ≤ R.cells ∧ sl ≤ R.slots)
    (kk : ∀ (r : Option Value) (τ : SS), Q' r τ → V g R mi Z E nx lv (r.toList ++ st) (vw g kp τ) (sz kp) ca sl) : V g R mi Z E pc lv st0 (vw g kp σ) (sz kp) ca sl :=
  v_callV hM hd hn hm hl (ky_ad ha h).2 ((vw_at ha h).trans hb) hc hst hx hcat hR hca rfl (fun r φ' n' ⟨τ, h1, h2, h3⟩ => by subst h1; subst h2; exact kk r τ h3)
theorem t_callVi {d idx x ci N a : Nat} {t i z : Int} {τ : SS} {T : u_T} {fs : List Value} {mi' : MI} {As' st0 : List Value} (hM : XC g kp d mi' (rf g (ad a t i) :: As') σ (some (vi z)) τ) (hd : decode mi.2.1 pc = .ok (.invokevirtual idx, 3)) (hn : pc + 3 = nx) (hm : mokV mi' x) (hl : Cond.methodLink mi.1.cls idx mi'.1 ∈ wU)
    (ha : a < 21) (h : ok kp a t i) (hb : bld g kp a t i (σ a t i) = .inr (ci, fs)) (hc : vwCl[ci]? = some (mi'.1.cls, T, N)) (hst : st0 = As'.reverse ++ rf g (ad a t i) :: st) (hx : As'.length = x) (hcat : (st.map fun v => v.category).sum ≤ 8) (hR : d + 1 ≤ R.frames ∧ 8 + (mi'.2.2.1 + 11) + 34 * d ≤ R.locals) (hca : ca ≤ R.cells ∧ sl ≤ R.slots)
    (kk : V g R mi Z E nx lv (vi z :: st) (vw g kp τ) (sz kp) ca sl) : V g R mi Z E pc lv st0 (vw g kp σ) (sz kp) ca sl :=
  t_callV hM hd hn hm hl ha h hb hc hst hx hcat hR hca (fun r τ' ⟨h1, h2⟩ => by subst h1; subst h2; exact kk)
theorem t_callVv {d idx x ci N a : Nat} {t i : Int} {τ : SS} {T : u_T} {fs : List Value} {mi' : MI} {As' st0 : List Value} (hM : XC g kp d mi' (rf g (ad a t i) :: As') σ none τ) (hd : decode mi.2.1 pc = .ok (.invokevirtual idx, 3)) (hn : pc + 3 = nx) (hm : mokV mi' x) (hl : Cond.methodLink mi.1.cls idx mi'.1 ∈ wU)
    (ha : a < 21) (h : ok kp a t i) (hb : bld g kp a t i (σ a t i) = .inr (ci, fs)) (hc : vwCl[ci]? = some (mi'.1.cls, T, N)) (hst : st0 = As'.reverse ++ rf g (ad a t i) :: st) (hx : As'.length = x) (hcat : (st.map fun v => v.category).sum ≤ 8) (hR : d + 1 ≤ R.frames ∧ 8 + (mi'.2.2.1 + 11) + 34 * d ≤ R.locals) (hca : ca ≤ R.cells ∧ sl ≤ R.slots)
    (kk : V g R mi Z E nx lv st (vw g kp τ) (sz kp) ca sl) : V g R mi Z E pc lv st0 (vw g kp σ) (sz kp) ca sl :=
  t_callV hM hd hn hm hl ha h hb hc hst hx hcat hR hca (fun r τ' ⟨h1, h2⟩ => by subst h1; subst h2; exact kk)
theorem t_callSi {d idx x : Nat} {z : Int} {τ : SS} {mi' : MI} {As' st0 : List Value} (hM : XC g kp d mi' As' σ (some (vi z)) τ) (hd : decode mi.2.1 pc = .ok (.invokestatic idx, 3)) (hn : pc + 3 = nx) (hm : mokS mi' x) (hl : Cond.methodLink mi.1.cls idx mi'.1 ∈ wU)
    (hst : st0 = As'.reverse ++ st) (hx : As'.length = x) (hcat : (st.map fun v => v.category).sum ≤ 8) (hR : d + 1 ≤ R.frames ∧ 8 + (mi'.2.2.1 + 11) + 34 * d ≤ R.locals) (hca : ca ≤ R.cells ∧ sl ≤ R.slots)
    (kk : V g R mi Z E nx lv (vi z :: st) (vw g kp τ) (sz kp) ca sl) : V g R mi Z E pc lv st0 (vw g kp σ) (sz kp) ca sl :=
  v_callS hM hd hn hm hl hst hx hcat hR hca (fun r φ' n' ⟨τ', h1, h2, h3, h4⟩ => by subst h1; subst h2; subst h3; subst h4; exact kk)
end TCALL
end
section
section TR2
variable {g : GG} {R : Room} {mi : MI} {Z : List Frame → Array Value → State → State → Prop} {E : Array Value → State → Prop} {pc nx : Nat} {lv : List (Nat × Value)} {st : List Value} {kp : Bool} {σ : SS} {ca sl : Nat}
theorem t_aldL {a : Nat} {t i x : Int} {L : Int} (hd : decode mi.2.1 pc = .ok (.iaload, 1)) (hn : pc + 1 = nx) (hA : isA a = true) (h : ok kp a t i) (hL : (lenA a : Int) = L) (h0 : 0 ≤ x ∧ x < L) (kk : V g R mi Z E nx lv (vi (σ a t i x) :: st) (vw g kp σ) (sz kp) ca sl) : V g R mi Z E pc lv (vi x :: rf g (ad a t i) :: st) (vw g kp σ) (sz kp) ca sl :=
  t_ald hd hn hA h (by rw [hL]; exact h0) kk
theorem t_astL {a : Nat} {t i x z : Int} {L : Int} (hd : decode mi.2.1 pc = .ok (.iastore, 1)) (hn : pc + 1 = nx) (hA : isA a = true) (h : ok kp a t i) (hL : (lenA a : Int) = L) (h0 : 0 ≤ x ∧ x < L) (kk : V g R mi Z E nx lv st (vw g kp (up σ a t i x z)) (sz kp) ca sl) : V g R mi Z E pc lv (vi z :: vi x :: rf g (ad a t i) :: st) (vw g kp σ) (sz kp) ca sl :=
  t_ast hd hn hA h (by rw [hL]; exact h0) kk
theorem t_lenL {a : Nat} {t i : Int} {L : Int} (hd : decode mi.2.1 pc = .ok (.arraylength, 1)) (hn : pc + 1 = nx) (hA : isA a = true) (h : ok kp a t i) (hL : (lenA a : Int) = L) (kk : V g R mi Z E nx lv (vi L :: st) (vw g kp σ) (sz kp) ca sl) : V g R mi Z E pc lv (rf g (ad a t i) :: st) (vw g kp σ) (sz kp) ca sl := by
  subst hL
  exact t_len hd hn hA h kk
end TR2
theorem if_iff {p q : Prop} [Decidable p] [Decidable q] (h : p ↔ q) (a b : Int) : (if p then a else b) = if q then a else b := by
  by_cases hp : p
  · rw [if_pos hp, if_pos (h.mp hp)]
  · rw [if_neg hp, if_neg (fun z => hp (h.mpr z))]
theorem if01 {p : Prop} [Decidable p] : (if p then (1 : Int) else 0) = 0 ∨ (if p then (1 : Int) else 0) = 1 := by
  by_cases hp : p
  · exact Or.inr (if_pos hp)
  · exact Or.inl (if_neg hp)
theorem if1 {p : Prop} [Decidable p] : (if p then (1 : Int) else 0) = 0 ↔ ¬ p := by
  by_cases hp : p
  · rw [if_pos hp]; exact ⟨fun h => absurd h (by decide), fun h => absurd hp h⟩
  · rw [if_neg hp]; exact ⟨fun _ => hp, fun _ => rfl⟩
theorem if01R {p : Prop} [Decidable p] : inR (if p then (1 : Int) else 0) := by
  rcases if01 (p := p) with h | h <;> rw [h] <;> exact ⟨by decide, by decide⟩
end
section
theorem mn_s : Cond.static Lib.Math.min.name ∈ wU := by decide +kernel
theorem mn_i : Cond.initialized "java/lang/Math" ∈ wU := by decide +kernel
theorem mn_c : Cond.code Lib.Math.min.name Lib.Math.min.code 2 (some .int) ∈ wU := by decide +kernel
theorem ac_n : Cond.native arraycopyName ∈ wU := by decide +kernel
theorem ac_s : Cond.static arraycopyName ∈ wU := by decide +kernel
theorem ac_i : Cond.initialized "java/lang/System" ∈ wU := by decide +kernel
section TR3
variable {g : GG} {R : Room} {mi : MI} {Z : List Frame → Array Value → State → State → Prop} {E : Array Value → State → Prop} {pc nx : Nat} {lv : List (Nat × Value)} {st : List Value} {φ : Nat → ce} {n : Nat} {kp : Bool} {σ : SS} {ca sl : Nat}
/-- a branch on a condition's own value -/
theorem v_ifB_eq {p : Prop} [hdec : Decidable p] {off : Int} {tgt : Nat} (hd : decode mi.2.1 pc = .ok (.ifCond .eq off, 3)) (ht : (pc : Int) + off = (tgt : Int)) (hn : pc + 3 = nx) (k1 : ¬ p → V g R mi Z E tgt lv st φ n ca sl) (k2 : p → V g R mi Z E nx lv st φ n ca sl) : V g R mi Z E pc lv (vi (if p then 1 else 0) :: st) φ n ca sl :=
  v_if_eq hd ht hn if01R (fun h => k1 (if1.mp h)) (fun h => k2 (Classical.byContradiction fun q => h (if1.mpr q)))
theorem v_ifB_ne {p : Prop} [hdec : Decidable p] {off : Int} {tgt : Nat} (hd : decode mi.2.1 pc = .ok (.ifCond .ne off, 3)) (ht : (pc : Int) + off = (tgt : Int)) (hn : pc + 3 = nx) (k1 : p → V g R mi Z E tgt lv st φ n ca sl) (k2 : ¬ p → V g R mi Z E nx lv st φ n ca sl) : V g R mi Z E pc lv (vi (if p then 1 else 0) :: st) φ n ca sl :=
  v_if_ne hd ht hn if01R (fun h => k1 (Classical.byContradiction fun q => h (if1.mpr q))) (fun h => k2 (if1.mp h))
theorem t_min {idx : Nat} {x y : Int} (hd : decode mi.2.1 pc = .ok (.invokestatic idx, 3)) (hn : pc + 3 = nx) (hl : Cond.methodLink mi.1.cls idx Lib.Math.min.name ∈ wU) (hR : 1 ≤ R.frames ∧ 34 ≤ R.locals) (hx : inR x) (hy : inR y) (hcat : (st.map fun v => v.category).sum ≤ 8) (hca : ca ≤ R.cells ∧ sl ≤ R.slots) (kk : V g R mi Z E nx lv (vi (if y < x then y else x) :: st) φ n ca sl) : V g R mi Z E pc lv (vi y :: vi x :: st) φ n ca sl := by
  subst hn
  intro p' e s m args below meth c H locs ls ev hw hh
  obtain ⟨hex, hb, hr, hml, hown, hts, hlk, hnm, hK, hbs, hE, hX⟩ := id ev
  refine va_mmin hex hb (by rw [hml]; exact hh.1.symm) hown (hts _ hl) (hts _ mn_s) (hts _ mn_i) (hts _ mn_c) hR.1 (by omega) hca.1 hca.2 hd ?_
  have h := kk p' e s m args below meth c H locs ls ev hw hh
  have e1 : (if Int32.ofInt y < Int32.ofInt x then Int32.ofInt y else Int32.ofInt x) = Int32.ofInt (if y < x then y else x) := by
    by_cases q : y < x
    · rw [if_pos q, if_pos ((I_lt hy hx).mpr q)]
    · rw [if_neg q, if_neg (fun z => q ((I_lt hy hx).mp z))]
  rw [e1]
  exact h
end TR3
end
section
/-! ===== the reference's cells as functions: now, kept, isGiven, far, isKept, findings ===== -/
def mkS (σ : SS) (N K G F : Int → Int) (k f : Int) : SS := fun a t i j => match a with
  | 10 => N j
  | 11 => K j
  | 12 => G j
  | 13 => F j
  | 14 => if j = 0 then k else if j = 1 then f else 0
  | _ => σ a t i j
/-- a function with another value at one place -/
def uI (N : Int → Int) (x v : Int) : Int → Int := fun j => if j = x then v else N j
theorem uI_s {N : Int → Int} {x v : Int} : uI N x v x = v := if_pos rfl
theorem uI_n {N : Int → Int} {x v j : Int} (h : j ≠ x) : uI N x v j = N j := if_neg h
theorem ky_one : ∀ k : Fin 398, (ky k.val).1 < 15 → 10 ≤ (ky k.val).1 → (ky k.val).2.1 = 0 ∧ (ky k.val).2.2 = 0 := by decide +kernel
theorem vw_eq {g : GG} {kp : Bool} {σ τ : SS} (h : ∀ (a : Nat) (t i : Int), (10 ≤ a → a < 15 → t = 0 ∧ i = 0) → ∀ j : Int, σ a t i j = τ a t i j) (k : Nat) (hk : k < sz kp) : vw g kp σ k = vw g kp τ k := by
  have hk2 : k < 398 := Nat.lt_of_lt_of_le hk (sz_le kp)
  unfold vw
  congr 1
  funext j
  exact h _ _ _ (fun h1 h2 => ky_one ⟨k, hk2⟩ h2 h1) j
section MR
variable {g : GG} {R : Room} {mi : MI} {Z : List Frame → Array Value → State → State → Prop} {E : Array Value → State → Prop} {pc nx : Nat} {lv : List (Nat × Value)} {st : List Value} {kp : Bool} {σ : SS} {N K G F : Int → Int} {k f : Int} {ca sl : Nat}
theorem m_ald10 {x : Int} (hd : decode mi.2.1 pc = .ok (.iaload, 1)) (hn : pc + 1 = nx) (h0 : 0 ≤ x ∧ x < 4324) (kk : V g R mi Z E nx lv (vi (N x) :: st) (vw g kp (mkS σ N K G F k f)) (sz kp) ca sl) : V g R mi Z E pc lv (vi x :: rf g (ad 10 0 0) :: st) (vw g kp (mkS σ N K G F k f)) (sz kp) ca sl :=
  t_aldL (a := 10) (L := 4324) hd hn rfl (ok_m 10 rfl) rfl h0 kk
theorem m_ald11 {x : Int} (hd : decode mi.2.1 pc = .ok (.iaload, 1)) (hn : pc + 1 = nx) (h0 : 0 ≤ x ∧ x < 4324) (kk : V g R mi Z E nx lv (vi (K x) :: st) (vw g kp (mkS σ N K G F k f)) (sz kp) ca sl) : V g R mi Z E pc lv (vi x :: rf g (ad 11 0 0) :: st) (vw g kp (mkS σ N K G F k f)) (sz kp) ca sl :=
  t_aldL (a := 11) (L := 4324) hd hn rfl (ok_m 11 rfl) rfl h0 kk
theorem m_ald13 {x : Int} (hd : decode mi.2.1 pc = .ok (.iaload, 1)) (hn : pc + 1 = nx) (h0 : 0 ≤ x ∧ x < 12) (kk : V g R mi Z E nx lv (vi (F x) :: st) (vw g kp (mkS σ N K G F k f)) (sz kp) ca sl) : V g R mi Z E pc lv (vi x :: rf g (ad 13 0 0) :: st) (vw g kp (mkS σ N K G F k f)) (sz kp) ca sl :=
  t_aldL (a := 13) (L := 12) hd hn rfl (ok_m 13 rfl) rfl h0 kk
theorem m_zld {x : Int} (hd : decode mi.2.1 pc = .ok (.baload, 1)) (hn : pc + 1 = nx) (h0 : 0 ≤ x ∧ x < 60) (kk : V g R mi Z E nx lv (vi (G x) :: st) (vw g kp (mkS σ N K G F k f)) (sz kp) ca sl) : V g R mi Z E pc lv (vi x :: rf g (ad 12 0 0) :: st) (vw g kp (mkS σ N K G F k f)) (sz kp) ca sl :=
  t_zld hd hn h0 kk
theorem m_up {a : Nat} {x v : Int} {τ : SS} (h : ∀ (a' : Nat) (j : Int), up (mkS σ N K G F k f) a 0 0 x v a' 0 0 j = τ a' 0 0 j) (h2 : ∀ (a' : Nat) (t i j : Int), (a' < 10 ∨ 15 ≤ a') → up (mkS σ N K G F k f) a 0 0 x v a' t i j = τ a' t i j) (kk : V g R mi Z E pc lv st (vw g kp τ) (sz kp) ca sl) : V g R mi Z E pc lv st (vw g kp (up (mkS σ N K G F k f) a 0 0 x v)) (sz kp) ca sl := by
  refine V.cong (fun q hq => vw_eq (fun a' t i hh j => ?_) q hq) kk
  by_cases e : 10 ≤ a' ∧ a' < 15
  · obtain ⟨rfl, rfl⟩ := hh e.1 e.2
    exact h a' j
  · exact h2 a' t i j (by omega)
theorem up_far {σ : SS} {a : Nat} {t i x v : Int} {a' : Nat} {t' i' j : Int} (h : a' ≠ a) : up σ a t i x v a' t' i' j = σ a' t' i' j := if_neg (fun q => h q.1)
theorem up_here {σ : SS} {a : Nat} {t i x v j : Int} : up σ a t i x v a t i j = if j = x then v else σ a t i j := by
  unfold up
  by_cases e : j = x
  · rw [if_pos ⟨rfl, rfl, rfl, e⟩, if_pos e]
  · rw [if_neg (fun q => e q.2.2.2), if_neg e]
theorem mk_out {a : Nat} {t i j : Int} (h : a < 10 ∨ 15 ≤ a) : mkS σ N K G F k f a t i j = σ a t i j := by
  unfold mkS
  split <;> first | omega | rfl
theorem mk_up (a : Nat) {x v : Int} {N' K' G' F' : Int → Int} {k' f' : Int} (ha : 10 ≤ a ∧ a < 15) (h : ∀ (a' : Nat) (j : Int), 10 ≤ a' → a' < 15 → (if a' = a then (if j = x then v else mkS σ N K G F k f a 0 0 j) else mkS σ N K G F k f a' 0 0 j) = mkS σ N' K' G' F' k' f' a' 0 0 j) (kk : V g R mi Z E pc lv st (vw g kp (mkS σ N' K' G' F' k' f')) (sz kp) ca sl) : V g R mi Z E pc lv st (vw g kp (up (mkS σ N K G F k f) a 0 0 x v)) (sz kp) ca sl := by
  refine m_up (fun a' j => ?_) (fun a' t i j hh => ?_) kk
  · by_cases e : 10 ≤ a' ∧ a' < 15
    · rw [← h a' j e.1 e.2]
      by_cases e2 : a' = a
      · subst e2
        rw [if_pos rfl, up_here]
      · rw [if_neg e2, up_far e2]
    · rw [up_far (by omega), mk_out (by omega), mk_out (by omega)]
  · rw [up_far (by omega), mk_out hh, mk_out hh]
theorem m_ast10 {x z : Int} (hd : decode mi.2.1 pc = .ok (.iastore, 1)) (hn : pc + 1 = nx) (h0 : 0 ≤ x ∧ x < 4324) (kk : V g R mi Z E nx lv st (vw g kp (mkS σ (uI N x z) K G F k f)) (sz kp) ca sl) : V g R mi Z E pc lv (vi z :: vi x :: rf g (ad 10 0 0) :: st) (vw g kp (mkS σ N K G F k f)) (sz kp) ca sl :=
  t_astL (a := 10) (L := 4324) hd hn rfl (ok_m 10 rfl) rfl h0 (mk_up 10 (by decide) (fun a' j h1 h2 => by
    match a', h1, h2 with
    | 10, _, _ => rfl
    | 11, _, _ => rfl
    | 12, _, _ => rfl
    | 13, _, _ => rfl
    | 14, _, _ => rfl) kk)
theorem m_ast11 {x z : Int} (hd : decode mi.2.1 pc = .ok (.iastore, 1)) (hn : pc + 1 = nx) (h0 : 0 ≤ x ∧ x < 4324) (kk : V g R mi Z E nx lv st (vw g kp (mkS σ N (uI K x z) G F k f)) (sz kp) ca sl) : V g R mi Z E pc lv (vi z :: vi x :: rf g (ad 11 0 0) :: st) (vw g kp (mkS σ N K G F k f)) (sz kp) ca sl :=
  t_astL (a := 11) (L := 4324) hd hn rfl (ok_m 11 rfl) rfl h0 (mk_up 11 (by decide) (fun a' j h1 h2 => by
    match a', h1, h2 with
    | 10, _, _ => rfl
    | 11, _, _ => rfl
    | 12, _, _ => rfl
    | 13, _, _ => rfl
    | 14, _, _ => rfl) kk)
theorem m_ast13 {x z : Int} (hd : decode mi.2.1 pc = .ok (.iastore, 1)) (hn : pc + 1 = nx) (h0 : 0 ≤ x ∧ x < 12) (kk : V g R mi Z E nx lv st (vw g kp (mkS σ N K G (uI F x z) k f)) (sz kp) ca sl) : V g R mi Z E pc lv (vi z :: vi x :: rf g (ad 13 0 0) :: st) (vw g kp (mkS σ N K G F k f)) (sz kp) ca sl :=
  t_astL (a := 13) (L := 12) hd hn rfl (ok_m 13 rfl) rfl h0 (mk_up 13 (by decide) (fun a' j h1 h2 => by
    match a', h1, h2 with
    | 10, _, _ => rfl
    | 11, _, _ => rfl
    | 12, _, _ => rfl
    | 13, _, _ => rfl
    | 14, _, _ => rfl) kk)
theorem m_zst {x z : Int} (hd : decode mi.2.1 pc = .ok (.bastore, 1)) (hn : pc + 1 = nx) (h0 : 0 ≤ x ∧ x < 60) (hz : z = 0 ∨ z = 1) (kk : V g R mi Z E nx lv st (vw g kp (mkS σ N K (uI G x z) F k f)) (sz kp) ca sl) : V g R mi Z E pc lv (vi z :: vi x :: rf g (ad 12 0 0) :: st) (vw g kp (mkS σ N K G F k f)) (sz kp) ca sl :=
  t_zst hd hn h0 hz (mk_up 12 (by decide) (fun a' j h1 h2 => by
    match a', h1, h2 with
    | 10, _, _ => rfl
    | 11, _, _ => rfl
    | 12, _, _ => rfl
    | 13, _, _ => rfl
    | 14, _, _ => rfl) kk)
/-- the reference's own fields -/
theorem m_gA (a : Nat) {idx p : Nat} (hd : decode mi.2.1 pc = .ok (.getfield idx, 3)) (hn : pc + 3 = nx) (hp : p < 6) (hl : Cond.fieldLink mi.1.cls idx (TX7 p).1 (TX7 p).2.1 (TX7 p).2.2.1 ∈ wU) (hv : [rf g (ad 10 0 0), rf g (ad 11 0 0), vi k, vi f, rf g (ad 12 0 0), rf g (ad 13 0 0)][p]? = some (rf g (ad a 0 0))) (kk : V g R mi Z E nx lv (rf g (ad a 0 0) :: st) (vw g kp (mkS σ N K G F k f)) (sz kp) ca sl) : V g R mi Z E pc lv (rf g (ad 14 0 0) :: st) (vw g kp (mkS σ N K G F k f)) (sz kp) ca sl :=
  t_get (a := 14) (p := p) (T := TX7) hd hn (by decide) (ok_m 14 rfl) rfl rfl iU7 hp hl hv kk
theorem m_gI {idx p : Nat} {z : Int} (hd : decode mi.2.1 pc = .ok (.getfield idx, 3)) (hn : pc + 3 = nx) (hp : p < 6) (hl : Cond.fieldLink mi.1.cls idx (TX7 p).1 (TX7 p).2.1 (TX7 p).2.2.1 ∈ wU) (hv : [rf g (ad 10 0 0), rf g (ad 11 0 0), vi k, vi f, rf g (ad 12 0 0), rf g (ad 13 0 0)][p]? = some (vi z)) (kk : V g R mi Z E nx lv (vi z :: st) (vw g kp (mkS σ N K G F k f)) (sz kp) ca sl) : V g R mi Z E pc lv (rf g (ad 14 0 0) :: st) (vw g kp (mkS σ N K G F k f)) (sz kp) ca sl :=
  t_get (a := 14) (p := p) (T := TX7) hd hn (by decide) (ok_m 14 rfl) rfl rfl iU7 hp hl hv kk
theorem m_pk {idx : Nat} {z : Int} (hd : decode mi.2.1 pc = .ok (.putfield idx, 3)) (hn : pc + 3 = nx) (hl : Cond.fieldLink mi.1.cls idx "BagHallModel" "isKept" "Z" ∈ wU) (hz : z = 0 ∨ z = 1) (kk : V g R mi Z E nx lv st (vw g kp (mkS σ N K G F z f)) (sz kp) ca sl) : V g R mi Z E pc lv (vi z :: rf g (ad 14 0 0) :: st) (vw g kp (mkS σ N K G F k f)) (sz kp) ca sl :=
  t_put (a := 14) (j := 0) (p := 2) (T := TX7) hd hn (by decide) (ok_m 14 rfl) rfl rfl iU7 tyX7 tyX7_ok nmX7 (by decide) hl rfl (Or.inr ⟨rfl, hz⟩) (Nat.le_of_ble_eq_true rfl) rfl (mk_up 14 (by decide) (fun a' j h1 h2 => by
    match a', h1, h2 with
    | 10, _, _ => rfl
    | 11, _, _ => rfl
    | 12, _, _ => rfl
    | 13, _, _ => rfl
    | 14, _, _ =>
      show (if j = 0 then z else if j = 0 then k else if j = 1 then f else 0) = if j = 0 then z else if j = 1 then f else 0
      by_cases e : j = 0
      · rw [if_pos e, if_pos e]
      · rw [if_neg e, if_neg e, if_neg e]) kk)
theorem m_pf {idx : Nat} {z : Int} (hd : decode mi.2.1 pc = .ok (.putfield idx, 3)) (hn : pc + 3 = nx) (hl : Cond.fieldLink mi.1.cls idx "BagHallModel" "findings" "I" ∈ wU) (kk : V g R mi Z E nx lv st (vw g kp (mkS σ N K G F k z)) (sz kp) ca sl) : V g R mi Z E pc lv (vi z :: rf g (ad 14 0 0) :: st) (vw g kp (mkS σ N K G F k f)) (sz kp) ca sl :=
  t_put (a := 14) (j := 1) (p := 3) (T := TX7) hd hn (by decide) (ok_m 14 rfl) rfl rfl iU7 tyX7 tyX7_ok nmX7 (by decide) hl rfl (Or.inl rfl) (Nat.le_of_ble_eq_true rfl) rfl (mk_up 14 (by decide) (fun a' j h1 h2 => by
    match a', h1, h2 with
    | 10, _, _ => rfl
    | 11, _, _ => rfl
    | 12, _, _ => rfl
    | 13, _, _ => rfl
    | 14, _, _ =>
      show (if j = 1 then z else if j = 0 then k else if j = 1 then f else 0) = if j = 0 then k else if j = 1 then z else 0
      by_cases e : j = 1
      · subst e; rfl
      · by_cases e0 : j = 0
        · rw [if_neg e, if_pos e0, if_pos e0]
        · rw [if_neg e, if_neg e0, if_neg e, if_neg e0, if_neg e]) kk)
end MR
end
section
set_option maxRecDepth 100000 in
theorem c_X7_in {g : GG} {kp : Bool} {σ : SS} {N K G F : Int → Int} {k f : Int} (v lo hi : Int) (hv : inR v) (hl : inR lo) (hh : inR hi) : XC g kp 0 mX7_in [vi v, vi lo, vi hi] (mkS σ N K G F k f) (some (vi (if lo ≤ v ∧ v ≤ hi then 1 else 0))) (mkS σ N K G F k f) := by
  refine TC.of (by decide) (Nat.le_of_ble_eq_true rfl) rfl ?_
  refine v_iload_n 0 dX7_in_0 (nx := 1) rfl rfl ?_
  refine v_iload_n 1 dX7_in_1 (nx := 2) rfl rfl ?_
  refine v_icmp_lt dX7_in_2 (tgt := 14) (by decide) (nx := 5) rfl (by first | assumption | exact hR _ | exact ⟨by omega, by omega⟩) (by first | assumption | exact hR _ | exact ⟨by omega, by omega⟩) (fun c2 => ?_) (fun c2 => ?_)
  · refine v_iconst dX7_in_14 (nx := 15) rfl ?_
    exact t_zret dX7_in_15 rfl (by first | exact Or.inl rfl | exact Or.inr rfl | assumption) ⟨by first | rw [if_pos (by omega)] | rw [if_neg (by omega)], rfl⟩
  · refine v_iload_n 0 dX7_in_5 (nx := 6) rfl rfl ?_
    refine v_iload_n 2 dX7_in_6 (nx := 7) rfl rfl ?_
    refine v_icmp_gt dX7_in_7 (tgt := 14) (by decide) (nx := 10) rfl (by first | assumption | exact hR _ | exact ⟨by omega, by omega⟩) (by first | assumption | exact hR _ | exact ⟨by omega, by omega⟩) (fun c7 => ?_) (fun c7 => ?_)
    · refine v_iconst dX7_in_14 (nx := 15) rfl ?_
      exact t_zret dX7_in_15 rfl (by first | exact Or.inl rfl | exact Or.inr rfl | assumption) ⟨by first | rw [if_pos (by omega)] | rw [if_neg (by omega)], rfl⟩
    · refine v_iconst dX7_in_10 (nx := 11) rfl ?_
      refine v_goto dX7_in_11 (tgt := 15) (by decide) ?_
      exact t_zret dX7_in_15 rfl (by first | exact Or.inl rfl | exact Or.inr rfl | assumption) ⟨by first | rw [if_pos (by omega)] | rw [if_neg (by omega)], rfl⟩

set_option maxRecDepth 100000 in
theorem c_X7_finding {g : GG} {kp : Bool} {σ : SS} {N K G F : Int → Int} {k f : Int} (w : Int) : XC g kp 0 mX7_finding [rf g (ad 14 0 0), vi w] (mkS σ N K G F k f) (some (vi w)) (mkS σ N K G F k (f + 1)) := by
  refine TC.of (by decide) (Nat.le_of_ble_eq_true rfl) rfl ?_
  refine v_aload_n 0 dX7_finding_0 (nx := 1) rfl rfl ?_
  refine v_dup dX7_finding_1 (nx := 2) rfl rfl ?_
  refine m_gI (p := 3) dX7_finding_2 (nx := 5) rfl (by decide) fl_X7_23 rfl ?_
  refine v_iconst dX7_finding_5 (nx := 6) rfl ?_
  refine v_iadd dX7_finding_6 (nx := 7) rfl ?_
  refine m_pf dX7_finding_7 (nx := 10) rfl fl_X7_23 ?_
  refine v_iload_n 1 dX7_finding_10 (nx := 11) rfl rfl ?_
  exact t_iret dX7_finding_11 rfl ⟨rfl, rfl⟩

set_option maxRecDepth 100000 in
theorem c_X7_isPoint {g : GG} {kp : Bool} {σ : SS} {N K G F : Int → Int} {k f : Int} (p : Int) (hp : inR p) (hn : 0 ≤ N 0 ∧ N 0 ≤ 60) : XC g kp 1 mX7_isPoint [rf g (ad 14 0 0), vi p] (mkS σ N K G F k f) (some (vi (if 0 ≤ p ∧ p < N 0 then 1 else 0))) (mkS σ N K G F k f) := by
  refine TC.of (by decide) (Nat.le_of_ble_eq_true rfl) rfl ?_
  refine v_iload_n 1 dX7_isPoint_0 (nx := 1) rfl rfl ?_
  refine v_iconst dX7_isPoint_1 (nx := 2) rfl ?_
  refine v_aload_n 0 dX7_isPoint_2 (nx := 3) rfl rfl ?_
  refine m_gA 10 (p := 0) dX7_isPoint_3 (nx := 6) rfl (by decide) fl_X7_9 rfl ?_
  refine v_iconst dX7_isPoint_6 (nx := 7) rfl ?_
  refine m_ald10 dX7_isPoint_7 (nx := 8) rfl ⟨by omega, by omega⟩ ?_
  refine v_iconst dX7_isPoint_8 (nx := 9) rfl ?_
  refine v_isub dX7_isPoint_9 (nx := 10) rfl ?_
  refine t_callSi (c_X7_in p 0 (N 0 - 1) hp ⟨by omega, by omega⟩ ⟨by omega, by omega⟩) dX7_isPoint_10 (nx := 13) rfl kX7_in ml_X7_27 rfl rfl (Nat.le_of_ble_eq_true rfl) ⟨by decide, by decide⟩ ⟨by decide, by decide⟩ ?_
  exact t_zret dX7_isPoint_13 rfl if01 ⟨by congr 2; exact if_iff (by omega) _ _, rfl⟩

set_option maxRecDepth 100000 in
theorem c_X7_isBelt {g : GG} {kp : Bool} {σ : SS} {N K G F : Int → Int} {k f : Int} (p : Int) (hp : inR p) (hn : 0 ≤ N 1 ∧ N 1 ≤ 60) : XC g kp 1 mX7_isBelt [rf g (ad 14 0 0), vi p] (mkS σ N K G F k f) (some (vi (if 0 ≤ p ∧ p < N 1 then 1 else 0))) (mkS σ N K G F k f) := by
  refine TC.of (by decide) (Nat.le_of_ble_eq_true rfl) rfl ?_
  refine v_iload_n 1 dX7_isBelt_0 (nx := 1) rfl rfl ?_
  refine v_iconst dX7_isBelt_1 (nx := 2) rfl ?_
  refine v_aload_n 0 dX7_isBelt_2 (nx := 3) rfl rfl ?_
  refine m_gA 10 (p := 0) dX7_isBelt_3 (nx := 6) rfl (by decide) fl_X7_9 rfl ?_
  refine v_iconst dX7_isBelt_6 (nx := 7) rfl ?_
  refine m_ald10 dX7_isBelt_7 (nx := 8) rfl ⟨by omega, by omega⟩ ?_
  refine v_iconst dX7_isBelt_8 (nx := 9) rfl ?_
  refine v_isub dX7_isBelt_9 (nx := 10) rfl ?_
  refine t_callSi (c_X7_in p 0 (N 1 - 1) hp ⟨by omega, by omega⟩ ⟨by omega, by omega⟩) dX7_isBelt_10 (nx := 13) rfl kX7_in ml_X7_27 rfl rfl (Nat.le_of_ble_eq_true rfl) ⟨by decide, by decide⟩ ⟨by decide, by decide⟩ ?_
  exact t_zret dX7_isBelt_13 rfl if01 ⟨by congr 2; exact if_iff (by omega) _ _, rfl⟩

set_option maxRecDepth 100000 in
theorem c_X7_isFlight {g : GG} {kp : Bool} {σ : SS} {N K G F : Int → Int} {k f : Int} (p : Int) (hp : inR p) (hn : 0 ≤ N 2 ∧ N 2 ≤ 60) : XC g kp 1 mX7_isFlight [rf g (ad 14 0 0), vi p] (mkS σ N K G F k f) (some (vi (if 0 ≤ p ∧ p < N 2 then 1 else 0))) (mkS σ N K G F k f) := by
  refine TC.of (by decide) (Nat.le_of_ble_eq_true rfl) rfl ?_
  refine v_iload_n 1 dX7_isFlight_0 (nx := 1) rfl rfl ?_
  refine v_iconst dX7_isFlight_1 (nx := 2) rfl ?_
  refine v_aload_n 0 dX7_isFlight_2 (nx := 3) rfl rfl ?_
  refine m_gA 10 (p := 0) dX7_isFlight_3 (nx := 6) rfl (by decide) fl_X7_9 rfl ?_
  refine v_iconst dX7_isFlight_6 (nx := 7) rfl ?_
  refine m_ald10 dX7_isFlight_7 (nx := 8) rfl ⟨by omega, by omega⟩ ?_
  refine v_iconst dX7_isFlight_8 (nx := 9) rfl ?_
  refine v_isub dX7_isFlight_9 (nx := 10) rfl ?_
  refine t_callSi (c_X7_in p 0 (N 2 - 1) hp ⟨by omega, by omega⟩ ⟨by omega, by omega⟩) dX7_isFlight_10 (nx := 13) rfl kX7_in ml_X7_27 rfl rfl (Nat.le_of_ble_eq_true rfl) ⟨by decide, by decide⟩ ⟨by decide, by decide⟩ ?_
  exact t_zret dX7_isFlight_13 rfl if01 ⟨by congr 2; exact if_iff (by omega) _ _, rfl⟩

set_option maxRecDepth 100000 in
theorem c_X7_isBag {g : GG} {kp : Bool} {σ : SS} {N K G F : Int → Int} {k f : Int} (p : Int) (hp : inR p) (hn : 0 ≤ N 3 ∧ N 3 ≤ 60) : XC g kp 1 mX7_isBag [rf g (ad 14 0 0), vi p] (mkS σ N K G F k f) (some (vi (if 0 ≤ p ∧ p < N 3 then 1 else 0))) (mkS σ N K G F k f) := by
  refine TC.of (by decide) (Nat.le_of_ble_eq_true rfl) rfl ?_
  refine v_iload_n 1 dX7_isBag_0 (nx := 1) rfl rfl ?_
  refine v_iconst dX7_isBag_1 (nx := 2) rfl ?_
  refine v_aload_n 0 dX7_isBag_2 (nx := 3) rfl rfl ?_
  refine m_gA 10 (p := 0) dX7_isBag_3 (nx := 6) rfl (by decide) fl_X7_9 rfl ?_
  refine v_iconst dX7_isBag_6 (nx := 7) rfl ?_
  refine m_ald10 dX7_isBag_7 (nx := 8) rfl ⟨by omega, by omega⟩ ?_
  refine v_iconst dX7_isBag_8 (nx := 9) rfl ?_
  refine v_isub dX7_isBag_9 (nx := 10) rfl ?_
  refine t_callSi (c_X7_in p 0 (N 3 - 1) hp ⟨by omega, by omega⟩ ⟨by omega, by omega⟩) dX7_isBag_10 (nx := 13) rfl kX7_in ml_X7_27 rfl rfl (Nat.le_of_ble_eq_true rfl) ⟨by decide, by decide⟩ ⟨by decide, by decide⟩ ?_
  exact t_zret dX7_isBag_13 rfl if01 ⟨by congr 2; exact if_iff (by omega) _ _, rfl⟩

set_option maxRecDepth 100000 in
theorem c_X7_kindOf {g : GG} {kp : Bool} {σ : SS} {N K G F : Int → Int} {k f : Int} (p : Int) (hp : 0 ≤ p ∧ p < 12) : XC g kp 0 mX7_kindOf [rf g (ad 14 0 0), vi p] (mkS σ N K G F k f) (some (vi (N (8 + p)))) (mkS σ N K G F k f) := by
  refine TC.of (by decide) (Nat.le_of_ble_eq_true rfl) rfl ?_
  refine v_aload_n 0 dX7_kindOf_0 (nx := 1) rfl rfl ?_
  refine m_gA 10 (p := 0) dX7_kindOf_1 (nx := 4) rfl (by decide) fl_X7_9 rfl ?_
  refine v_bipush dX7_kindOf_4 (nx := 6) rfl rfl ?_
  refine v_iload_n 1 dX7_kindOf_6 (nx := 7) rfl rfl ?_
  refine v_iadd dX7_kindOf_7 (nx := 8) rfl ?_
  refine m_ald10 dX7_kindOf_8 (nx := 9) rfl ⟨by omega, by omega⟩ ?_
  exact t_iret dX7_kindOf_9 rfl ⟨rfl, rfl⟩
end
section
/-! ===== the promises as functions of the reference's array N (its places as the reference numbers them) ===== -/
/-- how many of 0 .. n-1 -/
def cnt (P : Int → Bool) : Nat → Int
  | 0 => 0
  | n + 1 => cnt P n + (if P n then 1 else 0)
def cntI (P : Int → Bool) (n : Int) : Int := cnt P n.toNat
/-- the first of lo, lo+1 .. hi-1, or -1 -/
def isF (P : Int → Bool) (lo hi r : Int) : Prop := (r = -1 ∧ ∀ b, lo ≤ b → b < hi → P b = false) ∨ (lo ≤ r ∧ r < hi ∧ P r = true ∧ ∀ b, lo ≤ b → b < r → P b = false)
def fst (P : Int → Bool) (lo : Int) : Nat → Int
  | 0 => -1
  | n + 1 => if 0 ≤ fst P lo n then fst P lo n else if P (lo + n) then lo + n else -1
def fstI (P : Int → Bool) (lo hi : Int) : Int := fst P lo (hi - lo).toNat
/-- the one with the least K of 0 .. n-1, the first of several; -1 if there is none -/
def mn (P : Int → Bool) (K : Int → Int) : Nat → Int
  | 0 => -1
  | n + 1 => if P n = true ∧ (mn P K n < 0 ∨ K n < K (mn P K n)) then n else mn P K n
def mnI (P : Int → Bool) (K : Int → Int) (n : Int) : Int := mn P K n.toNat
theorem toNat_s {g : Int} (h : 0 ≤ g) : (g + 1).toNat = g.toNat + 1 := by omega
theorem cntI_s {P : Int → Bool} {g : Int} (h : 0 ≤ g) : cntI P (g + 1) = cntI P g + (if P g then 1 else 0) := by
  unfold cntI
  rw [toNat_s h]
  show cnt P g.toNat + (if P (g.toNat : Int) then 1 else 0) = _
  rw [Int.toNat_of_nonneg h]
theorem cntI_0 {P : Int → Bool} : cntI P 0 = 0 := rfl
theorem cnt_b (P : Int → Bool) : ∀ n : Nat, 0 ≤ cnt P n ∧ cnt P n ≤ n
  | 0 => ⟨Int.le_refl _, Int.le_refl _⟩
  | n + 1 => by
    have ih := cnt_b P n
    show 0 ≤ cnt P n + _ ∧ cnt P n + _ ≤ _
    by_cases h : P n = true
    · rw [if_pos h]; omega
    · rw [if_neg h]; omega
theorem cntI_b {P : Int → Bool} {n : Int} (h : 0 ≤ n) : 0 ≤ cntI P n ∧ cntI P n ≤ n := by
  have := cnt_b P n.toNat
  unfold cntI
  omega
theorem mnI_s {P : Int → Bool} {K : Int → Int} {g : Int} (h : 0 ≤ g) : mnI P K (g + 1) = if P g = true ∧ (mnI P K g < 0 ∨ K g < K (mnI P K g)) then g else mnI P K g := by
  unfold mnI
  rw [toNat_s h]
  show (if P (g.toNat : Int) = true ∧ (mn P K g.toNat < 0 ∨ K (g.toNat : Int) < K (mn P K g.toNat)) then (g.toNat : Int) else mn P K g.toNat) = _
  rw [Int.toNat_of_nonneg h]
theorem mn_b (P : Int → Bool) (K : Int → Int) : ∀ n : Nat, mn P K n = -1 ∨ (0 ≤ mn P K n ∧ mn P K n < n)
  | 0 => Or.inl rfl
  | n + 1 => by
    have ih := mn_b P K n
    unfold mn
    split <;> omega
theorem mnI_b {P : Int → Bool} {K : Int → Int} {n : Int} (h : 0 ≤ n) : mnI P K n = -1 ∨ (0 ≤ mnI P K n ∧ mnI P K n < n) := by
  have := mn_b P K n.toNat
  unfold mnI
  omega
theorem fst_is (P : Int → Bool) {lo : Int} (h0 : 0 ≤ lo) : ∀ n : Nat, isF P lo (lo + n) (fst P lo n)
  | 0 => Or.inl ⟨rfl, fun b h1 h2 => by omega⟩
  | n + 1 => by
    have ih := fst_is P h0 n
    unfold fst
    rcases ih with ⟨h1, h2⟩ | ⟨h1, h2, h3, h4⟩
    · rw [if_neg (by omega)]
      by_cases h : P (lo + n) = true
      · rw [if_pos h]
        exact Or.inr ⟨by omega, by omega, h, fun b b1 b2 => h2 b b1 b2⟩
      · rw [if_neg h]
        refine Or.inl ⟨rfl, fun b b1 b2 => ?_⟩
        by_cases e : b = lo + n
        · subst e; simpa using h
        · exact h2 b b1 (by omega)
    · rw [if_pos (by omega)]
      exact Or.inr ⟨h1, by omega, h3, h4⟩
theorem isF_u {P : Int → Bool} {lo hi r s : Int} (h0 : 0 ≤ lo) (h1 : isF P lo hi r) (h2 : isF P lo hi s) : r = s := by
  rcases h1 with ⟨a1, a2⟩ | ⟨a1, a2, a3, a4⟩ <;> rcases h2 with ⟨b1, b2⟩ | ⟨b1, b2, b3, b4⟩
  · omega
  · have := a2 s b1 b2; rw [this] at b3; cases b3
  · have := b2 r a1 a2; rw [this] at a3; cases a3
  · by_cases c : r < s
    · have := b4 r a1 c; rw [this] at a3; cases a3
    · by_cases c2 : s < r
      · have := a4 s b1 c2; rw [this] at b3; cases b3
      · omega
theorem fstI_is {P : Int → Bool} {lo hi : Int} (h0 : 0 ≤ lo) (h1 : lo ≤ hi) : isF P lo hi (fstI P lo hi) := by
  have := fst_is P h0 (hi - lo).toNat
  rw [show lo + ((hi - lo).toNat : Int) = hi by omega] at this
  exact this
theorem fstI_eq {P : Int → Bool} {lo hi r : Int} (h0 : 0 ≤ lo) (h1 : lo ≤ hi) (h : isF P lo hi r) : r = fstI P lo hi := isF_u h0 h (fstI_is h0 h1)
theorem fstI_e {P : Int → Bool} {lo hi : Int} (h1 : hi ≤ lo) : fstI P lo hi = -1 := by
  unfold fstI
  rw [show (hi - lo).toNat = 0 by omega]
  rfl
theorem fstI_b {P : Int → Bool} {lo hi : Int} (h0 : 0 ≤ lo) (h1 : lo ≤ hi) : fstI P lo hi = -1 ∨ (lo ≤ fstI P lo hi ∧ fstI P lo hi < hi) := by
  rcases fstI_is (P := P) h0 h1 with h | h
  · exact Or.inl h.1
  · exact Or.inr ⟨h.1, h.2.1⟩
/-! the answers and the acts: (answer, the array behind it, how many findings) -/
abbrev NN : Type := Int → Int
abbrev RR : Type := Int × NN × Int
def fnd (N : NN) (w : Int) : RR := (w, N, 1)
def s_point (N : NN) (kind v : Int) : RR :=
  if ¬ (0 ≤ kind ∧ kind ≤ 5) ∨ (kind = 2 ∧ ¬ (1 ≤ v ∧ v ≤ 9)) ∨ (kind = 4 ∧ ¬ (1 ≤ v ∧ v ≤ 20)) then fnd N (-1)
  else if N 0 = 12 then fnd N (-3)
  else (N 0, uI (uI (uI (uI (uI (uI N (8 + N 0) kind) (20 + N 0) v) (32 + N 0) 0) (44 + N 0) 0) (56 + N 0) 0) 0 (N 0 + 1), 0)
/-- the cells of belt n empty -/
def clr (N : NN) (n c : Int) : NN := fun j => if 148 + 12 * n ≤ j ∧ j < 148 + 12 * n + c then 0 else N j
def s_belt1 (N : NN) (fr to cells : Int) : NN := clr (uI (uI (uI (uI (uI N (68 + N 1) fr) (84 + N 1) to) (100 + N 1) cells) (116 + N 1) 0) (132 + N 1) 1) (N 1) 12
def s_belt (N : NN) (fr to cells : Int) : RR :=
  if ¬ (0 ≤ fr ∧ fr < N 0) ∨ ¬ (0 ≤ to ∧ to < N 0) ∨ ¬ (1 ≤ cells ∧ cells ≤ 12) then fnd N (-1)
  else if fr = to then fnd N (-5)
  else if N (8 + fr) = 5 ∨ N (8 + to) = 0 then fnd N (-4)
  else if N 1 = 16 then fnd N (-3)
  else if N (8 + to) = 1 ∧ N (44 + to) = 0 then (N 1, uI (uI (uI (s_belt1 N fr to cells) (44 + to) (N 1 + 1)) (56 + to) 1) 1 (N 1 + 1), 0)
  else (N 1, uI (s_belt1 N fr to cells) 1 (N 1 + 1), 0)
def s_as (N : NN) (p kind : Int) : RR := if ¬ (0 ≤ p ∧ p < N 0) ∨ ¬ (0 ≤ kind ∧ kind ≤ 5) then fnd N (-1) else if N (8 + p) = kind then (p, N, 0) else fnd N (-4)
def s_turns (N : NN) (b v : Int) : RR :=
  if ¬ (0 ≤ b ∧ b < N 1) ∨ ¬ (0 ≤ v ∧ v ≤ 9) then fnd N (-1)
  else if N (8 + N (84 + b)) ≠ 1 then fnd N (-4)
  else if N (44 + N (84 + b)) = b + 1 ∧ v < N (56 + N (84 + b)) then (N (132 + b), uI (uI N (132 + b) v) (56 + N (84 + b)) v, 0)
  else (N (132 + b), uI N (132 + b) v, 0)
def s_flight (N : NN) (c o e : Int) : RR :=
  if ¬ (0 ≤ c ∧ c < N 0) ∨ ¬ (0 ≤ o ∧ o ≤ 5000) ∨ ¬ (0 ≤ e ∧ e ≤ 5000) ∨ e < o then fnd N (-1)
  else if N (8 + c) ≠ 5 then fnd N (-4)
  else if N 2 = 8 then fnd N (-3)
  else (N 2, uI (uI (uI (uI N (340 + N 2) c) (348 + N 2) o) (356 + N 2) e) 2 (N 2 + 1), 0)
def s_fall (N : NN) (b on : Int) : RR := if ¬ (0 ≤ b ∧ b < N 1) then fnd N (-1) else (if (if N (116 + b) = 1 then 1 else 0) = on then 0 else 1, uI N (116 + b) on, 0)
def liesN (N : NN) (g w p d : Int) : NN := uI (uI (uI N (484 + g) w) (544 + g) p) (604 + g) d
def waitsN (N : NN) (g p : Int) : NN := uI (liesN N g 0 p (N 5)) 5 (N 5 + 1)
/-- the bags that are so at such a place -/
def wP (N : NN) (w p : Int) : Int → Bool := fun g => decide (N (484 + g) = w ∧ N (544 + g) = p)
def s_bag (N : NN) (dk fl db : Int) : RR :=
  if ¬ (0 ≤ dk ∧ dk < N 0) ∨ ¬ (0 ≤ fl ∧ fl < N 2) then fnd N (-1)
  else if N (8 + dk) ≠ 0 then fnd N (-4)
  else if N 3 = 60 then fnd N (-3)
  else (N 3, uI (waitsN (uI (uI (uI N (364 + N 3) fl) (424 + N 3) db) (664 + N 3) 0) (N 3) dk) 3 (N 3 + 1), 0)
def s_take (N : NN) (g : Int) : RR :=
  if ¬ (0 ≤ g ∧ g < N 3) then fnd N (-1)
  else if 4 ≤ N (484 + g) then fnd N (-6)
  else if N (484 + g) = 1 then (1, liesN (uI N (148 + 12 * N (544 + g) + N (604 + g)) 0) g 4 (-100) 0, 0)
  else if N (484 + g) = 2 then (1, liesN (uI N (32 + N (544 + g)) 0) g 4 (-100) 0, 0)
  else (1, liesN N g 4 (-100) 0, 0)
def s_give (N : NN) (g dk db : Int) : RR :=
  if ¬ (0 ≤ g ∧ g < N 3) ∨ ¬ (0 ≤ dk ∧ dk < N 0) then fnd N (-1)
  else if N (8 + dk) ≠ 0 then fnd N (-4)
  else if N (484 + g) ≠ 4 then fnd N (-2)
  else (cntI (wP (waitsN (uI N (424 + g) db) g dk) 0 dk) (N 3), waitsN (uI N (424 + g) db) g dk, 0)
def s_where (N : NN) (g : Int) : RR := if 0 ≤ g ∧ g < N 3 then (N (484 + g), N, 0) else fnd N (-1)
def s_place (N : NN) (g : Int) : RR := if 0 ≤ g ∧ g < N 3 then (N (544 + g), N, 0) else fnd N (-1)
def s_detail (N : NN) (g : Int) : RR :=
  if ¬ (0 ≤ g ∧ g < N 3) then fnd N (-1)
  else if N (484 + g) = 4 then fnd N (-2)
  else if N (484 + g) ≠ 0 then (N (604 + g), N, 0)
  else (cntI (fun x => decide ((N (484 + x) = 0 ∧ N (544 + x) = N (544 + g)) ∧ N (604 + x) < N (604 + g))) (N 3), N, 0)
def s_steps (N : NN) (g : Int) : RR := if 0 ≤ g ∧ g < N 3 then (N (664 + g), N, 0) else fnd N (-1)
def s_step (N : NN) (g i tk : Int) : RR := if ¬ (0 ≤ g ∧ g < N 3) ∨ ¬ (0 ≤ i ∧ i < N (664 + g) ∧ i < 30) then fnd N (-1) else (N ((if tk = 0 then 724 else 2524) + 30 * g + i), N, 0)
def s_cell (N : NN) (b c : Int) : RR := if ¬ (0 ≤ b ∧ b < N 1) ∨ ¬ (0 ≤ c ∧ c < N (100 + b)) then fnd N (-1) else if N (148 + 12 * b + c) - 1 < 0 then fnd N (-2) else (N (148 + 12 * b + c) - 1, N, 0)
def s_holds (N : NN) (p : Int) : RR := if ¬ (0 ≤ p ∧ p < N 0) then fnd N (-1) else if ¬ (1 ≤ N (8 + p) ∧ N (8 + p) ≤ 3) then fnd N (-4) else if N (32 + p) = 0 then fnd N (-2) else (N (32 + p) - 1, N, 0)
/-- how many stand ahead of g among those -/
def aheadN (N : NN) (g w p : Int) : Int := cntI (fun x => decide ((N (484 + x) = w ∧ N (544 + x) = p) ∧ (N (604 + x) < N (604 + g) ∨ (N (604 + x) = N (604 + g) ∧ x < g)))) (N 3)
def s_list (N : NN) (p i : Int) : RR :=
  if ¬ (0 ≤ p ∧ p < N 0) then fnd N (-1)
  else if N (8 + p) ≠ 0 ∧ N (8 + p) ≠ 4 then fnd N (-4)
  else if i = -1 then (cntI (wP N (if N (8 + p) = 0 then 0 else 3) p) (N 3), N, 0)
  else if ¬ (0 ≤ i ∧ i < cntI (wP N (if N (8 + p) = 0 then 0 else 3) p) (N 3)) then fnd N (-2)
  else if fstI (fun g => decide ((N (484 + g) = (if N (8 + p) = 0 then 0 else 3) ∧ N (544 + g) = p) ∧ aheadN N g (if N (8 + p) = 0 then 0 else 3) p = i)) 0 (N 3) = -1 then fnd N (-2)
  else (fstI (fun g => decide ((N (484 + g) = (if N (8 + p) = 0 then 0 else 3) ∧ N (544 + g) = p) ∧ aheadN N g (if N (8 + p) = 0 then 0 else 3) p = i)) 0 (N 3), N, 0)
def s_flown (N : NN) (fl w : Int) : RR :=
  if ¬ (0 ≤ fl ∧ fl < N 2) ∨ ¬ (0 ≤ w ∧ w ≤ 6) then fnd N (-1)
  else if w < 3 then (N ((if w = 0 then 340 else if w = 1 then 348 else 356) + fl), N, 0)
  else (cntI (fun g => decide (N (364 + g) = fl ∧ (w = 6 ∨ N (484 + g) = 5 + w - 3))) (N 3), N, 0)
def s_count (N : NN) (f w : Int) : RR :=
  if ¬ (0 ≤ w ∧ w ≤ 14) then fnd N (-1)
  else if w = 8 then (N 3, N, 0) else if w = 9 then (N 0, N, 0) else if w = 10 then (N 1, N, 0) else if w = 11 then (N 2, N, 0)
  else if w = 12 then (cntI (fun g => decide (N (484 + g) = w)) (N 3) + cntI (fun b => decide (N (116 + b) = 1)) (N 1), N, 0)
  else if w = 13 then (N 4, N, 0) else if w = 14 then (f, N, 0)
  else (cntI (fun g => decide (N (484 + g) = w)) (N 3), N, 0)
/-! FAR -/
/-- one belt looked at: F with from made shorter, if it can be -/
def rlx (N : NN) (ch : Int) (F : NN) (b : Int) : NN :=
  if N (116 + b) = 1 ∨ ¬ (N (84 + b) = ch ∨ (N (8 + N (84 + b)) ≠ 0 ∧ N (8 + N (84 + b)) ≠ 5)) ∨ F (N (84 + b)) < 0 then F
  else if F (N (68 + b)) < 0 ∨ N (100 + b) + F (N (84 + b)) < F (N (68 + b)) then uI F (N (68 + b)) (N (100 + b) + F (N (84 + b))) else F
def rnd (N : NN) (ch : Int) (F : NN) : Nat → NN
  | 0 => F
  | b + 1 => rlx N ch (rnd N ch F b) b
def far0 (ch : Int) : NN := fun p => if p = ch then 0 else -1
def farI (N : NN) (ch : Int) : Nat → NN
  | 0 => far0 ch
  | m + 1 => rnd N ch (farI N ch m) (N 1).toNat
/-- FAR of all points to the chute ch (-1: no way) -/
def farS (N : NN) (ch : Int) : NN := farI N ch 12
def bestO (N : NN) (F : NN) (p : Int) : Int := mnI (fun b => decide (N (68 + b) = p ∧ N (116 + b) ≠ 1 ∧ 0 ≤ F (N (84 + b)))) (fun b => N (100 + b) + F (N (84 + b))) (N 1)
def outF (N : NN) (p fl : Int) : Int := bestO N (farS N (N (340 + fl))) p
def s_far (N : NN) (p ch : Int) : RR :=
  if ¬ (0 ≤ p ∧ p < N 0) ∨ ¬ (0 ≤ ch ∧ ch < N 0) then fnd N (-1)
  else if N (8 + ch) ≠ 5 then fnd N (-4)
  else if farS N ch p < 0 then fnd N (-2) else (farS N ch p, N, 0)
def s_route (N : NN) (p fl : Int) : RR :=
  if ¬ (0 ≤ p ∧ p < N 0) ∨ ¬ (0 ≤ fl ∧ fl < N 2) then fnd N (-1)
  else if N (8 + p) ≠ 3 then fnd N (-4)
  else if outF N p fl < 0 then fnd N (-2) else (outF N p fl, N, 0)
/-! the tick -/
def goesN (N : NN) (g p : Int) : NN := uI (if N (664 + g) < 30 then uI (uI N (724 + 30 * g + N (664 + g)) p) (2524 + 30 * g + N (664 + g)) (N 4) else N) (664 + g) (N (664 + g) + 1)
def outS (N : NN) (p : Int) : Int := fstI (fun b => decide (N (68 + b) = p ∧ N (116 + b) = 0)) 0 (N 1)
def outA (N : NN) (p w : Int) : Int := fstI (fun b => decide (N (68 + b) = p) && decide (cntI (fun x => decide (N (68 + x) = p)) b = w)) 0 (N 1)
def freeB (N : NN) (b : Int) : Bool := decide (0 ≤ b ∧ N (116 + b) = 0 ∧ N (148 + 12 * b) = 0)
def putN (N : NN) (g b : Int) : NN := liesN (uI N (148 + 12 * b) (g + 1)) g 1 b 0
def fstW (N : NN) (p : Int) : Int := mnI (wP N 0 p) (fun g => N (604 + g)) (N 3)
def fstO (N : NN) (p : Int) : Int := mnI (fun g => decide ((N (484 + g) = 3 ∧ N (544 + g) = p) ∧ N (348 + N (364 + g)) ≤ N 4)) (fun g => N (604 + g)) (N 3)
def scrN (N : NN) (p g : Int) : Int := if N 4 < N (604 + g) + N (20 + p) then -1 else if N (424 + g) = 1 ∧ 0 ≤ outA N p 1 then outA N p 1 else outA N p 0
/-- what a point that isn't a desk or a store sends its bag by -/
def beltN (N : NN) (p g : Int) : Int := if N (8 + p) = 1 then outS N p else if N (8 + p) = 2 then scrN N p g else outF N p (N (364 + g))
/-- (1) of a tick, at one point -/
def gvN (N G : NN) (p : Int) : NN × NN :=
  if N (8 + p) = 0 then (if 0 ≤ fstW N p ∧ freeB N (outS N p) = true then (goesN (putN N (fstW N p) (outS N p)) (fstW N p) p, uI G (fstW N p) 1) else (N, G))
  else if N (8 + p) = 4 then (if 0 ≤ fstO N p ∧ freeB N (outS N p) = true then (putN N (fstO N p) (outS N p), uI G (fstO N p) 1) else (N, G))
  else if N (8 + p) = 5 ∨ N (32 + p) - 1 < 0 then (N, G)
  else if freeB N (beltN N p (N (32 + p) - 1)) = true then (uI (putN N (N (32 + p) - 1) (beltN N p (N (32 + p) - 1))) (32 + p) 0, uI G (N (32 + p) - 1) 1)
  else (N, G)
/-- (2), one cell -/
def mv1 (N G : NN) (b c : Int) : NN :=
  if N (148 + 12 * b + c) - 1 < 0 ∨ G (N (148 + 12 * b + c) - 1) ≠ 0 ∨ N (148 + 12 * b + c + 1) ≠ 0 then N
  else uI (uI (uI N (148 + 12 * b + c + 1) (N (148 + 12 * b + c) - 1 + 1)) (148 + 12 * b + c) 0) (604 + (N (148 + 12 * b + c) - 1)) (c + 1)
def mvs (G : NN) (b : Int) : Nat → NN → NN
  | 0, N => N
  | c + 1, N => mvs G b c (mv1 N G b c)
def mvN (N G : NN) (b : Int) : NN := if N (116 + b) = 1 then N else mvs G b (N (100 + b) - 1).toNat N
/-- the bag that an inlet has ready, or -1 -/
def rdyN (N G : NN) (b : Int) : Int := if N (116 + b) = 1 then -1 else if N (148 + 12 * b + N (100 + b) - 1) - 1 < 0 ∨ G (N (148 + 12 * b + N (100 + b) - 1) - 1) ≠ 0 then -1 else N (148 + 12 * b + N (100 + b) - 1) - 1
def tkN (N G : NN) (b p w : Int) : NN :=
  goesN (if w = 2 then uI (liesN (uI N (148 + 12 * b + N (100 + b) - 1) 0) (rdyN N G b) w p (N 4)) (32 + p) (rdyN N G b + 1) else liesN (uI N (148 + 12 * b + N (100 + b) - 1) 0) (rdyN N G b) w p (N 4)) (rdyN N G b) p
def rdyI (N G : NN) (p : Int) : Int := fstI (fun b => decide (N (84 + b) = p ∧ 0 ≤ rdyN N G b)) 0 (N 1)
def inl (N : NN) (p : Int) : Int → Bool := fun b => decide (N (84 + b) = p)
def nxtI (N : NN) (p b : Int) : Int := if 0 ≤ fstI (inl N p) (b + 1) (N 1) then fstI (inl N p) (b + 1) (N 1) else fstI (inl N p) 0 (N 1)
/-- the next inlet of a merge is at hand -/
def pasN (N : NN) (p : Int) : NN := uI (uI N (44 + p) (nxtI N p (N (44 + p) - 1) + 1)) (56 + p) (N (132 + nxtI N p (N (44 + p) - 1)))
def mgs (G : NN) (p : Int) : Nat → NN → NN
  | 0, N => N
  | m + 1, N => if 0 < N (56 + p) ∧ 0 ≤ rdyN N G (N (44 + p) - 1) then tkN (uI N (56 + p) (N (56 + p) - 1)) G (N (44 + p) - 1) p 2 else if m = 0 then N else mgs G p m (pasN N p)
def mgN (N G : NN) (p : Int) : NN := if 0 < cntI (inl N p) (N 1) then mgs G p (cntI (inl N p) (N 1) + 1).toNat N else N
def chW (N G : NN) (b p : Int) : Int := if N (340 + N (364 + rdyN N G b)) ≠ p then 7 else if N 4 < N (356 + N (364 + rdyN N G b)) then 5 else 6
def ch1 (G : NN) (p : Int) (N : NN) (b : Int) : NN := if N (84 + b) = p ∧ 0 ≤ rdyN N G b then tkN N G b p (chW N G b p) else N
def chs (G : NN) (p : Int) (N : NN) : Nat → NN
  | 0 => N
  | b + 1 => ch1 G p (chs G p N b) b
/-- (3), at one point -/
def tkA (N G : NN) (p : Int) : NN :=
  if N (8 + p) = 5 then chs G p N (N 1).toNat
  else if N (8 + p) = 4 then (if 0 ≤ rdyI N G p ∧ cntI (wP N 3 p) (N 3) < N (20 + p) then tkN N G (rdyI N G p) p 3 else N)
  else if N (8 + p) = 0 ∨ N (32 + p) ≠ 0 then N
  else if N (8 + p) = 1 then mgN N G p
  else if 0 ≤ rdyI N G p then tkN N G (rdyI N G p) p 2 else N
def gvs (N G : NN) : Nat → NN × NN
  | 0 => (N, G)
  | p + 1 => gvN (gvs N G p).1 (gvs N G p).2 p
def mvA (N G : NN) : Nat → NN
  | 0 => N
  | b + 1 => mvN (mvA N G b) G b
def tks (N G : NN) : Nat → NN
  | 0 => N
  | p + 1 => tkA (tks N G p) G p
def g0 : NN := fun _ => 0
def tick1 (N : NN) : NN := uI (tks (mvA (gvs N g0 (N 0).toNat).1 (gvs N g0 (N 0).toNat).2 (N 1).toNat) (gvs N g0 (N 0).toNat).2 (N 0).toNat) 4 (N 4 + 1)
def ticks (N : NN) : Nat → NN
  | 0 => N
  | m + 1 => tick1 (ticks N m)
def s_tick (N : NN) (m : Int) : RR := if ¬ (1 ≤ m ∧ m ≤ 100) then fnd N (-1) else (ticks N m.toNat 4, ticks N m.toNat, 0)
/-! leaves of a walk -/
theorem lf1 {σ : SS} {K G F : NN} {k f : Int} {s : RR} {x : Int} {N' : NN} (h : s = (x, N', 1)) : some (vi x) = some (vi s.1) ∧ mkS σ N' K G F k (f + 1) = mkS σ s.2.1 K G F k (f + s.2.2) := by
  subst h; exact ⟨rfl, rfl⟩
theorem lf0 {σ : SS} {K G F : NN} {k f : Int} {s : RR} {x : Int} {N' : NN} (h : s = (x, N', 0)) : some (vi x) = some (vi s.1) ∧ mkS σ N' K G F k f = mkS σ s.2.1 K G F k (f + s.2.2) := by
  subst h; exact ⟨rfl, by rw [Int.add_zero]⟩
theorem inR_uI {N : NN} {x v : Int} (h : ∀ j, inR (N j)) (hv : inR v) (j : Int) : inR (uI N x v j) := by
  unfold uI
  split
  · exact hv
  · exact h j
section MRE
variable {g : GG} {R : Room} {mi : MI} {Z : List Frame → Array Value → State → State → Prop} {E : Array Value → State → Prop} {pc nx : Nat} {lv : List (Nat × Value)} {st : List Value} {kp : Bool} {σ : SS} {N K G F : Int → Int} {k f : Int} {ca sl : Nat}
theorem m_ald10e {x z : Int} (hd : decode mi.2.1 pc = .ok (.iaload, 1)) (hn : pc + 1 = nx) (h0 : 0 ≤ x ∧ x < 4324) (hv : N x = z) (kk : V g R mi Z E nx lv (vi z :: st) (vw g kp (mkS σ N K G F k f)) (sz kp) ca sl) : V g R mi Z E pc lv (vi x :: rf g (ad 10 0 0) :: st) (vw g kp (mkS σ N K G F k f)) (sz kp) ca sl := by
  subst hv
  exact m_ald10 hd hn h0 kk
/-- the top of the stack named anew -/
theorem v_top {z z' : Int} {φ : Nat → ce} {n : Nat} (h : z = z') (kk : V g R mi Z E pc lv (vi z' :: st) φ n ca sl) : V g R mi Z E pc lv (vi z :: st) φ n ca sl := by
  subst h
  exact kk
end MRE
theorem cn_t {P : Int → Bool} {c x : Int} (hc : c = cntI P x) (h0 : 0 ≤ x) (h : P x = true) : c + 1 = cntI P (x + 1) := by
  rw [cntI_s h0, if_pos h, hc]
theorem cn_f {P : Int → Bool} {c x : Int} (hc : c = cntI P x) (h0 : 0 ≤ x) (h : P x = false) : c + 0 = cntI P (x + 1) := by
  rw [cntI_s h0, if_neg (by rw [h]; decide), hc]
theorem cn_n {P : Int → Bool} {c x : Int} (hc : c = cntI P x) (h0 : 0 ≤ x) (h : P x = false) : c = cntI P (x + 1) := by
  rw [cntI_s h0, if_neg (by rw [h]; decide), hc, Int.add_zero]
theorem mn_t {P : Int → Bool} {K : Int → Int} {c x : Int} (hc : c = mnI P K x) (h0 : 0 ≤ x) (h : P x = true) (h2 : c < 0 ∨ K x < K c) : x = mnI P K (x + 1) := by
  rw [mnI_s h0, if_pos ⟨h, by rw [← hc]; exact h2⟩]
theorem mn_f {P : Int → Bool} {K : Int → Int} {c x : Int} (hc : c = mnI P K x) (h0 : 0 ≤ x) (h : P x = false ∨ ¬ (c < 0 ∨ K x < K c)) : c = mnI P K (x + 1) := by
  rw [mnI_s h0, ← hc, if_neg]
  rintro ⟨a, b⟩
  rcases h with h | h
  · rw [h] at a; cases a
  · exact h b
end
section
set_option maxRecDepth 100000 in
theorem c_X7_point {g : GG} {kp : Bool} {σ : SS} {N K G F : Int → Int} {k f : Int} (hR : ∀ j, inR (N j)) (kind : Int) (v : Int) (hkind : inR kind) (hv : inR v) (b0 : 0 ≤ N 0 ∧ N 0 ≤ 12) (b1 : 0 ≤ N 1 ∧ N 1 ≤ 16) (b2 : 0 ≤ N 2 ∧ N 2 ≤ 8) (b3 : 0 ≤ N 3 ∧ N 3 ≤ 60) : XC g kp 2 mX7_point [rf g (ad 14 0 0), vi kind, vi v] (mkS σ N K G F k f) (some (vi (s_point N kind v).1)) (mkS σ (s_point N kind v).2.1 K G F k (f + (s_point N kind v).2.2)) := by
  refine TC.of (by decide) (Nat.le_of_ble_eq_true rfl) rfl ?_
  refine v_iload_n 1 dX7_point_0 (nx := 1) rfl rfl ?_
  refine v_iconst dX7_point_1 (nx := 2) rfl ?_
  refine v_iconst dX7_point_2 (nx := 3) rfl ?_
  refine t_callSi (c_X7_in _ _ _ (by first | assumption | exact hR _ | exact ⟨by omega, by omega⟩) (by first | assumption | exact hR _ | exact ⟨by omega, by omega⟩) (by first | assumption | exact hR _ | exact ⟨by omega, by omega⟩)) dX7_point_3 (nx := 6) rfl kX7_in ml_X7_27 rfl rfl (Nat.le_of_ble_eq_true rfl) ⟨by decide, by decide⟩ ⟨by decide, by decide⟩ ?_
  refine v_ifB_eq dX7_point_6 (tgt := 39) (by decide) (nx := 9) rfl (fun c6 => ?_) (fun c6 => ?_)
  · refine v_aload_n 0 dX7_point_39 (nx := 40) rfl rfl ?_
    refine v_iconst dX7_point_40 (nx := 41) rfl ?_
    refine t_callVi (a := 14) (c_X7_finding _) dX7_point_41 (nx := 44) rfl kX7_finding ml_X7_31 (by decide) (ok_m 14 rfl) rfl rfl rfl rfl (Nat.le_of_ble_eq_true rfl) ⟨by decide, by decide⟩ ⟨by decide, by decide⟩ ?_
    exact t_iret dX7_point_44 rfl (by first | exact lf1 (by unfold s_point; (repeat (first | rewrite [if_pos (by omega)] | rewrite [if_neg (by omega)])); first | rfl | (refine Prod.ext rfl (Prod.ext (congrArg (uI _ _) ?_) rfl); unfold uI; (repeat rw [if_neg (by omega)]))) | exact lf0 (by unfold s_point; (repeat (first | rewrite [if_pos (by omega)] | rewrite [if_neg (by omega)])); first | rfl | (refine Prod.ext rfl (Prod.ext (congrArg (uI _ _) ?_) rfl); unfold uI; (repeat rw [if_neg (by omega)]))) | (exfalso; omega))
  · refine v_iload_n 1 dX7_point_9 (nx := 10) rfl rfl ?_
    refine v_iconst dX7_point_10 (nx := 11) rfl ?_
    refine v_icmp_ne dX7_point_11 (tgt := 24) (by decide) (nx := 14) rfl (by first | assumption | exact hR _ | exact ⟨by omega, by omega⟩) (by first | assumption | exact hR _ | exact ⟨by omega, by omega⟩) (fun c11 => ?_) (fun c11 => ?_)
    · refine v_iload_n 1 dX7_point_24 (nx := 25) rfl rfl ?_
      refine v_iconst dX7_point_25 (nx := 26) rfl ?_
      refine v_icmp_ne dX7_point_26 (tgt := 45) (by decide) (nx := 29) rfl (by first | assumption | exact hR _ | exact ⟨by omega, by omega⟩) (by first | assumption | exact hR _ | exact ⟨by omega, by omega⟩) (fun c26 => ?_) (fun c26 => ?_)
      · refine v_aload_n 0 dX7_point_45 (nx := 46) rfl rfl ?_
        refine m_gA 10 (p := 0) dX7_point_46 (nx := 49) rfl (by decide) fl_X7_9 rfl ?_
        refine v_iconst dX7_point_49 (nx := 50) rfl ?_
        refine m_ald10 dX7_point_50 (nx := 51) rfl ⟨by omega, by omega⟩ ?_
        refine v_istore_n dX7_point_51 (nx := 52) rfl rfl (by decide) ?_
        refine v_iload_n 3 dX7_point_52 (nx := 53) rfl rfl ?_
        refine v_bipush dX7_point_53 (nx := 55) rfl rfl ?_
        refine v_icmp_ne dX7_point_55 (tgt := 65) (by decide) (nx := 58) rfl (by first | assumption | exact hR _ | exact ⟨by omega, by omega⟩) (by first | assumption | exact hR _ | exact ⟨by omega, by omega⟩) (fun c55 => ?_) (fun c55 => ?_)
        · refine v_aload_n 0 dX7_point_65 (nx := 66) rfl rfl ?_
          refine m_gA 10 (p := 0) dX7_point_66 (nx := 69) rfl (by decide) fl_X7_9 rfl ?_
          refine v_bipush dX7_point_69 (nx := 71) rfl rfl ?_
          refine v_iload_n 3 dX7_point_71 (nx := 72) rfl rfl ?_
          refine v_iadd dX7_point_72 (nx := 73) rfl ?_
          refine v_iload_n 1 dX7_point_73 (nx := 74) rfl rfl ?_
          refine m_ast10 dX7_point_74 (nx := 75) rfl ⟨by omega, by omega⟩ ?_
          refine v_aload_n 0 dX7_point_75 (nx := 76) rfl rfl ?_
          refine m_gA 10 (p := 0) dX7_point_76 (nx := 79) rfl (by decide) fl_X7_9 rfl ?_
          refine v_bipush dX7_point_79 (nx := 81) rfl rfl ?_
          refine v_iload_n 3 dX7_point_81 (nx := 82) rfl rfl ?_
          refine v_iadd dX7_point_82 (nx := 83) rfl ?_
          refine v_iload_n 2 dX7_point_83 (nx := 84) rfl rfl ?_
          refine m_ast10 dX7_point_84 (nx := 85) rfl ⟨by omega, by omega⟩ ?_
          refine v_aload_n 0 dX7_point_85 (nx := 86) rfl rfl ?_
          refine m_gA 10 (p := 0) dX7_point_86 (nx := 89) rfl (by decide) fl_X7_9 rfl ?_
          refine v_bipush dX7_point_89 (nx := 91) rfl rfl ?_
          refine v_iload_n 3 dX7_point_91 (nx := 92) rfl rfl ?_
          refine v_iadd dX7_point_92 (nx := 93) rfl ?_
          refine v_iconst dX7_point_93 (nx := 94) rfl ?_
          refine m_ast10 dX7_point_94 (nx := 95) rfl ⟨by omega, by omega⟩ ?_
          refine v_aload_n 0 dX7_point_95 (nx := 96) rfl rfl ?_
          refine m_gA 10 (p := 0) dX7_point_96 (nx := 99) rfl (by decide) fl_X7_9 rfl ?_
          refine v_bipush dX7_point_99 (nx := 101) rfl rfl ?_
          refine v_iload_n 3 dX7_point_101 (nx := 102) rfl rfl ?_
          refine v_iadd dX7_point_102 (nx := 103) rfl ?_
          refine v_iconst dX7_point_103 (nx := 104) rfl ?_
          refine m_ast10 dX7_point_104 (nx := 105) rfl ⟨by omega, by omega⟩ ?_
          refine v_aload_n 0 dX7_point_105 (nx := 106) rfl rfl ?_
          refine m_gA 10 (p := 0) dX7_point_106 (nx := 109) rfl (by decide) fl_X7_9 rfl ?_
          refine v_bipush dX7_point_109 (nx := 111) rfl rfl ?_
          refine v_iload_n 3 dX7_point_111 (nx := 112) rfl rfl ?_
          refine v_iadd dX7_point_112 (nx := 113) rfl ?_
          refine v_iconst dX7_point_113 (nx := 114) rfl ?_
          refine m_ast10 dX7_point_114 (nx := 115) rfl ⟨by omega, by omega⟩ ?_
          refine v_aload_n 0 dX7_point_115 (nx := 116) rfl rfl ?_
          refine m_gA 10 (p := 0) dX7_point_116 (nx := 119) rfl (by decide) fl_X7_9 rfl ?_
          refine v_iconst dX7_point_119 (nx := 120) rfl ?_
          refine v_dup2 dX7_point_120 (nx := 121) rfl rfl rfl ?_
          refine m_ald10 dX7_point_121 (nx := 122) rfl ⟨by omega, by omega⟩ ?_
          refine v_iconst dX7_point_122 (nx := 123) rfl ?_
          refine v_iadd dX7_point_123 (nx := 124) rfl ?_
          refine m_ast10 dX7_point_124 (nx := 125) rfl ⟨by omega, by omega⟩ ?_
          refine v_iload_n 3 dX7_point_125 (nx := 126) rfl rfl ?_
          exact t_iret dX7_point_126 rfl (by first | exact lf1 (by unfold s_point; (repeat (first | rewrite [if_pos (by omega)] | rewrite [if_neg (by omega)])); first | rfl | (refine Prod.ext rfl (Prod.ext (congrArg (uI _ _) ?_) rfl); unfold uI; (repeat rw [if_neg (by omega)]))) | exact lf0 (by unfold s_point; (repeat (first | rewrite [if_pos (by omega)] | rewrite [if_neg (by omega)])); first | rfl | (refine Prod.ext rfl (Prod.ext (congrArg (uI _ _) ?_) rfl); unfold uI; (repeat rw [if_neg (by omega)]))) | (exfalso; omega))
        · refine v_aload_n 0 dX7_point_58 (nx := 59) rfl rfl ?_
          refine v_bipush dX7_point_59 (nx := 61) rfl rfl ?_
          refine t_callVi (a := 14) (c_X7_finding _) dX7_point_61 (nx := 64) rfl kX7_finding ml_X7_31 (by decide) (ok_m 14 rfl) rfl rfl rfl rfl (Nat.le_of_ble_eq_true rfl) ⟨by decide, by decide⟩ ⟨by decide, by decide⟩ ?_
          exact t_iret dX7_point_64 rfl (by first | exact lf1 (by unfold s_point; (repeat (first | rewrite [if_pos (by omega)] | rewrite [if_neg (by omega)])); first | rfl | (refine Prod.ext rfl (Prod.ext (congrArg (uI _ _) ?_) rfl); unfold uI; (repeat rw [if_neg (by omega)]))) | exact lf0 (by unfold s_point; (repeat (first | rewrite [if_pos (by omega)] | rewrite [if_neg (by omega)])); first | rfl | (refine Prod.ext rfl (Prod.ext (congrArg (uI _ _) ?_) rfl); unfold uI; (repeat rw [if_neg (by omega)]))) | (exfalso; omega))
      · refine v_iload_n 2 dX7_point_29 (nx := 30) rfl rfl ?_
        refine v_iconst dX7_point_30 (nx := 31) rfl ?_
        refine v_bipush dX7_point_31 (nx := 33) rfl rfl ?_
        refine t_callSi (c_X7_in _ _ _ (by first | assumption | exact hR _ | exact ⟨by omega, by omega⟩) (by first | assumption | exact hR _ | exact ⟨by omega, by omega⟩) (by first | assumption | exact hR _ | exact ⟨by omega, by omega⟩)) dX7_point_33 (nx := 36) rfl kX7_in ml_X7_27 rfl rfl (Nat.le_of_ble_eq_true rfl) ⟨by decide, by decide⟩ ⟨by decide, by decide⟩ ?_
        refine v_ifB_ne dX7_point_36 (tgt := 45) (by decide) (nx := 39) rfl (fun c36 => ?_) (fun c36 => ?_)
        · refine v_aload_n 0 dX7_point_45 (nx := 46) rfl rfl ?_
          refine m_gA 10 (p := 0) dX7_point_46 (nx := 49) rfl (by decide) fl_X7_9 rfl ?_
          refine v_iconst dX7_point_49 (nx := 50) rfl ?_
          refine m_ald10 dX7_point_50 (nx := 51) rfl ⟨by omega, by omega⟩ ?_
          refine v_istore_n dX7_point_51 (nx := 52) rfl rfl (by decide) ?_
          refine v_iload_n 3 dX7_point_52 (nx := 53) rfl rfl ?_
          refine v_bipush dX7_point_53 (nx := 55) rfl rfl ?_
          refine v_icmp_ne dX7_point_55 (tgt := 65) (by decide) (nx := 58) rfl (by first | assumption | exact hR _ | exact ⟨by omega, by omega⟩) (by first | assumption | exact hR _ | exact ⟨by omega, by omega⟩) (fun c55 => ?_) (fun c55 => ?_)
          · refine v_aload_n 0 dX7_point_65 (nx := 66) rfl rfl ?_
            refine m_gA 10 (p := 0) dX7_point_66 (nx := 69) rfl (by decide) fl_X7_9 rfl ?_
            refine v_bipush dX7_point_69 (nx := 71) rfl rfl ?_
            refine v_iload_n 3 dX7_point_71 (nx := 72) rfl rfl ?_
            refine v_iadd dX7_point_72 (nx := 73) rfl ?_
            refine v_iload_n 1 dX7_point_73 (nx := 74) rfl rfl ?_
            refine m_ast10 dX7_point_74 (nx := 75) rfl ⟨by omega, by omega⟩ ?_
            refine v_aload_n 0 dX7_point_75 (nx := 76) rfl rfl ?_
            refine m_gA 10 (p := 0) dX7_point_76 (nx := 79) rfl (by decide) fl_X7_9 rfl ?_
            refine v_bipush dX7_point_79 (nx := 81) rfl rfl ?_
            refine v_iload_n 3 dX7_point_81 (nx := 82) rfl rfl ?_
            refine v_iadd dX7_point_82 (nx := 83) rfl ?_
            refine v_iload_n 2 dX7_point_83 (nx := 84) rfl rfl ?_
            refine m_ast10 dX7_point_84 (nx := 85) rfl ⟨by omega, by omega⟩ ?_
            refine v_aload_n 0 dX7_point_85 (nx := 86) rfl rfl ?_
            refine m_gA 10 (p := 0) dX7_point_86 (nx := 89) rfl (by decide) fl_X7_9 rfl ?_
            refine v_bipush dX7_point_89 (nx := 91) rfl rfl ?_
            refine v_iload_n 3 dX7_point_91 (nx := 92) rfl rfl ?_
            refine v_iadd dX7_point_92 (nx := 93) rfl ?_
            refine v_iconst dX7_point_93 (nx := 94) rfl ?_
            refine m_ast10 dX7_point_94 (nx := 95) rfl ⟨by omega, by omega⟩ ?_
            refine v_aload_n 0 dX7_point_95 (nx := 96) rfl rfl ?_
            refine m_gA 10 (p := 0) dX7_point_96 (nx := 99) rfl (by decide) fl_X7_9 rfl ?_
            refine v_bipush dX7_point_99 (nx := 101) rfl rfl ?_
            refine v_iload_n 3 dX7_point_101 (nx := 102) rfl rfl ?_
            refine v_iadd dX7_point_102 (nx := 103) rfl ?_
            refine v_iconst dX7_point_103 (nx := 104) rfl ?_
            refine m_ast10 dX7_point_104 (nx := 105) rfl ⟨by omega, by omega⟩ ?_
            refine v_aload_n 0 dX7_point_105 (nx := 106) rfl rfl ?_
            refine m_gA 10 (p := 0) dX7_point_106 (nx := 109) rfl (by decide) fl_X7_9 rfl ?_
            refine v_bipush dX7_point_109 (nx := 111) rfl rfl ?_
            refine v_iload_n 3 dX7_point_111 (nx := 112) rfl rfl ?_
            refine v_iadd dX7_point_112 (nx := 113) rfl ?_
            refine v_iconst dX7_point_113 (nx := 114) rfl ?_
            refine m_ast10 dX7_point_114 (nx := 115) rfl ⟨by omega, by omega⟩ ?_
            refine v_aload_n 0 dX7_point_115 (nx := 116) rfl rfl ?_
            refine m_gA 10 (p := 0) dX7_point_116 (nx := 119) rfl (by decide) fl_X7_9 rfl ?_
            refine v_iconst dX7_point_119 (nx := 120) rfl ?_
            refine v_dup2 dX7_point_120 (nx := 121) rfl rfl rfl ?_
            refine m_ald10 dX7_point_121 (nx := 122) rfl ⟨by omega, by omega⟩ ?_
            refine v_iconst dX7_point_122 (nx := 123) rfl ?_
            refine v_iadd dX7_point_123 (nx := 124) rfl ?_
            refine m_ast10 dX7_point_124 (nx := 125) rfl ⟨by omega, by omega⟩ ?_
            refine v_iload_n 3 dX7_point_125 (nx := 126) rfl rfl ?_
            exact t_iret dX7_point_126 rfl (by first | exact lf1 (by unfold s_point; (repeat (first | rewrite [if_pos (by omega)] | rewrite [if_neg (by omega)])); first | rfl | (refine Prod.ext rfl (Prod.ext (congrArg (uI _ _) ?_) rfl); unfold uI; (repeat rw [if_neg (by omega)]))) | exact lf0 (by unfold s_point; (repeat (first | rewrite [if_pos (by omega)] | rewrite [if_neg (by omega)])); first | rfl | (refine Prod.ext rfl (Prod.ext (congrArg (uI _ _) ?_) rfl); unfold uI; (repeat rw [if_neg (by omega)]))) | (exfalso; omega))
          · refine v_aload_n 0 dX7_point_58 (nx := 59) rfl rfl ?_
            refine v_bipush dX7_point_59 (nx := 61) rfl rfl ?_
            refine t_callVi (a := 14) (c_X7_finding _) dX7_point_61 (nx := 64) rfl kX7_finding ml_X7_31 (by decide) (ok_m 14 rfl) rfl rfl rfl rfl (Nat.le_of_ble_eq_true rfl) ⟨by decide, by decide⟩ ⟨by decide, by decide⟩ ?_
            exact t_iret dX7_point_64 rfl (by first | exact lf1 (by unfold s_point; (repeat (first | rewrite [if_pos (by omega)] | rewrite [if_neg (by omega)])); first | rfl | (refine Prod.ext rfl (Prod.ext (congrArg (uI _ _) ?_) rfl); unfold uI; (repeat rw [if_neg (by omega)]))) | exact lf0 (by unfold s_point; (repeat (first | rewrite [if_pos (by omega)] | rewrite [if_neg (by omega)])); first | rfl | (refine Prod.ext rfl (Prod.ext (congrArg (uI _ _) ?_) rfl); unfold uI; (repeat rw [if_neg (by omega)]))) | (exfalso; omega))
        · refine v_aload_n 0 dX7_point_39 (nx := 40) rfl rfl ?_
          refine v_iconst dX7_point_40 (nx := 41) rfl ?_
          refine t_callVi (a := 14) (c_X7_finding _) dX7_point_41 (nx := 44) rfl kX7_finding ml_X7_31 (by decide) (ok_m 14 rfl) rfl rfl rfl rfl (Nat.le_of_ble_eq_true rfl) ⟨by decide, by decide⟩ ⟨by decide, by decide⟩ ?_
          exact t_iret dX7_point_44 rfl (by first | exact lf1 (by unfold s_point; (repeat (first | rewrite [if_pos (by omega)] | rewrite [if_neg (by omega)])); first | rfl | (refine Prod.ext rfl (Prod.ext (congrArg (uI _ _) ?_) rfl); unfold uI; (repeat rw [if_neg (by omega)]))) | exact lf0 (by unfold s_point; (repeat (first | rewrite [if_pos (by omega)] | rewrite [if_neg (by omega)])); first | rfl | (refine Prod.ext rfl (Prod.ext (congrArg (uI _ _) ?_) rfl); unfold uI; (repeat rw [if_neg (by omega)]))) | (exfalso; omega))
    · refine v_iload_n 2 dX7_point_14 (nx := 15) rfl rfl ?_
      refine v_iconst dX7_point_15 (nx := 16) rfl ?_
      refine v_bipush dX7_point_16 (nx := 18) rfl rfl ?_
      refine t_callSi (c_X7_in _ _ _ (by first | assumption | exact hR _ | exact ⟨by omega, by omega⟩) (by first | assumption | exact hR _ | exact ⟨by omega, by omega⟩) (by first | assumption | exact hR _ | exact ⟨by omega, by omega⟩)) dX7_point_18 (nx := 21) rfl kX7_in ml_X7_27 rfl rfl (Nat.le_of_ble_eq_true rfl) ⟨by decide, by decide⟩ ⟨by decide, by decide⟩ ?_
      refine v_ifB_eq dX7_point_21 (tgt := 39) (by decide) (nx := 24) rfl (fun c21 => ?_) (fun c21 => ?_)
      · refine v_aload_n 0 dX7_point_39 (nx := 40) rfl rfl ?_
        refine v_iconst dX7_point_40 (nx := 41) rfl ?_
        refine t_callVi (a := 14) (c_X7_finding _) dX7_point_41 (nx := 44) rfl kX7_finding ml_X7_31 (by decide) (ok_m 14 rfl) rfl rfl rfl rfl (Nat.le_of_ble_eq_true rfl) ⟨by decide, by decide⟩ ⟨by decide, by decide⟩ ?_
        exact t_iret dX7_point_44 rfl (by first | exact lf1 (by unfold s_point; (repeat (first | rewrite [if_pos (by omega)] | rewrite [if_neg (by omega)])); first | rfl | (refine Prod.ext rfl (Prod.ext (congrArg (uI _ _) ?_) rfl); unfold uI; (repeat rw [if_neg (by omega)]))) | exact lf0 (by unfold s_point; (repeat (first | rewrite [if_pos (by omega)] | rewrite [if_neg (by omega)])); first | rfl | (refine Prod.ext rfl (Prod.ext (congrArg (uI _ _) ?_) rfl); unfold uI; (repeat rw [if_neg (by omega)]))) | (exfalso; omega))
      · refine v_iload_n 1 dX7_point_24 (nx := 25) rfl rfl ?_
        refine v_iconst dX7_point_25 (nx := 26) rfl ?_
        refine v_icmp_ne dX7_point_26 (tgt := 45) (by decide) (nx := 29) rfl (by first | assumption | exact hR _ | exact ⟨by omega, by omega⟩) (by first | assumption | exact hR _ | exact ⟨by omega, by omega⟩) (fun c26 => ?_) (fun c26 => ?_)
        · refine v_aload_n 0 dX7_point_45 (nx := 46) rfl rfl ?_
          refine m_gA 10 (p := 0) dX7_point_46 (nx := 49) rfl (by decide) fl_X7_9 rfl ?_
          refine v_iconst dX7_point_49 (nx := 50) rfl ?_
          refine m_ald10 dX7_point_50 (nx := 51) rfl ⟨by omega, by omega⟩ ?_
          refine v_istore_n dX7_point_51 (nx := 52) rfl rfl (by decide) ?_
          refine v_iload_n 3 dX7_point_52 (nx := 53) rfl rfl ?_
          refine v_bipush dX7_point_53 (nx := 55) rfl rfl ?_
          refine v_icmp_ne dX7_point_55 (tgt := 65) (by decide) (nx := 58) rfl (by first | assumption | exact hR _ | exact ⟨by omega, by omega⟩) (by first | assumption | exact hR _ | exact ⟨by omega, by omega⟩) (fun c55 => ?_) (fun c55 => ?_)
          · refine v_aload_n 0 dX7_point_65 (nx := 66) rfl rfl ?_
            refine m_gA 10 (p := 0) dX7_point_66 (nx := 69) rfl (by decide) fl_X7_9 rfl ?_
            refine v_bipush dX7_point_69 (nx := 71) rfl rfl ?_
            refine v_iload_n 3 dX7_point_71 (nx := 72) rfl rfl ?_
            refine v_iadd dX7_point_72 (nx := 73) rfl ?_
            refine v_iload_n 1 dX7_point_73 (nx := 74) rfl rfl ?_
            refine m_ast10 dX7_point_74 (nx := 75) rfl ⟨by omega, by omega⟩ ?_
            refine v_aload_n 0 dX7_point_75 (nx := 76) rfl rfl ?_
            refine m_gA 10 (p := 0) dX7_point_76 (nx := 79) rfl (by decide) fl_X7_9 rfl ?_
            refine v_bipush dX7_point_79 (nx := 81) rfl rfl ?_
            refine v_iload_n 3 dX7_point_81 (nx := 82) rfl rfl ?_
            refine v_iadd dX7_point_82 (nx := 83) rfl ?_
            refine v_iload_n 2 dX7_point_83 (nx := 84) rfl rfl ?_
            refine m_ast10 dX7_point_84 (nx := 85) rfl ⟨by omega, by omega⟩ ?_
            refine v_aload_n 0 dX7_point_85 (nx := 86) rfl rfl ?_
            refine m_gA 10 (p := 0) dX7_point_86 (nx := 89) rfl (by decide) fl_X7_9 rfl ?_
            refine v_bipush dX7_point_89 (nx := 91) rfl rfl ?_
            refine v_iload_n 3 dX7_point_91 (nx := 92) rfl rfl ?_
            refine v_iadd dX7_point_92 (nx := 93) rfl ?_
            refine v_iconst dX7_point_93 (nx := 94) rfl ?_
            refine m_ast10 dX7_point_94 (nx := 95) rfl ⟨by omega, by omega⟩ ?_
            refine v_aload_n 0 dX7_point_95 (nx := 96) rfl rfl ?_
            refine m_gA 10 (p := 0) dX7_point_96 (nx := 99) rfl (by decide) fl_X7_9 rfl ?_
            refine v_bipush dX7_point_99 (nx := 101) rfl rfl ?_
            refine v_iload_n 3 dX7_point_101 (nx := 102) rfl rfl ?_
            refine v_iadd dX7_point_102 (nx := 103) rfl ?_
            refine v_iconst dX7_point_103 (nx := 104) rfl ?_
            refine m_ast10 dX7_point_104 (nx := 105) rfl ⟨by omega, by omega⟩ ?_
            refine v_aload_n 0 dX7_point_105 (nx := 106) rfl rfl ?_
            refine m_gA 10 (p := 0) dX7_point_106 (nx := 109) rfl (by decide) fl_X7_9 rfl ?_
            refine v_bipush dX7_point_109 (nx := 111) rfl rfl ?_
            refine v_iload_n 3 dX7_point_111 (nx := 112) rfl rfl ?_
            refine v_iadd dX7_point_112 (nx := 113) rfl ?_
            refine v_iconst dX7_point_113 (nx := 114) rfl ?_
            refine m_ast10 dX7_point_114 (nx := 115) rfl ⟨by omega, by omega⟩ ?_
            refine v_aload_n 0 dX7_point_115 (nx := 116) rfl rfl ?_
            refine m_gA 10 (p := 0) dX7_point_116 (nx := 119) rfl (by decide) fl_X7_9 rfl ?_
            refine v_iconst dX7_point_119 (nx := 120) rfl ?_
            refine v_dup2 dX7_point_120 (nx := 121) rfl rfl rfl ?_
            refine m_ald10 dX7_point_121 (nx := 122) rfl ⟨by omega, by omega⟩ ?_
            refine v_iconst dX7_point_122 (nx := 123) rfl ?_
            refine v_iadd dX7_point_123 (nx := 124) rfl ?_
            refine m_ast10 dX7_point_124 (nx := 125) rfl ⟨by omega, by omega⟩ ?_
            refine v_iload_n 3 dX7_point_125 (nx := 126) rfl rfl ?_
            exact t_iret dX7_point_126 rfl (by first | exact lf1 (by unfold s_point; (repeat (first | rewrite [if_pos (by omega)] | rewrite [if_neg (by omega)])); first | rfl | (refine Prod.ext rfl (Prod.ext (congrArg (uI _ _) ?_) rfl); unfold uI; (repeat rw [if_neg (by omega)]))) | exact lf0 (by unfold s_point; (repeat (first | rewrite [if_pos (by omega)] | rewrite [if_neg (by omega)])); first | rfl | (refine Prod.ext rfl (Prod.ext (congrArg (uI _ _) ?_) rfl); unfold uI; (repeat rw [if_neg (by omega)]))) | (exfalso; omega))
          · refine v_aload_n 0 dX7_point_58 (nx := 59) rfl rfl ?_
            refine v_bipush dX7_point_59 (nx := 61) rfl rfl ?_
            refine t_callVi (a := 14) (c_X7_finding _) dX7_point_61 (nx := 64) rfl kX7_finding ml_X7_31 (by decide) (ok_m 14 rfl) rfl rfl rfl rfl (Nat.le_of_ble_eq_true rfl) ⟨by decide, by decide⟩ ⟨by decide, by decide⟩ ?_
            exact t_iret dX7_point_64 rfl (by first | exact lf1 (by unfold s_point; (repeat (first | rewrite [if_pos (by omega)] | rewrite [if_neg (by omega)])); first | rfl | (refine Prod.ext rfl (Prod.ext (congrArg (uI _ _) ?_) rfl); unfold uI; (repeat rw [if_neg (by omega)]))) | exact lf0 (by unfold s_point; (repeat (first | rewrite [if_pos (by omega)] | rewrite [if_neg (by omega)])); first | rfl | (refine Prod.ext rfl (Prod.ext (congrArg (uI _ _) ?_) rfl); unfold uI; (repeat rw [if_neg (by omega)]))) | (exfalso; omega))
        · refine v_iload_n 2 dX7_point_29 (nx := 30) rfl rfl ?_
          refine v_iconst dX7_point_30 (nx := 31) rfl ?_
          refine v_bipush dX7_point_31 (nx := 33) rfl rfl ?_
          refine t_callSi (c_X7_in _ _ _ (by first | assumption | exact hR _ | exact ⟨by omega, by omega⟩) (by first | assumption | exact hR _ | exact ⟨by omega, by omega⟩) (by first | assumption | exact hR _ | exact ⟨by omega, by omega⟩)) dX7_point_33 (nx := 36) rfl kX7_in ml_X7_27 rfl rfl (Nat.le_of_ble_eq_true rfl) ⟨by decide, by decide⟩ ⟨by decide, by decide⟩ ?_
          refine v_ifB_ne dX7_point_36 (tgt := 45) (by decide) (nx := 39) rfl (fun c36 => ?_) (fun c36 => ?_)
          · refine v_aload_n 0 dX7_point_45 (nx := 46) rfl rfl ?_
            refine m_gA 10 (p := 0) dX7_point_46 (nx := 49) rfl (by decide) fl_X7_9 rfl ?_
            refine v_iconst dX7_point_49 (nx := 50) rfl ?_
            refine m_ald10 dX7_point_50 (nx := 51) rfl ⟨by omega, by omega⟩ ?_
            refine v_istore_n dX7_point_51 (nx := 52) rfl rfl (by decide) ?_
            refine v_iload_n 3 dX7_point_52 (nx := 53) rfl rfl ?_
            refine v_bipush dX7_point_53 (nx := 55) rfl rfl ?_
            refine v_icmp_ne dX7_point_55 (tgt := 65) (by decide) (nx := 58) rfl (by first | assumption | exact hR _ | exact ⟨by omega, by omega⟩) (by first | assumption | exact hR _ | exact ⟨by omega, by omega⟩) (fun c55 => ?_) (fun c55 => ?_)
            · refine v_aload_n 0 dX7_point_65 (nx := 66) rfl rfl ?_
              refine m_gA 10 (p := 0) dX7_point_66 (nx := 69) rfl (by decide) fl_X7_9 rfl ?_
              refine v_bipush dX7_point_69 (nx := 71) rfl rfl ?_
              refine v_iload_n 3 dX7_point_71 (nx := 72) rfl rfl ?_
              refine v_iadd dX7_point_72 (nx := 73) rfl ?_
              refine v_iload_n 1 dX7_point_73 (nx := 74) rfl rfl ?_
              refine m_ast10 dX7_point_74 (nx := 75) rfl ⟨by omega, by omega⟩ ?_
              refine v_aload_n 0 dX7_point_75 (nx := 76) rfl rfl ?_
              refine m_gA 10 (p := 0) dX7_point_76 (nx := 79) rfl (by decide) fl_X7_9 rfl ?_
              refine v_bipush dX7_point_79 (nx := 81) rfl rfl ?_
              refine v_iload_n 3 dX7_point_81 (nx := 82) rfl rfl ?_
              refine v_iadd dX7_point_82 (nx := 83) rfl ?_
              refine v_iload_n 2 dX7_point_83 (nx := 84) rfl rfl ?_
              refine m_ast10 dX7_point_84 (nx := 85) rfl ⟨by omega, by omega⟩ ?_
              refine v_aload_n 0 dX7_point_85 (nx := 86) rfl rfl ?_
              refine m_gA 10 (p := 0) dX7_point_86 (nx := 89) rfl (by decide) fl_X7_9 rfl ?_
              refine v_bipush dX7_point_89 (nx := 91) rfl rfl ?_
              refine v_iload_n 3 dX7_point_91 (nx := 92) rfl rfl ?_
              refine v_iadd dX7_point_92 (nx := 93) rfl ?_
              refine v_iconst dX7_point_93 (nx := 94) rfl ?_
              refine m_ast10 dX7_point_94 (nx := 95) rfl ⟨by omega, by omega⟩ ?_
              refine v_aload_n 0 dX7_point_95 (nx := 96) rfl rfl ?_
              refine m_gA 10 (p := 0) dX7_point_96 (nx := 99) rfl (by decide) fl_X7_9 rfl ?_
              refine v_bipush dX7_point_99 (nx := 101) rfl rfl ?_
              refine v_iload_n 3 dX7_point_101 (nx := 102) rfl rfl ?_
              refine v_iadd dX7_point_102 (nx := 103) rfl ?_
              refine v_iconst dX7_point_103 (nx := 104) rfl ?_
              refine m_ast10 dX7_point_104 (nx := 105) rfl ⟨by omega, by omega⟩ ?_
              refine v_aload_n 0 dX7_point_105 (nx := 106) rfl rfl ?_
              refine m_gA 10 (p := 0) dX7_point_106 (nx := 109) rfl (by decide) fl_X7_9 rfl ?_
              refine v_bipush dX7_point_109 (nx := 111) rfl rfl ?_
              refine v_iload_n 3 dX7_point_111 (nx := 112) rfl rfl ?_
              refine v_iadd dX7_point_112 (nx := 113) rfl ?_
              refine v_iconst dX7_point_113 (nx := 114) rfl ?_
              refine m_ast10 dX7_point_114 (nx := 115) rfl ⟨by omega, by omega⟩ ?_
              refine v_aload_n 0 dX7_point_115 (nx := 116) rfl rfl ?_
              refine m_gA 10 (p := 0) dX7_point_116 (nx := 119) rfl (by decide) fl_X7_9 rfl ?_
              refine v_iconst dX7_point_119 (nx := 120) rfl ?_
              refine v_dup2 dX7_point_120 (nx := 121) rfl rfl rfl ?_
              refine m_ald10 dX7_point_121 (nx := 122) rfl ⟨by omega, by omega⟩ ?_
              refine v_iconst dX7_point_122 (nx := 123) rfl ?_
              refine v_iadd dX7_point_123 (nx := 124) rfl ?_
              refine m_ast10 dX7_point_124 (nx := 125) rfl ⟨by omega, by omega⟩ ?_
              refine v_iload_n 3 dX7_point_125 (nx := 126) rfl rfl ?_
              exact t_iret dX7_point_126 rfl (by first | exact lf1 (by unfold s_point; (repeat (first | rewrite [if_pos (by omega)] | rewrite [if_neg (by omega)])); first | rfl | (refine Prod.ext rfl (Prod.ext (congrArg (uI _ _) ?_) rfl); unfold uI; (repeat rw [if_neg (by omega)]))) | exact lf0 (by unfold s_point; (repeat (first | rewrite [if_pos (by omega)] | rewrite [if_neg (by omega)])); first | rfl | (refine Prod.ext rfl (Prod.ext (congrArg (uI _ _) ?_) rfl); unfold uI; (repeat rw [if_neg (by omega)]))) | (exfalso; omega))
            · refine v_aload_n 0 dX7_point_58 (nx := 59) rfl rfl ?_
              refine v_bipush dX7_point_59 (nx := 61) rfl rfl ?_
              refine t_callVi (a := 14) (c_X7_finding _) dX7_point_61 (nx := 64) rfl kX7_finding ml_X7_31 (by decide) (ok_m 14 rfl) rfl rfl rfl rfl (Nat.le_of_ble_eq_true rfl) ⟨by decide, by decide⟩ ⟨by decide, by decide⟩ ?_
              exact t_iret dX7_point_64 rfl (by first | exact lf1 (by unfold s_point; (repeat (first | rewrite [if_pos (by omega)] | rewrite [if_neg (by omega)])); first | rfl | (refine Prod.ext rfl (Prod.ext (congrArg (uI _ _) ?_) rfl); unfold uI; (repeat rw [if_neg (by omega)]))) | exact lf0 (by unfold s_point; (repeat (first | rewrite [if_pos (by omega)] | rewrite [if_neg (by omega)])); first | rfl | (refine Prod.ext rfl (Prod.ext (congrArg (uI _ _) ?_) rfl); unfold uI; (repeat rw [if_neg (by omega)]))) | (exfalso; omega))
          · refine v_aload_n 0 dX7_point_39 (nx := 40) rfl rfl ?_
            refine v_iconst dX7_point_40 (nx := 41) rfl ?_
            refine t_callVi (a := 14) (c_X7_finding _) dX7_point_41 (nx := 44) rfl kX7_finding ml_X7_31 (by decide) (ok_m 14 rfl) rfl rfl rfl rfl (Nat.le_of_ble_eq_true rfl) ⟨by decide, by decide⟩ ⟨by decide, by decide⟩ ?_
            exact t_iret dX7_point_44 rfl (by first | exact lf1 (by unfold s_point; (repeat (first | rewrite [if_pos (by omega)] | rewrite [if_neg (by omega)])); first | rfl | (refine Prod.ext rfl (Prod.ext (congrArg (uI _ _) ?_) rfl); unfold uI; (repeat rw [if_neg (by omega)]))) | exact lf0 (by unfold s_point; (repeat (first | rewrite [if_pos (by omega)] | rewrite [if_neg (by omega)])); first | rfl | (refine Prod.ext rfl (Prod.ext (congrArg (uI _ _) ?_) rfl); unfold uI; (repeat rw [if_neg (by omega)]))) | (exfalso; omega))

set_option maxRecDepth 100000 in
theorem c_X7_as {g : GG} {kp : Bool} {σ : SS} {N K G F : Int → Int} {k f : Int} (hR : ∀ j, inR (N j)) (p : Int) (kind : Int) (hp : inR p) (hkind : inR kind) (b0 : 0 ≤ N 0 ∧ N 0 ≤ 12) (b1 : 0 ≤ N 1 ∧ N 1 ≤ 16) (b2 : 0 ≤ N 2 ∧ N 2 ≤ 8) (b3 : 0 ≤ N 3 ∧ N 3 ≤ 60) : XC g kp 2 mX7_as [rf g (ad 14 0 0), vi p, vi kind] (mkS σ N K G F k f) (some (vi (s_as N p kind).1)) (mkS σ (s_as N p kind).2.1 K G F k (f + (s_as N p kind).2.2)) := by
  refine TC.of (by decide) (Nat.le_of_ble_eq_true rfl) rfl ?_
  refine v_aload_n 0 dX7_as_0 (nx := 1) rfl rfl ?_
  refine v_iload_n 1 dX7_as_1 (nx := 2) rfl rfl ?_
  refine t_callVi (a := 14) (c_X7_isPoint _ (by assumption) (by omega)) dX7_as_2 (nx := 5) rfl kX7_isPoint ml_X7_35 (by decide) (ok_m 14 rfl) rfl rfl rfl rfl (Nat.le_of_ble_eq_true rfl) ⟨by decide, by decide⟩ ⟨by decide, by decide⟩ ?_
  refine v_ifB_eq dX7_as_5 (tgt := 17) (by decide) (nx := 8) rfl (fun c5 => ?_) (fun c5 => ?_)
  · refine v_aload_n 0 dX7_as_17 (nx := 18) rfl rfl ?_
    refine v_iconst dX7_as_18 (nx := 19) rfl ?_
    refine t_callVi (a := 14) (c_X7_finding _) dX7_as_19 (nx := 22) rfl kX7_finding ml_X7_31 (by decide) (ok_m 14 rfl) rfl rfl rfl rfl (Nat.le_of_ble_eq_true rfl) ⟨by decide, by decide⟩ ⟨by decide, by decide⟩ ?_
    exact t_iret dX7_as_22 rfl (by first | exact lf1 (by unfold s_as; (repeat (first | rewrite [if_pos (by omega)] | rewrite [if_neg (by omega)])); first | rfl | (refine Prod.ext rfl (Prod.ext (congrArg (uI _ _) ?_) rfl); unfold uI; (repeat rw [if_neg (by omega)]))) | exact lf0 (by unfold s_as; (repeat (first | rewrite [if_pos (by omega)] | rewrite [if_neg (by omega)])); first | rfl | (refine Prod.ext rfl (Prod.ext (congrArg (uI _ _) ?_) rfl); unfold uI; (repeat rw [if_neg (by omega)]))) | (exfalso; omega))
  · refine v_iload_n 2 dX7_as_8 (nx := 9) rfl rfl ?_
    refine v_iconst dX7_as_9 (nx := 10) rfl ?_
    refine v_iconst dX7_as_10 (nx := 11) rfl ?_
    refine t_callSi (c_X7_in _ _ _ (by first | assumption | exact hR _ | exact ⟨by omega, by omega⟩) (by first | assumption | exact hR _ | exact ⟨by omega, by omega⟩) (by first | assumption | exact hR _ | exact ⟨by omega, by omega⟩)) dX7_as_11 (nx := 14) rfl kX7_in ml_X7_27 rfl rfl (Nat.le_of_ble_eq_true rfl) ⟨by decide, by decide⟩ ⟨by decide, by decide⟩ ?_
    refine v_ifB_ne dX7_as_14 (tgt := 23) (by decide) (nx := 17) rfl (fun c14 => ?_) (fun c14 => ?_)
    · refine v_aload_n 0 dX7_as_23 (nx := 24) rfl rfl ?_
      refine v_iload_n 1 dX7_as_24 (nx := 25) rfl rfl ?_
      refine t_callVi (a := 14) (c_X7_kindOf _ (by omega)) dX7_as_25 (nx := 28) rfl kX7_kindOf ml_X7_39 (by decide) (ok_m 14 rfl) rfl rfl rfl rfl (Nat.le_of_ble_eq_true rfl) ⟨by decide, by decide⟩ ⟨by decide, by decide⟩ ?_
      refine v_iload_n 2 dX7_as_28 (nx := 29) rfl rfl ?_
      refine v_icmp_ne dX7_as_29 (tgt := 36) (by decide) (nx := 32) rfl (by first | assumption | exact hR _ | exact ⟨by omega, by omega⟩) (by first | assumption | exact hR _ | exact ⟨by omega, by omega⟩) (fun c29 => ?_) (fun c29 => ?_)
      · refine v_aload_n 0 dX7_as_36 (nx := 37) rfl rfl ?_
        refine v_bipush dX7_as_37 (nx := 39) rfl rfl ?_
        refine t_callVi (a := 14) (c_X7_finding _) dX7_as_39 (nx := 42) rfl kX7_finding ml_X7_31 (by decide) (ok_m 14 rfl) rfl rfl rfl rfl (Nat.le_of_ble_eq_true rfl) ⟨by decide, by decide⟩ ⟨by decide, by decide⟩ ?_
        exact t_iret dX7_as_42 rfl (by first | exact lf1 (by unfold s_as; (repeat (first | rewrite [if_pos (by omega)] | rewrite [if_neg (by omega)])); first | rfl | (refine Prod.ext rfl (Prod.ext (congrArg (uI _ _) ?_) rfl); unfold uI; (repeat rw [if_neg (by omega)]))) | exact lf0 (by unfold s_as; (repeat (first | rewrite [if_pos (by omega)] | rewrite [if_neg (by omega)])); first | rfl | (refine Prod.ext rfl (Prod.ext (congrArg (uI _ _) ?_) rfl); unfold uI; (repeat rw [if_neg (by omega)]))) | (exfalso; omega))
      · refine v_iload_n 1 dX7_as_32 (nx := 33) rfl rfl ?_
        refine v_goto dX7_as_33 (tgt := 42) (by decide) ?_
        exact t_iret dX7_as_42 rfl (by first | exact lf1 (by unfold s_as; (repeat (first | rewrite [if_pos (by omega)] | rewrite [if_neg (by omega)])); first | rfl | (refine Prod.ext rfl (Prod.ext (congrArg (uI _ _) ?_) rfl); unfold uI; (repeat rw [if_neg (by omega)]))) | exact lf0 (by unfold s_as; (repeat (first | rewrite [if_pos (by omega)] | rewrite [if_neg (by omega)])); first | rfl | (refine Prod.ext rfl (Prod.ext (congrArg (uI _ _) ?_) rfl); unfold uI; (repeat rw [if_neg (by omega)]))) | (exfalso; omega))
    · refine v_aload_n 0 dX7_as_17 (nx := 18) rfl rfl ?_
      refine v_iconst dX7_as_18 (nx := 19) rfl ?_
      refine t_callVi (a := 14) (c_X7_finding _) dX7_as_19 (nx := 22) rfl kX7_finding ml_X7_31 (by decide) (ok_m 14 rfl) rfl rfl rfl rfl (Nat.le_of_ble_eq_true rfl) ⟨by decide, by decide⟩ ⟨by decide, by decide⟩ ?_
      exact t_iret dX7_as_22 rfl (by first | exact lf1 (by unfold s_as; (repeat (first | rewrite [if_pos (by omega)] | rewrite [if_neg (by omega)])); first | rfl | (refine Prod.ext rfl (Prod.ext (congrArg (uI _ _) ?_) rfl); unfold uI; (repeat rw [if_neg (by omega)]))) | exact lf0 (by unfold s_as; (repeat (first | rewrite [if_pos (by omega)] | rewrite [if_neg (by omega)])); first | rfl | (refine Prod.ext rfl (Prod.ext (congrArg (uI _ _) ?_) rfl); unfold uI; (repeat rw [if_neg (by omega)]))) | (exfalso; omega))

set_option maxRecDepth 100000 in
theorem c_X7_turns {g : GG} {kp : Bool} {σ : SS} {N K G F : Int → Int} {k f : Int} (hR : ∀ j, inR (N j)) (b : Int) (v : Int) (hb : inR b) (hv : inR v) (b0 : 0 ≤ N 0 ∧ N 0 ≤ 12) (b1 : 0 ≤ N 1 ∧ N 1 ≤ 16) (b2 : 0 ≤ N 2 ∧ N 2 ≤ 8) (b3 : 0 ≤ N 3 ∧ N 3 ≤ 60) (ht : ∀ b, 0 ≤ b → b < N 1 → 0 ≤ N (84 + b) ∧ N (84 + b) < 12) : XC g kp 2 mX7_turns [rf g (ad 14 0 0), vi b, vi v] (mkS σ N K G F k f) (some (vi (s_turns N b v).1)) (mkS σ (s_turns N b v).2.1 K G F k (f + (s_turns N b v).2.2)) := by
  refine TC.of (by decide) (Nat.le_of_ble_eq_true rfl) rfl ?_
  refine v_aload_n 0 dX7_turns_0 (nx := 1) rfl rfl ?_
  refine v_iload_n 1 dX7_turns_1 (nx := 2) rfl rfl ?_
  refine t_callVi (a := 14) (c_X7_isBelt _ (by assumption) (by omega)) dX7_turns_2 (nx := 5) rfl kX7_isBelt ml_X7_42 (by decide) (ok_m 14 rfl) rfl rfl rfl rfl (Nat.le_of_ble_eq_true rfl) ⟨by decide, by decide⟩ ⟨by decide, by decide⟩ ?_
  refine v_ifB_eq dX7_turns_5 (tgt := 18) (by decide) (nx := 8) rfl (fun c5 => ?_) (fun c5 => ?_)
  · refine v_aload_n 0 dX7_turns_18 (nx := 19) rfl rfl ?_
    refine v_iconst dX7_turns_19 (nx := 20) rfl ?_
    refine t_callVi (a := 14) (c_X7_finding _) dX7_turns_20 (nx := 23) rfl kX7_finding ml_X7_31 (by decide) (ok_m 14 rfl) rfl rfl rfl rfl (Nat.le_of_ble_eq_true rfl) ⟨by decide, by decide⟩ ⟨by decide, by decide⟩ ?_
    exact t_iret dX7_turns_23 rfl (by first | exact lf1 (by unfold s_turns; (repeat (first | rewrite [if_pos (by omega)] | rewrite [if_neg (by omega)])); first | rfl | (refine Prod.ext rfl (Prod.ext (congrArg (uI _ _) ?_) rfl); unfold uI; (repeat rw [if_neg (by omega)]))) | exact lf0 (by unfold s_turns; (repeat (first | rewrite [if_pos (by omega)] | rewrite [if_neg (by omega)])); first | rfl | (refine Prod.ext rfl (Prod.ext (congrArg (uI _ _) ?_) rfl); unfold uI; (repeat rw [if_neg (by omega)]))) | (exfalso; omega))
  · refine v_iload_n 2 dX7_turns_8 (nx := 9) rfl rfl ?_
    refine v_iconst dX7_turns_9 (nx := 10) rfl ?_
    refine v_bipush dX7_turns_10 (nx := 12) rfl rfl ?_
    refine t_callSi (c_X7_in _ _ _ (by first | assumption | exact hR _ | exact ⟨by omega, by omega⟩) (by first | assumption | exact hR _ | exact ⟨by omega, by omega⟩) (by first | assumption | exact hR _ | exact ⟨by omega, by omega⟩)) dX7_turns_12 (nx := 15) rfl kX7_in ml_X7_27 rfl rfl (Nat.le_of_ble_eq_true rfl) ⟨by decide, by decide⟩ ⟨by decide, by decide⟩ ?_
    refine v_ifB_ne dX7_turns_15 (tgt := 24) (by decide) (nx := 18) rfl (fun c15 => ?_) (fun c15 => ?_)
    · have hto := ht b (by omega) (by omega)
      refine v_aload_n 0 dX7_turns_24 (nx := 25) rfl rfl ?_
      refine m_gA 10 (p := 0) dX7_turns_25 (nx := 28) rfl (by decide) fl_X7_9 rfl ?_
      refine v_bipush dX7_turns_28 (nx := 30) rfl rfl ?_
      refine v_iload_n 1 dX7_turns_30 (nx := 31) rfl rfl ?_
      refine v_iadd dX7_turns_31 (nx := 32) rfl ?_
      refine m_ald10 dX7_turns_32 (nx := 33) rfl ⟨by omega, by omega⟩ ?_
      refine v_istore_n dX7_turns_33 (nx := 34) rfl rfl (by decide) ?_
      refine v_aload_n 0 dX7_turns_34 (nx := 35) rfl rfl ?_
      refine v_iload_n 3 dX7_turns_35 (nx := 36) rfl rfl ?_
      refine t_callVi (a := 14) (c_X7_kindOf _ (by omega)) dX7_turns_36 (nx := 39) rfl kX7_kindOf ml_X7_39 (by decide) (ok_m 14 rfl) rfl rfl rfl rfl (Nat.le_of_ble_eq_true rfl) ⟨by decide, by decide⟩ ⟨by decide, by decide⟩ ?_
      refine v_iconst dX7_turns_39 (nx := 40) rfl ?_
      refine v_icmp_eq dX7_turns_40 (tgt := 50) (by decide) (nx := 43) rfl (by first | assumption | exact hR _ | exact ⟨by omega, by omega⟩) (by first | assumption | exact hR _ | exact ⟨by omega, by omega⟩) (fun c40 => ?_) (fun c40 => ?_)
      · refine v_aload_n 0 dX7_turns_50 (nx := 51) rfl rfl ?_
        refine m_gA 10 (p := 0) dX7_turns_51 (nx := 54) rfl (by decide) fl_X7_9 rfl ?_
        refine v_sipush dX7_turns_54 (nx := 57) rfl rfl ?_
        refine v_iload_n 1 dX7_turns_57 (nx := 58) rfl rfl ?_
        refine v_iadd dX7_turns_58 (nx := 59) rfl ?_
        refine m_ald10 dX7_turns_59 (nx := 60) rfl ⟨by omega, by omega⟩ ?_
        refine v_istore dX7_turns_60 (nx := 62) rfl rfl (by decide) ?_
        refine v_aload_n 0 dX7_turns_62 (nx := 63) rfl rfl ?_
        refine m_gA 10 (p := 0) dX7_turns_63 (nx := 66) rfl (by decide) fl_X7_9 rfl ?_
        refine v_sipush dX7_turns_66 (nx := 69) rfl rfl ?_
        refine v_iload_n 1 dX7_turns_69 (nx := 70) rfl rfl ?_
        refine v_iadd dX7_turns_70 (nx := 71) rfl ?_
        refine v_iload_n 2 dX7_turns_71 (nx := 72) rfl rfl ?_
        refine m_ast10 dX7_turns_72 (nx := 73) rfl ⟨by omega, by omega⟩ ?_
        refine v_aload_n 0 dX7_turns_73 (nx := 74) rfl rfl ?_
        refine m_gA 10 (p := 0) dX7_turns_74 (nx := 77) rfl (by decide) fl_X7_9 rfl ?_
        refine v_bipush dX7_turns_77 (nx := 79) rfl rfl ?_
        refine v_iload_n 3 dX7_turns_79 (nx := 80) rfl rfl ?_
        refine v_iadd dX7_turns_80 (nx := 81) rfl ?_
        refine m_ald10e (z := N (44 + N (84 + b))) dX7_turns_81 (nx := 82) rfl ⟨by omega, by omega⟩ (by first | rfl | (repeat rw [uI_n (by omega)])) ?_
        refine v_iload_n 1 dX7_turns_82 (nx := 83) rfl rfl ?_
        refine v_iconst dX7_turns_83 (nx := 84) rfl ?_
        refine v_iadd dX7_turns_84 (nx := 85) rfl ?_
        refine v_icmp_ne dX7_turns_85 (tgt := 111) (by decide) (nx := 88) rfl (by first | assumption | exact hR _ | exact ⟨by omega, by omega⟩) (by first | assumption | exact hR _ | exact ⟨by omega, by omega⟩) (fun c85 => ?_) (fun c85 => ?_)
        · refine v_iload 4 dX7_turns_111 (nx := 113) rfl rfl ?_
          exact t_iret dX7_turns_113 rfl (by first | exact lf1 (by unfold s_turns; (repeat (first | rewrite [if_pos (by omega)] | rewrite [if_neg (by omega)])); first | rfl | (refine Prod.ext rfl (Prod.ext (congrArg (uI _ _) ?_) rfl); unfold uI; (repeat rw [if_neg (by omega)]))) | exact lf0 (by unfold s_turns; (repeat (first | rewrite [if_pos (by omega)] | rewrite [if_neg (by omega)])); first | rfl | (refine Prod.ext rfl (Prod.ext (congrArg (uI _ _) ?_) rfl); unfold uI; (repeat rw [if_neg (by omega)]))) | (exfalso; omega))
        · refine v_aload_n 0 dX7_turns_88 (nx := 89) rfl rfl ?_
          refine m_gA 10 (p := 0) dX7_turns_89 (nx := 92) rfl (by decide) fl_X7_9 rfl ?_
          refine v_bipush dX7_turns_92 (nx := 94) rfl rfl ?_
          refine v_iload_n 3 dX7_turns_94 (nx := 95) rfl rfl ?_
          refine v_iadd dX7_turns_95 (nx := 96) rfl ?_
          refine m_ald10e (z := N (56 + N (84 + b))) dX7_turns_96 (nx := 97) rfl ⟨by omega, by omega⟩ (by first | rfl | (repeat rw [uI_n (by omega)])) ?_
          refine v_iload_n 2 dX7_turns_97 (nx := 98) rfl rfl ?_
          refine v_icmp_le dX7_turns_98 (tgt := 111) (by decide) (nx := 101) rfl (by first | assumption | exact hR _ | exact ⟨by omega, by omega⟩) (by first | assumption | exact hR _ | exact ⟨by omega, by omega⟩) (fun c98 => ?_) (fun c98 => ?_)
          · refine v_iload 4 dX7_turns_111 (nx := 113) rfl rfl ?_
            exact t_iret dX7_turns_113 rfl (by first | exact lf1 (by unfold s_turns; (repeat (first | rewrite [if_pos (by omega)] | rewrite [if_neg (by omega)])); first | rfl | (refine Prod.ext rfl (Prod.ext (congrArg (uI _ _) ?_) rfl); unfold uI; (repeat rw [if_neg (by omega)]))) | exact lf0 (by unfold s_turns; (repeat (first | rewrite [if_pos (by omega)] | rewrite [if_neg (by omega)])); first | rfl | (refine Prod.ext rfl (Prod.ext (congrArg (uI _ _) ?_) rfl); unfold uI; (repeat rw [if_neg (by omega)]))) | (exfalso; omega))
          · refine v_aload_n 0 dX7_turns_101 (nx := 102) rfl rfl ?_
            refine m_gA 10 (p := 0) dX7_turns_102 (nx := 105) rfl (by decide) fl_X7_9 rfl ?_
            refine v_bipush dX7_turns_105 (nx := 107) rfl rfl ?_
            refine v_iload_n 3 dX7_turns_107 (nx := 108) rfl rfl ?_
            refine v_iadd dX7_turns_108 (nx := 109) rfl ?_
            refine v_iload_n 2 dX7_turns_109 (nx := 110) rfl rfl ?_
            refine m_ast10 dX7_turns_110 (nx := 111) rfl ⟨by omega, by omega⟩ ?_
            refine v_iload 4 dX7_turns_111 (nx := 113) rfl rfl ?_
            exact t_iret dX7_turns_113 rfl (by first | exact lf1 (by unfold s_turns; (repeat (first | rewrite [if_pos (by omega)] | rewrite [if_neg (by omega)])); first | rfl | (refine Prod.ext rfl (Prod.ext (congrArg (uI _ _) ?_) rfl); unfold uI; (repeat rw [if_neg (by omega)]))) | exact lf0 (by unfold s_turns; (repeat (first | rewrite [if_pos (by omega)] | rewrite [if_neg (by omega)])); first | rfl | (refine Prod.ext rfl (Prod.ext (congrArg (uI _ _) ?_) rfl); unfold uI; (repeat rw [if_neg (by omega)]))) | (exfalso; omega))
      · refine v_aload_n 0 dX7_turns_43 (nx := 44) rfl rfl ?_
        refine v_bipush dX7_turns_44 (nx := 46) rfl rfl ?_
        refine t_callVi (a := 14) (c_X7_finding _) dX7_turns_46 (nx := 49) rfl kX7_finding ml_X7_31 (by decide) (ok_m 14 rfl) rfl rfl rfl rfl (Nat.le_of_ble_eq_true rfl) ⟨by decide, by decide⟩ ⟨by decide, by decide⟩ ?_
        exact t_iret dX7_turns_49 rfl (by first | exact lf1 (by unfold s_turns; (repeat (first | rewrite [if_pos (by omega)] | rewrite [if_neg (by omega)])); first | rfl | (refine Prod.ext rfl (Prod.ext (congrArg (uI _ _) ?_) rfl); unfold uI; (repeat rw [if_neg (by omega)]))) | exact lf0 (by unfold s_turns; (repeat (first | rewrite [if_pos (by omega)] | rewrite [if_neg (by omega)])); first | rfl | (refine Prod.ext rfl (Prod.ext (congrArg (uI _ _) ?_) rfl); unfold uI; (repeat rw [if_neg (by omega)]))) | (exfalso; omega))
    · refine v_aload_n 0 dX7_turns_18 (nx := 19) rfl rfl ?_
      refine v_iconst dX7_turns_19 (nx := 20) rfl ?_
      refine t_callVi (a := 14) (c_X7_finding _) dX7_turns_20 (nx := 23) rfl kX7_finding ml_X7_31 (by decide) (ok_m 14 rfl) rfl rfl rfl rfl (Nat.le_of_ble_eq_true rfl) ⟨by decide, by decide⟩ ⟨by decide, by decide⟩ ?_
      exact t_iret dX7_turns_23 rfl (by first | exact lf1 (by unfold s_turns; (repeat (first | rewrite [if_pos (by omega)] | rewrite [if_neg (by omega)])); first | rfl | (refine Prod.ext rfl (Prod.ext (congrArg (uI _ _) ?_) rfl); unfold uI; (repeat rw [if_neg (by omega)]))) | exact lf0 (by unfold s_turns; (repeat (first | rewrite [if_pos (by omega)] | rewrite [if_neg (by omega)])); first | rfl | (refine Prod.ext rfl (Prod.ext (congrArg (uI _ _) ?_) rfl); unfold uI; (repeat rw [if_neg (by omega)]))) | (exfalso; omega))

set_option maxRecDepth 100000 in
theorem c_X7_flight {g : GG} {kp : Bool} {σ : SS} {N K G F : Int → Int} {k f : Int} (hR : ∀ j, inR (N j)) (c : Int) (o : Int) (e : Int) (hc : inR c) (ho : inR o) (he : inR e) (b0 : 0 ≤ N 0 ∧ N 0 ≤ 12) (b1 : 0 ≤ N 1 ∧ N 1 ≤ 16) (b2 : 0 ≤ N 2 ∧ N 2 ≤ 8) (b3 : 0 ≤ N 3 ∧ N 3 ≤ 60) : XC g kp 2 mX7_flight [rf g (ad 14 0 0), vi c, vi o, vi e] (mkS σ N K G F k f) (some (vi (s_flight N c o e).1)) (mkS σ (s_flight N c o e).2.1 K G F k (f + (s_flight N c o e).2.2)) := by
  refine TC.of (by decide) (Nat.le_of_ble_eq_true rfl) rfl ?_
  refine v_aload_n 0 dX7_flight_0 (nx := 1) rfl rfl ?_
  refine v_iload_n 1 dX7_flight_1 (nx := 2) rfl rfl ?_
  refine t_callVi (a := 14) (c_X7_isPoint _ (by assumption) (by omega)) dX7_flight_2 (nx := 5) rfl kX7_isPoint ml_X7_35 (by decide) (ok_m 14 rfl) rfl rfl rfl rfl (Nat.le_of_ble_eq_true rfl) ⟨by decide, by decide⟩ ⟨by decide, by decide⟩ ?_
  refine v_ifB_eq dX7_flight_5 (tgt := 35) (by decide) (nx := 8) rfl (fun c5 => ?_) (fun c5 => ?_)
  · refine v_aload_n 0 dX7_flight_35 (nx := 36) rfl rfl ?_
    refine v_iconst dX7_flight_36 (nx := 37) rfl ?_
    refine t_callVi (a := 14) (c_X7_finding _) dX7_flight_37 (nx := 40) rfl kX7_finding ml_X7_31 (by decide) (ok_m 14 rfl) rfl rfl rfl rfl (Nat.le_of_ble_eq_true rfl) ⟨by decide, by decide⟩ ⟨by decide, by decide⟩ ?_
    exact t_iret dX7_flight_40 rfl (by first | exact lf1 (by unfold s_flight; (repeat (first | rewrite [if_pos (by omega)] | rewrite [if_neg (by omega)])); first | rfl | (refine Prod.ext rfl (Prod.ext (congrArg (uI _ _) ?_) rfl); unfold uI; (repeat rw [if_neg (by omega)]))) | exact lf0 (by unfold s_flight; (repeat (first | rewrite [if_pos (by omega)] | rewrite [if_neg (by omega)])); first | rfl | (refine Prod.ext rfl (Prod.ext (congrArg (uI _ _) ?_) rfl); unfold uI; (repeat rw [if_neg (by omega)]))) | (exfalso; omega))
  · refine v_iload_n 2 dX7_flight_8 (nx := 9) rfl rfl ?_
    refine v_iconst dX7_flight_9 (nx := 10) rfl ?_
    refine v_sipush dX7_flight_10 (nx := 13) rfl rfl ?_
    refine t_callSi (c_X7_in _ _ _ (by first | assumption | exact hR _ | exact ⟨by omega, by omega⟩) (by first | assumption | exact hR _ | exact ⟨by omega, by omega⟩) (by first | assumption | exact hR _ | exact ⟨by omega, by omega⟩)) dX7_flight_13 (nx := 16) rfl kX7_in ml_X7_27 rfl rfl (Nat.le_of_ble_eq_true rfl) ⟨by decide, by decide⟩ ⟨by decide, by decide⟩ ?_
    refine v_ifB_eq dX7_flight_16 (tgt := 35) (by decide) (nx := 19) rfl (fun c16 => ?_) (fun c16 => ?_)
    · refine v_aload_n 0 dX7_flight_35 (nx := 36) rfl rfl ?_
      refine v_iconst dX7_flight_36 (nx := 37) rfl ?_
      refine t_callVi (a := 14) (c_X7_finding _) dX7_flight_37 (nx := 40) rfl kX7_finding ml_X7_31 (by decide) (ok_m 14 rfl) rfl rfl rfl rfl (Nat.le_of_ble_eq_true rfl) ⟨by decide, by decide⟩ ⟨by decide, by decide⟩ ?_
      exact t_iret dX7_flight_40 rfl (by first | exact lf1 (by unfold s_flight; (repeat (first | rewrite [if_pos (by omega)] | rewrite [if_neg (by omega)])); first | rfl | (refine Prod.ext rfl (Prod.ext (congrArg (uI _ _) ?_) rfl); unfold uI; (repeat rw [if_neg (by omega)]))) | exact lf0 (by unfold s_flight; (repeat (first | rewrite [if_pos (by omega)] | rewrite [if_neg (by omega)])); first | rfl | (refine Prod.ext rfl (Prod.ext (congrArg (uI _ _) ?_) rfl); unfold uI; (repeat rw [if_neg (by omega)]))) | (exfalso; omega))
    · refine v_iload_n 3 dX7_flight_19 (nx := 20) rfl rfl ?_
      refine v_iconst dX7_flight_20 (nx := 21) rfl ?_
      refine v_sipush dX7_flight_21 (nx := 24) rfl rfl ?_
      refine t_callSi (c_X7_in _ _ _ (by first | assumption | exact hR _ | exact ⟨by omega, by omega⟩) (by first | assumption | exact hR _ | exact ⟨by omega, by omega⟩) (by first | assumption | exact hR _ | exact ⟨by omega, by omega⟩)) dX7_flight_24 (nx := 27) rfl kX7_in ml_X7_27 rfl rfl (Nat.le_of_ble_eq_true rfl) ⟨by decide, by decide⟩ ⟨by decide, by decide⟩ ?_
      refine v_ifB_eq dX7_flight_27 (tgt := 35) (by decide) (nx := 30) rfl (fun c27 => ?_) (fun c27 => ?_)
      · refine v_aload_n 0 dX7_flight_35 (nx := 36) rfl rfl ?_
        refine v_iconst dX7_flight_36 (nx := 37) rfl ?_
        refine t_callVi (a := 14) (c_X7_finding _) dX7_flight_37 (nx := 40) rfl kX7_finding ml_X7_31 (by decide) (ok_m 14 rfl) rfl rfl rfl rfl (Nat.le_of_ble_eq_true rfl) ⟨by decide, by decide⟩ ⟨by decide, by decide⟩ ?_
        exact t_iret dX7_flight_40 rfl (by first | exact lf1 (by unfold s_flight; (repeat (first | rewrite [if_pos (by omega)] | rewrite [if_neg (by omega)])); first | rfl | (refine Prod.ext rfl (Prod.ext (congrArg (uI _ _) ?_) rfl); unfold uI; (repeat rw [if_neg (by omega)]))) | exact lf0 (by unfold s_flight; (repeat (first | rewrite [if_pos (by omega)] | rewrite [if_neg (by omega)])); first | rfl | (refine Prod.ext rfl (Prod.ext (congrArg (uI _ _) ?_) rfl); unfold uI; (repeat rw [if_neg (by omega)]))) | (exfalso; omega))
      · refine v_iload_n 2 dX7_flight_30 (nx := 31) rfl rfl ?_
        refine v_iload_n 3 dX7_flight_31 (nx := 32) rfl rfl ?_
        refine v_icmp_le dX7_flight_32 (tgt := 41) (by decide) (nx := 35) rfl (by first | assumption | exact hR _ | exact ⟨by omega, by omega⟩) (by first | assumption | exact hR _ | exact ⟨by omega, by omega⟩) (fun c32 => ?_) (fun c32 => ?_)
        · refine v_aload_n 0 dX7_flight_41 (nx := 42) rfl rfl ?_
          refine v_iload_n 1 dX7_flight_42 (nx := 43) rfl rfl ?_
          refine t_callVi (a := 14) (c_X7_kindOf _ (by omega)) dX7_flight_43 (nx := 46) rfl kX7_kindOf ml_X7_39 (by decide) (ok_m 14 rfl) rfl rfl rfl rfl (Nat.le_of_ble_eq_true rfl) ⟨by decide, by decide⟩ ⟨by decide, by decide⟩ ?_
          refine v_iconst dX7_flight_46 (nx := 47) rfl ?_
          refine v_icmp_eq dX7_flight_47 (tgt := 57) (by decide) (nx := 50) rfl (by first | assumption | exact hR _ | exact ⟨by omega, by omega⟩) (by first | assumption | exact hR _ | exact ⟨by omega, by omega⟩) (fun c47 => ?_) (fun c47 => ?_)
          · refine v_aload_n 0 dX7_flight_57 (nx := 58) rfl rfl ?_
            refine m_gA 10 (p := 0) dX7_flight_58 (nx := 61) rfl (by decide) fl_X7_9 rfl ?_
            refine v_iconst dX7_flight_61 (nx := 62) rfl ?_
            refine m_ald10 dX7_flight_62 (nx := 63) rfl ⟨by omega, by omega⟩ ?_
            refine v_istore dX7_flight_63 (nx := 65) rfl rfl (by decide) ?_
            refine v_iload 4 dX7_flight_65 (nx := 67) rfl rfl ?_
            refine v_bipush dX7_flight_67 (nx := 69) rfl rfl ?_
            refine v_icmp_ne dX7_flight_69 (tgt := 79) (by decide) (nx := 72) rfl (by first | assumption | exact hR _ | exact ⟨by omega, by omega⟩) (by first | assumption | exact hR _ | exact ⟨by omega, by omega⟩) (fun c69 => ?_) (fun c69 => ?_)
            · refine v_aload_n 0 dX7_flight_79 (nx := 80) rfl rfl ?_
              refine m_gA 10 (p := 0) dX7_flight_80 (nx := 83) rfl (by decide) fl_X7_9 rfl ?_
              refine v_sipush dX7_flight_83 (nx := 86) rfl rfl ?_
              refine v_iload 4 dX7_flight_86 (nx := 88) rfl rfl ?_
              refine v_iadd dX7_flight_88 (nx := 89) rfl ?_
              refine v_iload_n 1 dX7_flight_89 (nx := 90) rfl rfl ?_
              refine m_ast10 dX7_flight_90 (nx := 91) rfl ⟨by omega, by omega⟩ ?_
              refine v_aload_n 0 dX7_flight_91 (nx := 92) rfl rfl ?_
              refine m_gA 10 (p := 0) dX7_flight_92 (nx := 95) rfl (by decide) fl_X7_9 rfl ?_
              refine v_sipush dX7_flight_95 (nx := 98) rfl rfl ?_
              refine v_iload 4 dX7_flight_98 (nx := 100) rfl rfl ?_
              refine v_iadd dX7_flight_100 (nx := 101) rfl ?_
              refine v_iload_n 2 dX7_flight_101 (nx := 102) rfl rfl ?_
              refine m_ast10 dX7_flight_102 (nx := 103) rfl ⟨by omega, by omega⟩ ?_
              refine v_aload_n 0 dX7_flight_103 (nx := 104) rfl rfl ?_
              refine m_gA 10 (p := 0) dX7_flight_104 (nx := 107) rfl (by decide) fl_X7_9 rfl ?_
              refine v_sipush dX7_flight_107 (nx := 110) rfl rfl ?_
              refine v_iload 4 dX7_flight_110 (nx := 112) rfl rfl ?_
              refine v_iadd dX7_flight_112 (nx := 113) rfl ?_
              refine v_iload_n 3 dX7_flight_113 (nx := 114) rfl rfl ?_
              refine m_ast10 dX7_flight_114 (nx := 115) rfl ⟨by omega, by omega⟩ ?_
              refine v_aload_n 0 dX7_flight_115 (nx := 116) rfl rfl ?_
              refine m_gA 10 (p := 0) dX7_flight_116 (nx := 119) rfl (by decide) fl_X7_9 rfl ?_
              refine v_iconst dX7_flight_119 (nx := 120) rfl ?_
              refine v_dup2 dX7_flight_120 (nx := 121) rfl rfl rfl ?_
              refine m_ald10 dX7_flight_121 (nx := 122) rfl ⟨by omega, by omega⟩ ?_
              refine v_iconst dX7_flight_122 (nx := 123) rfl ?_
              refine v_iadd dX7_flight_123 (nx := 124) rfl ?_
              refine m_ast10 dX7_flight_124 (nx := 125) rfl ⟨by omega, by omega⟩ ?_
              refine v_iload 4 dX7_flight_125 (nx := 127) rfl rfl ?_
              exact t_iret dX7_flight_127 rfl (by first | exact lf1 (by unfold s_flight; (repeat (first | rewrite [if_pos (by omega)] | rewrite [if_neg (by omega)])); first | rfl | (refine Prod.ext rfl (Prod.ext (congrArg (uI _ _) ?_) rfl); unfold uI; (repeat rw [if_neg (by omega)]))) | exact lf0 (by unfold s_flight; (repeat (first | rewrite [if_pos (by omega)] | rewrite [if_neg (by omega)])); first | rfl | (refine Prod.ext rfl (Prod.ext (congrArg (uI _ _) ?_) rfl); unfold uI; (repeat rw [if_neg (by omega)]))) | (exfalso; omega))
            · refine v_aload_n 0 dX7_flight_72 (nx := 73) rfl rfl ?_
              refine v_bipush dX7_flight_73 (nx := 75) rfl rfl ?_
              refine t_callVi (a := 14) (c_X7_finding _) dX7_flight_75 (nx := 78) rfl kX7_finding ml_X7_31 (by decide) (ok_m 14 rfl) rfl rfl rfl rfl (Nat.le_of_ble_eq_true rfl) ⟨by decide, by decide⟩ ⟨by decide, by decide⟩ ?_
              exact t_iret dX7_flight_78 rfl (by first | exact lf1 (by unfold s_flight; (repeat (first | rewrite [if_pos (by omega)] | rewrite [if_neg (by omega)])); first | rfl | (refine Prod.ext rfl (Prod.ext (congrArg (uI _ _) ?_) rfl); unfold uI; (repeat rw [if_neg (by omega)]))) | exact lf0 (by unfold s_flight; (repeat (first | rewrite [if_pos (by omega)] | rewrite [if_neg (by omega)])); first | rfl | (refine Prod.ext rfl (Prod.ext (congrArg (uI _ _) ?_) rfl); unfold uI; (repeat rw [if_neg (by omega)]))) | (exfalso; omega))
          · refine v_aload_n 0 dX7_flight_50 (nx := 51) rfl rfl ?_
            refine v_bipush dX7_flight_51 (nx := 53) rfl rfl ?_
            refine t_callVi (a := 14) (c_X7_finding _) dX7_flight_53 (nx := 56) rfl kX7_finding ml_X7_31 (by decide) (ok_m 14 rfl) rfl rfl rfl rfl (Nat.le_of_ble_eq_true rfl) ⟨by decide, by decide⟩ ⟨by decide, by decide⟩ ?_
            exact t_iret dX7_flight_56 rfl (by first | exact lf1 (by unfold s_flight; (repeat (first | rewrite [if_pos (by omega)] | rewrite [if_neg (by omega)])); first | rfl | (refine Prod.ext rfl (Prod.ext (congrArg (uI _ _) ?_) rfl); unfold uI; (repeat rw [if_neg (by omega)]))) | exact lf0 (by unfold s_flight; (repeat (first | rewrite [if_pos (by omega)] | rewrite [if_neg (by omega)])); first | rfl | (refine Prod.ext rfl (Prod.ext (congrArg (uI _ _) ?_) rfl); unfold uI; (repeat rw [if_neg (by omega)]))) | (exfalso; omega))
        · refine v_aload_n 0 dX7_flight_35 (nx := 36) rfl rfl ?_
          refine v_iconst dX7_flight_36 (nx := 37) rfl ?_
          refine t_callVi (a := 14) (c_X7_finding _) dX7_flight_37 (nx := 40) rfl kX7_finding ml_X7_31 (by decide) (ok_m 14 rfl) rfl rfl rfl rfl (Nat.le_of_ble_eq_true rfl) ⟨by decide, by decide⟩ ⟨by decide, by decide⟩ ?_
          exact t_iret dX7_flight_40 rfl (by first | exact lf1 (by unfold s_flight; (repeat (first | rewrite [if_pos (by omega)] | rewrite [if_neg (by omega)])); first | rfl | (refine Prod.ext rfl (Prod.ext (congrArg (uI _ _) ?_) rfl); unfold uI; (repeat rw [if_neg (by omega)]))) | exact lf0 (by unfold s_flight; (repeat (first | rewrite [if_pos (by omega)] | rewrite [if_neg (by omega)])); first | rfl | (refine Prod.ext rfl (Prod.ext (congrArg (uI _ _) ?_) rfl); unfold uI; (repeat rw [if_neg (by omega)]))) | (exfalso; omega))

set_option maxRecDepth 100000 in
theorem c_X7_where {g : GG} {kp : Bool} {σ : SS} {N K G F : Int → Int} {k f : Int} (hR : ∀ j, inR (N j)) (p : Int) (hp : inR p) (b0 : 0 ≤ N 0 ∧ N 0 ≤ 12) (b1 : 0 ≤ N 1 ∧ N 1 ≤ 16) (b2 : 0 ≤ N 2 ∧ N 2 ≤ 8) (b3 : 0 ≤ N 3 ∧ N 3 ≤ 60) : XC g kp 2 mX7_where [rf g (ad 14 0 0), vi p] (mkS σ N K G F k f) (some (vi (s_where N p).1)) (mkS σ (s_where N p).2.1 K G F k (f + (s_where N p).2.2)) := by
  refine TC.of (by decide) (Nat.le_of_ble_eq_true rfl) rfl ?_
  refine v_aload_n 0 dX7_where_0 (nx := 1) rfl rfl ?_
  refine v_iload_n 1 dX7_where_1 (nx := 2) rfl rfl ?_
  refine t_callVi (a := 14) (c_X7_isBag _ (by assumption) (by omega)) dX7_where_2 (nx := 5) rfl kX7_isBag ml_X7_56 (by decide) (ok_m 14 rfl) rfl rfl rfl rfl (Nat.le_of_ble_eq_true rfl) ⟨by decide, by decide⟩ ⟨by decide, by decide⟩ ?_
  refine v_ifB_eq dX7_where_5 (tgt := 21) (by decide) (nx := 8) rfl (fun c5 => ?_) (fun c5 => ?_)
  · refine v_aload_n 0 dX7_where_21 (nx := 22) rfl rfl ?_
    refine v_iconst dX7_where_22 (nx := 23) rfl ?_
    refine t_callVi (a := 14) (c_X7_finding _) dX7_where_23 (nx := 26) rfl kX7_finding ml_X7_31 (by decide) (ok_m 14 rfl) rfl rfl rfl rfl (Nat.le_of_ble_eq_true rfl) ⟨by decide, by decide⟩ ⟨by decide, by decide⟩ ?_
    exact t_iret dX7_where_26 rfl (by first | exact lf1 (by unfold s_where; (repeat (first | rewrite [if_pos (by omega)] | rewrite [if_neg (by omega)])); first | rfl | (refine Prod.ext rfl (Prod.ext (congrArg (uI _ _) ?_) rfl); unfold uI; (repeat rw [if_neg (by omega)]))) | exact lf0 (by unfold s_where; (repeat (first | rewrite [if_pos (by omega)] | rewrite [if_neg (by omega)])); first | rfl | (refine Prod.ext rfl (Prod.ext (congrArg (uI _ _) ?_) rfl); unfold uI; (repeat rw [if_neg (by omega)]))) | (exfalso; omega))
  · refine v_aload_n 0 dX7_where_8 (nx := 9) rfl rfl ?_
    refine m_gA 10 (p := 0) dX7_where_9 (nx := 12) rfl (by decide) fl_X7_9 rfl ?_
    refine v_sipush dX7_where_12 (nx := 15) rfl rfl ?_
    refine v_iload_n 1 dX7_where_15 (nx := 16) rfl rfl ?_
    refine v_iadd dX7_where_16 (nx := 17) rfl ?_
    refine m_ald10 dX7_where_17 (nx := 18) rfl ⟨by omega, by omega⟩ ?_
    refine v_goto dX7_where_18 (tgt := 26) (by decide) ?_
    exact t_iret dX7_where_26 rfl (by first | exact lf1 (by unfold s_where; (repeat (first | rewrite [if_pos (by omega)] | rewrite [if_neg (by omega)])); first | rfl | (refine Prod.ext rfl (Prod.ext (congrArg (uI _ _) ?_) rfl); unfold uI; (repeat rw [if_neg (by omega)]))) | exact lf0 (by unfold s_where; (repeat (first | rewrite [if_pos (by omega)] | rewrite [if_neg (by omega)])); first | rfl | (refine Prod.ext rfl (Prod.ext (congrArg (uI _ _) ?_) rfl); unfold uI; (repeat rw [if_neg (by omega)]))) | (exfalso; omega))

set_option maxRecDepth 100000 in
theorem c_X7_place {g : GG} {kp : Bool} {σ : SS} {N K G F : Int → Int} {k f : Int} (hR : ∀ j, inR (N j)) (p : Int) (hp : inR p) (b0 : 0 ≤ N 0 ∧ N 0 ≤ 12) (b1 : 0 ≤ N 1 ∧ N 1 ≤ 16) (b2 : 0 ≤ N 2 ∧ N 2 ≤ 8) (b3 : 0 ≤ N 3 ∧ N 3 ≤ 60) : XC g kp 2 mX7_place [rf g (ad 14 0 0), vi p] (mkS σ N K G F k f) (some (vi (s_place N p).1)) (mkS σ (s_place N p).2.1 K G F k (f + (s_place N p).2.2)) := by
  refine TC.of (by decide) (Nat.le_of_ble_eq_true rfl) rfl ?_
  refine v_aload_n 0 dX7_place_0 (nx := 1) rfl rfl ?_
  refine v_iload_n 1 dX7_place_1 (nx := 2) rfl rfl ?_
  refine t_callVi (a := 14) (c_X7_isBag _ (by assumption) (by omega)) dX7_place_2 (nx := 5) rfl kX7_isBag ml_X7_56 (by decide) (ok_m 14 rfl) rfl rfl rfl rfl (Nat.le_of_ble_eq_true rfl) ⟨by decide, by decide⟩ ⟨by decide, by decide⟩ ?_
  refine v_ifB_eq dX7_place_5 (tgt := 21) (by decide) (nx := 8) rfl (fun c5 => ?_) (fun c5 => ?_)
  · refine v_aload_n 0 dX7_place_21 (nx := 22) rfl rfl ?_
    refine v_iconst dX7_place_22 (nx := 23) rfl ?_
    refine t_callVi (a := 14) (c_X7_finding _) dX7_place_23 (nx := 26) rfl kX7_finding ml_X7_31 (by decide) (ok_m 14 rfl) rfl rfl rfl rfl (Nat.le_of_ble_eq_true rfl) ⟨by decide, by decide⟩ ⟨by decide, by decide⟩ ?_
    exact t_iret dX7_place_26 rfl (by first | exact lf1 (by unfold s_place; (repeat (first | rewrite [if_pos (by omega)] | rewrite [if_neg (by omega)])); first | rfl | (refine Prod.ext rfl (Prod.ext (congrArg (uI _ _) ?_) rfl); unfold uI; (repeat rw [if_neg (by omega)]))) | exact lf0 (by unfold s_place; (repeat (first | rewrite [if_pos (by omega)] | rewrite [if_neg (by omega)])); first | rfl | (refine Prod.ext rfl (Prod.ext (congrArg (uI _ _) ?_) rfl); unfold uI; (repeat rw [if_neg (by omega)]))) | (exfalso; omega))
  · refine v_aload_n 0 dX7_place_8 (nx := 9) rfl rfl ?_
    refine m_gA 10 (p := 0) dX7_place_9 (nx := 12) rfl (by decide) fl_X7_9 rfl ?_
    refine v_sipush dX7_place_12 (nx := 15) rfl rfl ?_
    refine v_iload_n 1 dX7_place_15 (nx := 16) rfl rfl ?_
    refine v_iadd dX7_place_16 (nx := 17) rfl ?_
    refine m_ald10 dX7_place_17 (nx := 18) rfl ⟨by omega, by omega⟩ ?_
    refine v_goto dX7_place_18 (tgt := 26) (by decide) ?_
    exact t_iret dX7_place_26 rfl (by first | exact lf1 (by unfold s_place; (repeat (first | rewrite [if_pos (by omega)] | rewrite [if_neg (by omega)])); first | rfl | (refine Prod.ext rfl (Prod.ext (congrArg (uI _ _) ?_) rfl); unfold uI; (repeat rw [if_neg (by omega)]))) | exact lf0 (by unfold s_place; (repeat (first | rewrite [if_pos (by omega)] | rewrite [if_neg (by omega)])); first | rfl | (refine Prod.ext rfl (Prod.ext (congrArg (uI _ _) ?_) rfl); unfold uI; (repeat rw [if_neg (by omega)]))) | (exfalso; omega))

set_option maxRecDepth 100000 in
theorem c_X7_steps {g : GG} {kp : Bool} {σ : SS} {N K G F : Int → Int} {k f : Int} (hR : ∀ j, inR (N j)) (p : Int) (hp : inR p) (b0 : 0 ≤ N 0 ∧ N 0 ≤ 12) (b1 : 0 ≤ N 1 ∧ N 1 ≤ 16) (b2 : 0 ≤ N 2 ∧ N 2 ≤ 8) (b3 : 0 ≤ N 3 ∧ N 3 ≤ 60) : XC g kp 2 mX7_steps [rf g (ad 14 0 0), vi p] (mkS σ N K G F k f) (some (vi (s_steps N p).1)) (mkS σ (s_steps N p).2.1 K G F k (f + (s_steps N p).2.2)) := by
  refine TC.of (by decide) (Nat.le_of_ble_eq_true rfl) rfl ?_
  refine v_aload_n 0 dX7_steps_0 (nx := 1) rfl rfl ?_
  refine v_iload_n 1 dX7_steps_1 (nx := 2) rfl rfl ?_
  refine t_callVi (a := 14) (c_X7_isBag _ (by assumption) (by omega)) dX7_steps_2 (nx := 5) rfl kX7_isBag ml_X7_56 (by decide) (ok_m 14 rfl) rfl rfl rfl rfl (Nat.le_of_ble_eq_true rfl) ⟨by decide, by decide⟩ ⟨by decide, by decide⟩ ?_
  refine v_ifB_eq dX7_steps_5 (tgt := 21) (by decide) (nx := 8) rfl (fun c5 => ?_) (fun c5 => ?_)
  · refine v_aload_n 0 dX7_steps_21 (nx := 22) rfl rfl ?_
    refine v_iconst dX7_steps_22 (nx := 23) rfl ?_
    refine t_callVi (a := 14) (c_X7_finding _) dX7_steps_23 (nx := 26) rfl kX7_finding ml_X7_31 (by decide) (ok_m 14 rfl) rfl rfl rfl rfl (Nat.le_of_ble_eq_true rfl) ⟨by decide, by decide⟩ ⟨by decide, by decide⟩ ?_
    exact t_iret dX7_steps_26 rfl (by first | exact lf1 (by unfold s_steps; (repeat (first | rewrite [if_pos (by omega)] | rewrite [if_neg (by omega)])); first | rfl | (refine Prod.ext rfl (Prod.ext (congrArg (uI _ _) ?_) rfl); unfold uI; (repeat rw [if_neg (by omega)]))) | exact lf0 (by unfold s_steps; (repeat (first | rewrite [if_pos (by omega)] | rewrite [if_neg (by omega)])); first | rfl | (refine Prod.ext rfl (Prod.ext (congrArg (uI _ _) ?_) rfl); unfold uI; (repeat rw [if_neg (by omega)]))) | (exfalso; omega))
  · refine v_aload_n 0 dX7_steps_8 (nx := 9) rfl rfl ?_
    refine m_gA 10 (p := 0) dX7_steps_9 (nx := 12) rfl (by decide) fl_X7_9 rfl ?_
    refine v_sipush dX7_steps_12 (nx := 15) rfl rfl ?_
    refine v_iload_n 1 dX7_steps_15 (nx := 16) rfl rfl ?_
    refine v_iadd dX7_steps_16 (nx := 17) rfl ?_
    refine m_ald10 dX7_steps_17 (nx := 18) rfl ⟨by omega, by omega⟩ ?_
    refine v_goto dX7_steps_18 (tgt := 26) (by decide) ?_
    exact t_iret dX7_steps_26 rfl (by first | exact lf1 (by unfold s_steps; (repeat (first | rewrite [if_pos (by omega)] | rewrite [if_neg (by omega)])); first | rfl | (refine Prod.ext rfl (Prod.ext (congrArg (uI _ _) ?_) rfl); unfold uI; (repeat rw [if_neg (by omega)]))) | exact lf0 (by unfold s_steps; (repeat (first | rewrite [if_pos (by omega)] | rewrite [if_neg (by omega)])); first | rfl | (refine Prod.ext rfl (Prod.ext (congrArg (uI _ _) ?_) rfl); unfold uI; (repeat rw [if_neg (by omega)]))) | (exfalso; omega))

set_option maxRecDepth 100000 in
theorem c_X7_fall {g : GG} {kp : Bool} {σ : SS} {N K G F : Int → Int} {k f : Int} (hR : ∀ j, inR (N j)) (b : Int) (on : Int) (hb : inR b) (hon : inR on) (b0 : 0 ≤ N 0 ∧ N 0 ≤ 12) (b1 : 0 ≤ N 1 ∧ N 1 ≤ 16) (b2 : 0 ≤ N 2 ∧ N 2 ≤ 8) (b3 : 0 ≤ N 3 ∧ N 3 ≤ 60) (h01 : on = 0 ∨ on = 1) : XC g kp 2 mX7_fall [rf g (ad 14 0 0), vi b, vi on] (mkS σ N K G F k f) (some (vi (s_fall N b on).1)) (mkS σ (s_fall N b on).2.1 K G F k (f + (s_fall N b on).2.2)) := by
  refine TC.of (by decide) (Nat.le_of_ble_eq_true rfl) rfl ?_
  refine v_aload_n 0 dX7_fall_0 (nx := 1) rfl rfl ?_
  refine v_iload_n 1 dX7_fall_1 (nx := 2) rfl rfl ?_
  refine t_callVi (a := 14) (c_X7_isBelt _ (by assumption) (by omega)) dX7_fall_2 (nx := 5) rfl kX7_isBelt ml_X7_42 (by decide) (ok_m 14 rfl) rfl rfl rfl rfl (Nat.le_of_ble_eq_true rfl) ⟨by decide, by decide⟩ ⟨by decide, by decide⟩ ?_
  refine v_ifB_ne dX7_fall_5 (tgt := 14) (by decide) (nx := 8) rfl (fun c5 => ?_) (fun c5 => ?_)
  · refine v_aload_n 0 dX7_fall_14 (nx := 15) rfl rfl ?_
    refine m_gA 10 (p := 0) dX7_fall_15 (nx := 18) rfl (by decide) fl_X7_9 rfl ?_
    refine v_bipush dX7_fall_18 (nx := 20) rfl rfl ?_
    refine v_iload_n 1 dX7_fall_20 (nx := 21) rfl rfl ?_
    refine v_iadd dX7_fall_21 (nx := 22) rfl ?_
    refine m_ald10 dX7_fall_22 (nx := 23) rfl ⟨by omega, by omega⟩ ?_
    refine v_iconst dX7_fall_23 (nx := 24) rfl ?_
    refine v_icmp_ne dX7_fall_24 (tgt := 31) (by decide) (nx := 27) rfl (by first | assumption | exact hR _ | exact ⟨by omega, by omega⟩) (by first | assumption | exact hR _ | exact ⟨by omega, by omega⟩) (fun c24 => ?_) (fun c24 => ?_)
    · refine v_iconst dX7_fall_31 (nx := 32) rfl ?_
      refine v_istore_n dX7_fall_32 (nx := 33) rfl rfl (by decide) ?_
      refine v_aload_n 0 dX7_fall_33 (nx := 34) rfl rfl ?_
      refine m_gA 10 (p := 0) dX7_fall_34 (nx := 37) rfl (by decide) fl_X7_9 rfl ?_
      refine v_bipush dX7_fall_37 (nx := 39) rfl rfl ?_
      refine v_iload_n 1 dX7_fall_39 (nx := 40) rfl rfl ?_
      refine v_iadd dX7_fall_40 (nx := 41) rfl ?_
      refine v_iload_n 2 dX7_fall_41 (nx := 42) rfl rfl ?_
      refine v_if_eq dX7_fall_42 (tgt := 49) (by decide) (nx := 45) rfl (by first | assumption | exact hR _ | exact ⟨by omega, by omega⟩) (fun c42 => ?_) (fun c42 => ?_)
      · subst c42
        refine v_iconst dX7_fall_49 (nx := 50) rfl ?_
        refine m_ast10 dX7_fall_50 (nx := 51) rfl ⟨by omega, by omega⟩ ?_
        refine v_iload_n 3 dX7_fall_51 (nx := 52) rfl rfl ?_
        refine v_iload_n 2 dX7_fall_52 (nx := 53) rfl rfl ?_
        refine v_icmp_ne dX7_fall_53 (tgt := 60) (by decide) (nx := 56) rfl (by first | assumption | exact hR _ | exact ⟨by omega, by omega⟩) (by first | assumption | exact hR _ | exact ⟨by omega, by omega⟩) (fun c53 => ?_) (fun c53 => ?_)
        · refine v_iconst dX7_fall_60 (nx := 61) rfl ?_
          exact t_iret dX7_fall_61 rfl (by first | exact lf1 (by unfold s_fall; (repeat (first | rewrite [if_pos (by omega)] | rewrite [if_neg (by omega)])); first | rfl | (refine Prod.ext rfl (Prod.ext (congrArg (uI _ _) ?_) rfl); unfold uI; (repeat rw [if_neg (by omega)]))) | exact lf0 (by unfold s_fall; (repeat (first | rewrite [if_pos (by omega)] | rewrite [if_neg (by omega)])); first | rfl | (refine Prod.ext rfl (Prod.ext (congrArg (uI _ _) ?_) rfl); unfold uI; (repeat rw [if_neg (by omega)]))) | (exfalso; omega))
        · refine v_iconst dX7_fall_56 (nx := 57) rfl ?_
          refine v_goto dX7_fall_57 (tgt := 61) (by decide) ?_
          exact t_iret dX7_fall_61 rfl (by first | exact lf1 (by unfold s_fall; (repeat (first | rewrite [if_pos (by omega)] | rewrite [if_neg (by omega)])); first | rfl | (refine Prod.ext rfl (Prod.ext (congrArg (uI _ _) ?_) rfl); unfold uI; (repeat rw [if_neg (by omega)]))) | exact lf0 (by unfold s_fall; (repeat (first | rewrite [if_pos (by omega)] | rewrite [if_neg (by omega)])); first | rfl | (refine Prod.ext rfl (Prod.ext (congrArg (uI _ _) ?_) rfl); unfold uI; (repeat rw [if_neg (by omega)]))) | (exfalso; omega))
      · obtain rfl : on = 1 := by omega
        refine v_iconst dX7_fall_45 (nx := 46) rfl ?_
        refine v_goto dX7_fall_46 (tgt := 50) (by decide) ?_
        refine m_ast10 dX7_fall_50 (nx := 51) rfl ⟨by omega, by omega⟩ ?_
        refine v_iload_n 3 dX7_fall_51 (nx := 52) rfl rfl ?_
        refine v_iload_n 2 dX7_fall_52 (nx := 53) rfl rfl ?_
        refine v_icmp_ne dX7_fall_53 (tgt := 60) (by decide) (nx := 56) rfl (by first | assumption | exact hR _ | exact ⟨by omega, by omega⟩) (by first | assumption | exact hR _ | exact ⟨by omega, by omega⟩) (fun c53 => ?_) (fun c53 => ?_)
        · refine v_iconst dX7_fall_60 (nx := 61) rfl ?_
          exact t_iret dX7_fall_61 rfl (by first | exact lf1 (by unfold s_fall; (repeat (first | rewrite [if_pos (by omega)] | rewrite [if_neg (by omega)])); first | rfl | (refine Prod.ext rfl (Prod.ext (congrArg (uI _ _) ?_) rfl); unfold uI; (repeat rw [if_neg (by omega)]))) | exact lf0 (by unfold s_fall; (repeat (first | rewrite [if_pos (by omega)] | rewrite [if_neg (by omega)])); first | rfl | (refine Prod.ext rfl (Prod.ext (congrArg (uI _ _) ?_) rfl); unfold uI; (repeat rw [if_neg (by omega)]))) | (exfalso; omega))
        · refine v_iconst dX7_fall_56 (nx := 57) rfl ?_
          refine v_goto dX7_fall_57 (tgt := 61) (by decide) ?_
          exact t_iret dX7_fall_61 rfl (by first | exact lf1 (by unfold s_fall; (repeat (first | rewrite [if_pos (by omega)] | rewrite [if_neg (by omega)])); first | rfl | (refine Prod.ext rfl (Prod.ext (congrArg (uI _ _) ?_) rfl); unfold uI; (repeat rw [if_neg (by omega)]))) | exact lf0 (by unfold s_fall; (repeat (first | rewrite [if_pos (by omega)] | rewrite [if_neg (by omega)])); first | rfl | (refine Prod.ext rfl (Prod.ext (congrArg (uI _ _) ?_) rfl); unfold uI; (repeat rw [if_neg (by omega)]))) | (exfalso; omega))
    · refine v_iconst dX7_fall_27 (nx := 28) rfl ?_
      refine v_goto dX7_fall_28 (tgt := 32) (by decide) ?_
      refine v_istore_n dX7_fall_32 (nx := 33) rfl rfl (by decide) ?_
      refine v_aload_n 0 dX7_fall_33 (nx := 34) rfl rfl ?_
      refine m_gA 10 (p := 0) dX7_fall_34 (nx := 37) rfl (by decide) fl_X7_9 rfl ?_
      refine v_bipush dX7_fall_37 (nx := 39) rfl rfl ?_
      refine v_iload_n 1 dX7_fall_39 (nx := 40) rfl rfl ?_
      refine v_iadd dX7_fall_40 (nx := 41) rfl ?_
      refine v_iload_n 2 dX7_fall_41 (nx := 42) rfl rfl ?_
      refine v_if_eq dX7_fall_42 (tgt := 49) (by decide) (nx := 45) rfl (by first | assumption | exact hR _ | exact ⟨by omega, by omega⟩) (fun c42 => ?_) (fun c42 => ?_)
      · subst c42
        refine v_iconst dX7_fall_49 (nx := 50) rfl ?_
        refine m_ast10 dX7_fall_50 (nx := 51) rfl ⟨by omega, by omega⟩ ?_
        refine v_iload_n 3 dX7_fall_51 (nx := 52) rfl rfl ?_
        refine v_iload_n 2 dX7_fall_52 (nx := 53) rfl rfl ?_
        refine v_icmp_ne dX7_fall_53 (tgt := 60) (by decide) (nx := 56) rfl (by first | assumption | exact hR _ | exact ⟨by omega, by omega⟩) (by first | assumption | exact hR _ | exact ⟨by omega, by omega⟩) (fun c53 => ?_) (fun c53 => ?_)
        · refine v_iconst dX7_fall_60 (nx := 61) rfl ?_
          exact t_iret dX7_fall_61 rfl (by first | exact lf1 (by unfold s_fall; (repeat (first | rewrite [if_pos (by omega)] | rewrite [if_neg (by omega)])); first | rfl | (refine Prod.ext rfl (Prod.ext (congrArg (uI _ _) ?_) rfl); unfold uI; (repeat rw [if_neg (by omega)]))) | exact lf0 (by unfold s_fall; (repeat (first | rewrite [if_pos (by omega)] | rewrite [if_neg (by omega)])); first | rfl | (refine Prod.ext rfl (Prod.ext (congrArg (uI _ _) ?_) rfl); unfold uI; (repeat rw [if_neg (by omega)]))) | (exfalso; omega))
        · refine v_iconst dX7_fall_56 (nx := 57) rfl ?_
          refine v_goto dX7_fall_57 (tgt := 61) (by decide) ?_
          exact t_iret dX7_fall_61 rfl (by first | exact lf1 (by unfold s_fall; (repeat (first | rewrite [if_pos (by omega)] | rewrite [if_neg (by omega)])); first | rfl | (refine Prod.ext rfl (Prod.ext (congrArg (uI _ _) ?_) rfl); unfold uI; (repeat rw [if_neg (by omega)]))) | exact lf0 (by unfold s_fall; (repeat (first | rewrite [if_pos (by omega)] | rewrite [if_neg (by omega)])); first | rfl | (refine Prod.ext rfl (Prod.ext (congrArg (uI _ _) ?_) rfl); unfold uI; (repeat rw [if_neg (by omega)]))) | (exfalso; omega))
      · obtain rfl : on = 1 := by omega
        refine v_iconst dX7_fall_45 (nx := 46) rfl ?_
        refine v_goto dX7_fall_46 (tgt := 50) (by decide) ?_
        refine m_ast10 dX7_fall_50 (nx := 51) rfl ⟨by omega, by omega⟩ ?_
        refine v_iload_n 3 dX7_fall_51 (nx := 52) rfl rfl ?_
        refine v_iload_n 2 dX7_fall_52 (nx := 53) rfl rfl ?_
        refine v_icmp_ne dX7_fall_53 (tgt := 60) (by decide) (nx := 56) rfl (by first | assumption | exact hR _ | exact ⟨by omega, by omega⟩) (by first | assumption | exact hR _ | exact ⟨by omega, by omega⟩) (fun c53 => ?_) (fun c53 => ?_)
        · refine v_iconst dX7_fall_60 (nx := 61) rfl ?_
          exact t_iret dX7_fall_61 rfl (by first | exact lf1 (by unfold s_fall; (repeat (first | rewrite [if_pos (by omega)] | rewrite [if_neg (by omega)])); first | rfl | (refine Prod.ext rfl (Prod.ext (congrArg (uI _ _) ?_) rfl); unfold uI; (repeat rw [if_neg (by omega)]))) | exact lf0 (by unfold s_fall; (repeat (first | rewrite [if_pos (by omega)] | rewrite [if_neg (by omega)])); first | rfl | (refine Prod.ext rfl (Prod.ext (congrArg (uI _ _) ?_) rfl); unfold uI; (repeat rw [if_neg (by omega)]))) | (exfalso; omega))
        · refine v_iconst dX7_fall_56 (nx := 57) rfl ?_
          refine v_goto dX7_fall_57 (tgt := 61) (by decide) ?_
          exact t_iret dX7_fall_61 rfl (by first | exact lf1 (by unfold s_fall; (repeat (first | rewrite [if_pos (by omega)] | rewrite [if_neg (by omega)])); first | rfl | (refine Prod.ext rfl (Prod.ext (congrArg (uI _ _) ?_) rfl); unfold uI; (repeat rw [if_neg (by omega)]))) | exact lf0 (by unfold s_fall; (repeat (first | rewrite [if_pos (by omega)] | rewrite [if_neg (by omega)])); first | rfl | (refine Prod.ext rfl (Prod.ext (congrArg (uI _ _) ?_) rfl); unfold uI; (repeat rw [if_neg (by omega)]))) | (exfalso; omega))
  · refine v_aload_n 0 dX7_fall_8 (nx := 9) rfl rfl ?_
    refine v_iconst dX7_fall_9 (nx := 10) rfl ?_
    refine t_callVi (a := 14) (c_X7_finding _) dX7_fall_10 (nx := 13) rfl kX7_finding ml_X7_31 (by decide) (ok_m 14 rfl) rfl rfl rfl rfl (Nat.le_of_ble_eq_true rfl) ⟨by decide, by decide⟩ ⟨by decide, by decide⟩ ?_
    exact t_iret dX7_fall_13 rfl (by first | exact lf1 (by unfold s_fall; (repeat (first | rewrite [if_pos (by omega)] | rewrite [if_neg (by omega)])); first | rfl | (refine Prod.ext rfl (Prod.ext (congrArg (uI _ _) ?_) rfl); unfold uI; (repeat rw [if_neg (by omega)]))) | exact lf0 (by unfold s_fall; (repeat (first | rewrite [if_pos (by omega)] | rewrite [if_neg (by omega)])); first | rfl | (refine Prod.ext rfl (Prod.ext (congrArg (uI _ _) ?_) rfl); unfold uI; (repeat rw [if_neg (by omega)]))) | (exfalso; omega))

set_option maxRecDepth 100000 in
theorem c_X7_lies {g : GG} {kp : Bool} {σ : SS} {N K G F : Int → Int} {k f : Int} (b w p d : Int) (hb : 0 ≤ b ∧ b < 60) : XC g kp 0 mX7_lies [rf g (ad 14 0 0), vi b, vi w, vi p, vi d] (mkS σ N K G F k f) none (mkS σ (liesN N b w p d) K G F k f) := by
  refine TC.of (by decide) (Nat.le_of_ble_eq_true rfl) rfl ?_
  refine v_aload_n 0 dX7_lies_0 (nx := 1) rfl rfl ?_
  refine m_gA 10 (p := 0) dX7_lies_1 (nx := 4) rfl (by decide) fl_X7_9 rfl ?_
  refine v_sipush dX7_lies_4 (nx := 7) rfl rfl ?_
  refine v_iload_n 1 dX7_lies_7 (nx := 8) rfl rfl ?_
  refine v_iadd dX7_lies_8 (nx := 9) rfl ?_
  refine v_iload_n 2 dX7_lies_9 (nx := 10) rfl rfl ?_
  refine m_ast10 dX7_lies_10 (nx := 11) rfl ⟨by omega, by omega⟩ ?_
  refine v_aload_n 0 dX7_lies_11 (nx := 12) rfl rfl ?_
  refine m_gA 10 (p := 0) dX7_lies_12 (nx := 15) rfl (by decide) fl_X7_9 rfl ?_
  refine v_sipush dX7_lies_15 (nx := 18) rfl rfl ?_
  refine v_iload_n 1 dX7_lies_18 (nx := 19) rfl rfl ?_
  refine v_iadd dX7_lies_19 (nx := 20) rfl ?_
  refine v_iload_n 3 dX7_lies_20 (nx := 21) rfl rfl ?_
  refine m_ast10 dX7_lies_21 (nx := 22) rfl ⟨by omega, by omega⟩ ?_
  refine v_aload_n 0 dX7_lies_22 (nx := 23) rfl rfl ?_
  refine m_gA 10 (p := 0) dX7_lies_23 (nx := 26) rfl (by decide) fl_X7_9 rfl ?_
  refine v_sipush dX7_lies_26 (nx := 29) rfl rfl ?_
  refine v_iload_n 1 dX7_lies_29 (nx := 30) rfl rfl ?_
  refine v_iadd dX7_lies_30 (nx := 31) rfl ?_
  refine v_iload 4 dX7_lies_31 (nx := 33) rfl rfl ?_
  refine m_ast10 dX7_lies_33 (nx := 34) rfl ⟨by omega, by omega⟩ ?_
  exact t_ret dX7_lies_34 rfl ⟨rfl, rfl⟩

set_option maxRecDepth 100000 in
theorem c_X7_waits {g : GG} {kp : Bool} {σ : SS} {N K G F : Int → Int} {k f : Int} (b p : Int) (hb : 0 ≤ b ∧ b < 60) : XC g kp 1 mX7_waits [rf g (ad 14 0 0), vi b, vi p] (mkS σ N K G F k f) none (mkS σ (waitsN N b p) K G F k f) := by
  refine TC.of (by decide) (Nat.le_of_ble_eq_true rfl) rfl ?_
  refine v_aload_n 0 dX7_waits_0 (nx := 1) rfl rfl ?_
  refine v_iload_n 1 dX7_waits_1 (nx := 2) rfl rfl ?_
  refine v_iconst dX7_waits_2 (nx := 3) rfl ?_
  refine v_iload_n 2 dX7_waits_3 (nx := 4) rfl rfl ?_
  refine v_aload_n 0 dX7_waits_4 (nx := 5) rfl rfl ?_
  refine m_gA 10 (p := 0) dX7_waits_5 (nx := 8) rfl (by decide) fl_X7_9 rfl ?_
  refine v_iconst dX7_waits_8 (nx := 9) rfl ?_
  refine m_ald10 dX7_waits_9 (nx := 10) rfl ⟨by omega, by omega⟩ ?_
  refine t_callVv (a := 14) (c_X7_lies _ _ _ _ hb) dX7_waits_10 (nx := 13) rfl kX7_lies ml_X7_45 (by decide) (ok_m 14 rfl) rfl rfl rfl rfl (Nat.le_of_ble_eq_true rfl) ⟨by decide, by decide⟩ ⟨by decide, by decide⟩ ?_
  refine v_aload_n 0 dX7_waits_13 (nx := 14) rfl rfl ?_
  refine m_gA 10 (p := 0) dX7_waits_14 (nx := 17) rfl (by decide) fl_X7_9 rfl ?_
  refine v_iconst dX7_waits_17 (nx := 18) rfl ?_
  refine v_dup2 dX7_waits_18 (nx := 19) rfl rfl rfl ?_
  refine m_ald10e (z := N 5) dX7_waits_19 (nx := 20) rfl ⟨by omega, by omega⟩ (by unfold liesN; repeat rw [uI_n (by omega)]) ?_
  refine v_iconst dX7_waits_20 (nx := 21) rfl ?_
  refine v_iadd dX7_waits_21 (nx := 22) rfl ?_
  refine m_ast10 dX7_waits_22 (nx := 23) rfl ⟨by omega, by omega⟩ ?_
  exact t_ret dX7_waits_23 rfl ⟨rfl, rfl⟩

set_option maxRecDepth 100000 in
theorem c_X7_step {g : GG} {kp : Bool} {σ : SS} {N K G F : Int → Int} {k f : Int} (hR : ∀ j, inR (N j)) (b : Int) (i : Int) (tk : Int) (hb : inR b) (hi : inR i) (htk : inR tk) (b0 : 0 ≤ N 0 ∧ N 0 ≤ 12) (b1 : 0 ≤ N 1 ∧ N 1 ≤ 16) (b2 : 0 ≤ N 2 ∧ N 2 ≤ 8) (b3 : 0 ≤ N 3 ∧ N 3 ≤ 60) (hs : ∀ b, 0 ≤ b → b < N 3 → 0 ≤ N (664 + b) ∧ N (664 + b) < 1000000) (h01 : tk = 0 ∨ tk = 1) : XC g kp 2 mX7_step [rf g (ad 14 0 0), vi b, vi i, vi tk] (mkS σ N K G F k f) (some (vi (s_step N b i tk).1)) (mkS σ (s_step N b i tk).2.1 K G F k (f + (s_step N b i tk).2.2)) := by
  refine TC.of (by decide) (Nat.le_of_ble_eq_true rfl) rfl ?_
  refine v_aload_n 0 dX7_step_0 (nx := 1) rfl rfl ?_
  refine v_iload_n 1 dX7_step_1 (nx := 2) rfl rfl ?_
  refine t_callVi (a := 14) (c_X7_isBag _ (by assumption) (by omega)) dX7_step_2 (nx := 5) rfl kX7_isBag ml_X7_56 (by decide) (ok_m 14 rfl) rfl rfl rfl rfl (Nat.le_of_ble_eq_true rfl) ⟨by decide, by decide⟩ ⟨by decide, by decide⟩ ?_
  refine v_ifB_eq dX7_step_5 (tgt := 33) (by decide) (nx := 8) rfl (fun c5 => ?_) (fun c5 => ?_)
  · refine v_aload_n 0 dX7_step_33 (nx := 34) rfl rfl ?_
    refine v_iconst dX7_step_34 (nx := 35) rfl ?_
    refine t_callVi (a := 14) (c_X7_finding _) dX7_step_35 (nx := 38) rfl kX7_finding ml_X7_31 (by decide) (ok_m 14 rfl) rfl rfl rfl rfl (Nat.le_of_ble_eq_true rfl) ⟨by decide, by decide⟩ ⟨by decide, by decide⟩ ?_
    exact t_iret dX7_step_38 rfl (by first | exact lf1 (by unfold s_step; (repeat (first | rewrite [if_pos (by omega)] | rewrite [if_neg (by omega)])); first | rfl | (refine Prod.ext rfl (Prod.ext (congrArg (uI _ _) ?_) rfl); unfold uI; (repeat rw [if_neg (by omega)]))) | exact lf0 (by unfold s_step; (repeat (first | rewrite [if_pos (by omega)] | rewrite [if_neg (by omega)])); first | rfl | (refine Prod.ext rfl (Prod.ext (congrArg (uI _ _) ?_) rfl); unfold uI; (repeat rw [if_neg (by omega)]))) | (exfalso; omega))
  · have hsb := hs b (by omega) (by omega)
    refine v_iload_n 2 dX7_step_8 (nx := 9) rfl rfl ?_
    refine v_iconst dX7_step_9 (nx := 10) rfl ?_
    refine v_aload_n 0 dX7_step_10 (nx := 11) rfl rfl ?_
    refine m_gA 10 (p := 0) dX7_step_11 (nx := 14) rfl (by decide) fl_X7_9 rfl ?_
    refine v_sipush dX7_step_14 (nx := 17) rfl rfl ?_
    refine v_iload_n 1 dX7_step_17 (nx := 18) rfl rfl ?_
    refine v_iadd dX7_step_18 (nx := 19) rfl ?_
    refine m_ald10 dX7_step_19 (nx := 20) rfl ⟨by omega, by omega⟩ ?_
    refine v_bipush dX7_step_20 (nx := 22) rfl rfl ?_
    refine t_min dX7_step_22 (nx := 25) rfl ml_X7_62 ⟨by decide, by decide⟩ (hR _) (by exact ⟨by decide, by decide⟩) (Nat.le_of_ble_eq_true rfl) ⟨by decide, by decide⟩ ?_
    refine v_iconst dX7_step_25 (nx := 26) rfl ?_
    refine v_isub dX7_step_26 (nx := 27) rfl ?_
    refine t_callSi (c_X7_in _ _ _ (by assumption) (by exact ⟨by decide, by decide⟩) (by split <;> exact ⟨by omega, by omega⟩)) dX7_step_27 (nx := 30) rfl kX7_in ml_X7_27 rfl rfl (Nat.le_of_ble_eq_true rfl) ⟨by decide, by decide⟩ ⟨by decide, by decide⟩ ?_
    refine v_ifB_ne dX7_step_30 (tgt := 39) (by decide) (nx := 33) rfl (fun c30 => ?_) (fun c30 => ?_)
    · refine v_aload_n 0 dX7_step_39 (nx := 40) rfl rfl ?_
      refine m_gA 10 (p := 0) dX7_step_40 (nx := 43) rfl (by decide) fl_X7_9 rfl ?_
      refine v_iload_n 3 dX7_step_43 (nx := 44) rfl rfl ?_
      refine v_if_eq dX7_step_44 (tgt := 53) (by decide) (nx := 47) rfl (by first | assumption | exact hR _ | exact ⟨by omega, by omega⟩) (fun c44 => ?_) (fun c44 => ?_)
      · refine v_sipush dX7_step_53 (nx := 56) rfl rfl ?_
        refine v_bipush dX7_step_56 (nx := 58) rfl rfl ?_
        refine v_iload_n 1 dX7_step_58 (nx := 59) rfl rfl ?_
        refine v_imul dX7_step_59 (nx := 60) rfl ?_
        refine v_iadd dX7_step_60 (nx := 61) rfl ?_
        refine v_iload_n 2 dX7_step_61 (nx := 62) rfl rfl ?_
        refine v_iadd dX7_step_62 (nx := 63) rfl ?_
        refine m_ald10 dX7_step_63 (nx := 64) rfl (by split at c30 <;> exact ⟨by omega, by omega⟩) ?_
        exact t_iret dX7_step_64 rfl (by first | exact lf1 (by unfold s_step; (repeat (first | rewrite [if_pos (by omega)] | rewrite [if_neg (by omega)])); first | rfl | (refine Prod.ext rfl (Prod.ext (congrArg (uI _ _) ?_) rfl); unfold uI; (repeat rw [if_neg (by omega)]))) | exact lf0 (by unfold s_step; (repeat (first | rewrite [if_pos (by omega)] | rewrite [if_neg (by omega)])); first | rfl | (refine Prod.ext rfl (Prod.ext (congrArg (uI _ _) ?_) rfl); unfold uI; (repeat rw [if_neg (by omega)]))) | (exfalso; omega))
      · refine v_sipush dX7_step_47 (nx := 50) rfl rfl ?_
        refine v_goto dX7_step_50 (tgt := 56) (by decide) ?_
        refine v_bipush dX7_step_56 (nx := 58) rfl rfl ?_
        refine v_iload_n 1 dX7_step_58 (nx := 59) rfl rfl ?_
        refine v_imul dX7_step_59 (nx := 60) rfl ?_
        refine v_iadd dX7_step_60 (nx := 61) rfl ?_
        refine v_iload_n 2 dX7_step_61 (nx := 62) rfl rfl ?_
        refine v_iadd dX7_step_62 (nx := 63) rfl ?_
        refine m_ald10 dX7_step_63 (nx := 64) rfl (by split at c30 <;> exact ⟨by omega, by omega⟩) ?_
        exact t_iret dX7_step_64 rfl (by first | exact lf1 (by unfold s_step; (repeat (first | rewrite [if_pos (by omega)] | rewrite [if_neg (by omega)])); first | rfl | (refine Prod.ext rfl (Prod.ext (congrArg (uI _ _) ?_) rfl); unfold uI; (repeat rw [if_neg (by omega)]))) | exact lf0 (by unfold s_step; (repeat (first | rewrite [if_pos (by omega)] | rewrite [if_neg (by omega)])); first | rfl | (refine Prod.ext rfl (Prod.ext (congrArg (uI _ _) ?_) rfl); unfold uI; (repeat rw [if_neg (by omega)]))) | (exfalso; omega))
    · refine v_aload_n 0 dX7_step_33 (nx := 34) rfl rfl ?_
      refine v_iconst dX7_step_34 (nx := 35) rfl ?_
      refine t_callVi (a := 14) (c_X7_finding _) dX7_step_35 (nx := 38) rfl kX7_finding ml_X7_31 (by decide) (ok_m 14 rfl) rfl rfl rfl rfl (Nat.le_of_ble_eq_true rfl) ⟨by decide, by decide⟩ ⟨by decide, by decide⟩ ?_
      exact t_iret dX7_step_38 rfl (by first | exact lf1 (by unfold s_step; (repeat (first | rewrite [if_pos (by omega)] | rewrite [if_neg (by omega)])); first | rfl | (refine Prod.ext rfl (Prod.ext (congrArg (uI _ _) ?_) rfl); unfold uI; (repeat rw [if_neg (by omega)]))) | exact lf0 (by unfold s_step; (repeat (first | rewrite [if_pos (by omega)] | rewrite [if_neg (by omega)])); first | rfl | (refine Prod.ext rfl (Prod.ext (congrArg (uI _ _) ?_) rfl); unfold uI; (repeat rw [if_neg (by omega)]))) | (exfalso; omega))

set_option maxRecDepth 100000 in
theorem c_X7_goes {g : GG} {kp : Bool} {σ : SS} {N K G F : Int → Int} {k f : Int} (hR : ∀ j, inR (N j)) (b p : Int) (hb : 0 ≤ b ∧ b < 60) (hs : 0 ≤ N (664 + b)) : XC g kp 0 mX7_goes [rf g (ad 14 0 0), vi b, vi p] (mkS σ N K G F k f) none (mkS σ (goesN N b p) K G F k f) := by
  refine TC.of (by decide) (Nat.le_of_ble_eq_true rfl) rfl ?_
  refine v_aload_n 0 dX7_goes_0 (nx := 1) rfl rfl ?_
  refine m_gA 10 (p := 0) dX7_goes_1 (nx := 4) rfl (by decide) fl_X7_9 rfl ?_
  refine v_sipush dX7_goes_4 (nx := 7) rfl rfl ?_
  refine v_iload_n 1 dX7_goes_7 (nx := 8) rfl rfl ?_
  refine v_iadd dX7_goes_8 (nx := 9) rfl ?_
  refine m_ald10 dX7_goes_9 (nx := 10) rfl ⟨by omega, by omega⟩ ?_
  refine v_istore_n dX7_goes_10 (nx := 11) rfl rfl (by decide) ?_
  refine v_iload_n 3 dX7_goes_11 (nx := 12) rfl rfl ?_
  refine v_bipush dX7_goes_12 (nx := 14) rfl rfl ?_
  refine v_icmp_ge dX7_goes_14 (tgt := 54) (by decide) (nx := 17) rfl (by first | assumption | exact hR _ | exact ⟨by omega, by omega⟩) (by first | assumption | exact hR _ | exact ⟨by omega, by omega⟩) (fun c14 => ?_) (fun c14 => ?_)
  · refine v_aload_n 0 dX7_goes_54 (nx := 55) rfl rfl ?_
    refine m_gA 10 (p := 0) dX7_goes_55 (nx := 58) rfl (by decide) fl_X7_9 rfl ?_
    refine v_sipush dX7_goes_58 (nx := 61) rfl rfl ?_
    refine v_iload_n 1 dX7_goes_61 (nx := 62) rfl rfl ?_
    refine v_iadd dX7_goes_62 (nx := 63) rfl ?_
    refine v_dup2 dX7_goes_63 (nx := 64) rfl rfl rfl ?_
    refine m_ald10e (z := N (664 + b)) dX7_goes_64 (nx := 65) rfl ⟨by omega, by omega⟩ (by first | rfl | (repeat rw [uI_n (by omega)])) ?_
    refine v_iconst dX7_goes_65 (nx := 66) rfl ?_
    refine v_iadd dX7_goes_66 (nx := 67) rfl ?_
    refine m_ast10 dX7_goes_67 (nx := 68) rfl ⟨by omega, by omega⟩ ?_
    exact t_ret dX7_goes_68 rfl ⟨rfl, by unfold goesN; first | rw [if_pos (by omega)] | rw [if_neg (by omega)]⟩
  · refine v_aload_n 0 dX7_goes_17 (nx := 18) rfl rfl ?_
    refine m_gA 10 (p := 0) dX7_goes_18 (nx := 21) rfl (by decide) fl_X7_9 rfl ?_
    refine v_sipush dX7_goes_21 (nx := 24) rfl rfl ?_
    refine v_bipush dX7_goes_24 (nx := 26) rfl rfl ?_
    refine v_iload_n 1 dX7_goes_26 (nx := 27) rfl rfl ?_
    refine v_imul dX7_goes_27 (nx := 28) rfl ?_
    refine v_iadd dX7_goes_28 (nx := 29) rfl ?_
    refine v_iload_n 3 dX7_goes_29 (nx := 30) rfl rfl ?_
    refine v_iadd dX7_goes_30 (nx := 31) rfl ?_
    refine v_iload_n 2 dX7_goes_31 (nx := 32) rfl rfl ?_
    refine m_ast10 dX7_goes_32 (nx := 33) rfl ⟨by omega, by omega⟩ ?_
    refine v_aload_n 0 dX7_goes_33 (nx := 34) rfl rfl ?_
    refine m_gA 10 (p := 0) dX7_goes_34 (nx := 37) rfl (by decide) fl_X7_9 rfl ?_
    refine v_sipush dX7_goes_37 (nx := 40) rfl rfl ?_
    refine v_bipush dX7_goes_40 (nx := 42) rfl rfl ?_
    refine v_iload_n 1 dX7_goes_42 (nx := 43) rfl rfl ?_
    refine v_imul dX7_goes_43 (nx := 44) rfl ?_
    refine v_iadd dX7_goes_44 (nx := 45) rfl ?_
    refine v_iload_n 3 dX7_goes_45 (nx := 46) rfl rfl ?_
    refine v_iadd dX7_goes_46 (nx := 47) rfl ?_
    refine v_aload_n 0 dX7_goes_47 (nx := 48) rfl rfl ?_
    refine m_gA 10 (p := 0) dX7_goes_48 (nx := 51) rfl (by decide) fl_X7_9 rfl ?_
    refine v_iconst dX7_goes_51 (nx := 52) rfl ?_
    refine m_ald10e (z := N 4) dX7_goes_52 (nx := 53) rfl ⟨by omega, by omega⟩ (by first | rfl | (repeat rw [uI_n (by omega)])) ?_
    refine m_ast10 dX7_goes_53 (nx := 54) rfl ⟨by omega, by omega⟩ ?_
    refine v_aload_n 0 dX7_goes_54 (nx := 55) rfl rfl ?_
    refine m_gA 10 (p := 0) dX7_goes_55 (nx := 58) rfl (by decide) fl_X7_9 rfl ?_
    refine v_sipush dX7_goes_58 (nx := 61) rfl rfl ?_
    refine v_iload_n 1 dX7_goes_61 (nx := 62) rfl rfl ?_
    refine v_iadd dX7_goes_62 (nx := 63) rfl ?_
    refine v_dup2 dX7_goes_63 (nx := 64) rfl rfl rfl ?_
    refine m_ald10e (z := N (664 + b)) dX7_goes_64 (nx := 65) rfl ⟨by omega, by omega⟩ (by first | rfl | (repeat rw [uI_n (by omega)])) ?_
    refine v_iconst dX7_goes_65 (nx := 66) rfl ?_
    refine v_iadd dX7_goes_66 (nx := 67) rfl ?_
    refine m_ast10 dX7_goes_67 (nx := 68) rfl ⟨by omega, by omega⟩ ?_
    exact t_ret dX7_goes_68 rfl ⟨rfl, by unfold goesN; first | rw [if_pos (by omega)] | rw [if_neg (by omega)]⟩
end
section
set_option maxRecDepth 100000 in
theorem l_X7_waitingAt {g : GG} {kp : Bool} {σ : SS} {N K G F : Int → Int} {k f : Int} (hR : ∀ j, inR (N j)) (p : Int) (hp : inR p) (b3 : 0 ≤ N 3 ∧ N 3 ≤ 60) : ∀ (m : Nat) (x c : Int), (0 ≤ x ∧ x ≤ N 3) → (N 3 - x < m) → (c = cntI (wP N 0 p) x) → V g (rmD 0 0 0) mX7_waitingAt (ZT g kp (fun r τ => r = (some (vi (cntI (wP N 0 p) (N 3)))) ∧ τ = (mkS σ N K G F k f))) E0 4 [(0, rf g (ad 14 0 0)), (1, vi p), (2, vi c), (3, vi x)] [] (vw g kp (mkS σ N K G F k f)) (sz kp) 0 0 := by
  intro m
  induction m with
  | zero => intro x c hx hm hc; exfalso; omega
  | succ m ih =>
    intro x c hx hm hc
    have hcb := cntI_b (P := wP N 0 p) hx.1
    rw [← hc] at hcb
    refine v_iload_n 3 dX7_waitingAt_4 (nx := 5) rfl rfl ?_
    refine v_aload_n 0 dX7_waitingAt_5 (nx := 6) rfl rfl ?_
    refine m_gA 10 (p := 0) dX7_waitingAt_6 (nx := 9) rfl (by decide) fl_X7_9 rfl ?_
    refine v_iconst dX7_waitingAt_9 (nx := 10) rfl ?_
    refine m_ald10 dX7_waitingAt_10 (nx := 11) rfl ⟨by omega, by omega⟩ ?_
    refine v_icmp_ge dX7_waitingAt_11 (tgt := 55) (by decide) (nx := 14) rfl (by first | assumption | exact hR _ | exact ⟨by omega, by omega⟩) (by first | assumption | exact hR _ | exact ⟨by omega, by omega⟩) (fun c11 => ?_) (fun c11 => ?_)
    · refine v_iload_n 2 dX7_waitingAt_55 (nx := 56) rfl rfl ?_
      exact t_iret dX7_waitingAt_56 rfl ⟨by rw [hc, show x = N 3 by omega], rfl⟩
    · refine v_iload_n 2 dX7_waitingAt_14 (nx := 15) rfl rfl ?_
      refine v_aload_n 0 dX7_waitingAt_15 (nx := 16) rfl rfl ?_
      refine m_gA 10 (p := 0) dX7_waitingAt_16 (nx := 19) rfl (by decide) fl_X7_9 rfl ?_
      refine v_sipush dX7_waitingAt_19 (nx := 22) rfl rfl ?_
      refine v_iload_n 3 dX7_waitingAt_22 (nx := 23) rfl rfl ?_
      refine v_iadd dX7_waitingAt_23 (nx := 24) rfl ?_
      refine m_ald10 dX7_waitingAt_24 (nx := 25) rfl ⟨by omega, by omega⟩ ?_
      refine v_if_ne dX7_waitingAt_25 (tgt := 46) (by decide) (nx := 28) rfl (by first | assumption | exact hR _ | exact ⟨by omega, by omega⟩) (fun c25 => ?_) (fun c25 => ?_)
      · refine v_iconst dX7_waitingAt_46 (nx := 47) rfl ?_
        refine v_iadd dX7_waitingAt_47 (nx := 48) rfl ?_
        refine v_istore_n dX7_waitingAt_48 (nx := 49) rfl rfl (by decide) ?_
        refine v_iinc 3 dX7_waitingAt_49 (nx := 52) rfl rfl rfl (by decide) ?_
        refine v_goto dX7_waitingAt_52 (tgt := 4) (by decide) ?_
        exact ih _ _ ⟨by omega, by omega⟩ (by omega) (by first | exact cn_t hc hx.1 (decide_eq_true (by omega)) | exact cn_f hc hx.1 (decide_eq_false (by omega)) | exact cn_n hc hx.1 (decide_eq_false (by omega)))
      · refine v_aload_n 0 dX7_waitingAt_28 (nx := 29) rfl rfl ?_
        refine m_gA 10 (p := 0) dX7_waitingAt_29 (nx := 32) rfl (by decide) fl_X7_9 rfl ?_
        refine v_sipush dX7_waitingAt_32 (nx := 35) rfl rfl ?_
        refine v_iload_n 3 dX7_waitingAt_35 (nx := 36) rfl rfl ?_
        refine v_iadd dX7_waitingAt_36 (nx := 37) rfl ?_
        refine m_ald10 dX7_waitingAt_37 (nx := 38) rfl ⟨by omega, by omega⟩ ?_
        refine v_iload_n 1 dX7_waitingAt_38 (nx := 39) rfl rfl ?_
        refine v_icmp_ne dX7_waitingAt_39 (tgt := 46) (by decide) (nx := 42) rfl (by first | assumption | exact hR _ | exact ⟨by omega, by omega⟩) (by first | assumption | exact hR _ | exact ⟨by omega, by omega⟩) (fun c39 => ?_) (fun c39 => ?_)
        · refine v_iconst dX7_waitingAt_46 (nx := 47) rfl ?_
          refine v_iadd dX7_waitingAt_47 (nx := 48) rfl ?_
          refine v_istore_n dX7_waitingAt_48 (nx := 49) rfl rfl (by decide) ?_
          refine v_iinc 3 dX7_waitingAt_49 (nx := 52) rfl rfl rfl (by decide) ?_
          refine v_goto dX7_waitingAt_52 (tgt := 4) (by decide) ?_
          exact ih _ _ ⟨by omega, by omega⟩ (by omega) (by first | exact cn_t hc hx.1 (decide_eq_true (by omega)) | exact cn_f hc hx.1 (decide_eq_false (by omega)) | exact cn_n hc hx.1 (decide_eq_false (by omega)))
        · refine v_iconst dX7_waitingAt_42 (nx := 43) rfl ?_
          refine v_goto dX7_waitingAt_43 (tgt := 47) (by decide) ?_
          refine v_iadd dX7_waitingAt_47 (nx := 48) rfl ?_
          refine v_istore_n dX7_waitingAt_48 (nx := 49) rfl rfl (by decide) ?_
          refine v_iinc 3 dX7_waitingAt_49 (nx := 52) rfl rfl rfl (by decide) ?_
          refine v_goto dX7_waitingAt_52 (tgt := 4) (by decide) ?_
          exact ih _ _ ⟨by omega, by omega⟩ (by omega) (by first | exact cn_t hc hx.1 (decide_eq_true (by omega)) | exact cn_f hc hx.1 (decide_eq_false (by omega)) | exact cn_n hc hx.1 (decide_eq_false (by omega)))

set_option maxRecDepth 100000 in
theorem c_X7_waitingAt {g : GG} {kp : Bool} {σ : SS} {N K G F : Int → Int} {k f : Int} (hR : ∀ j, inR (N j)) (p : Int) (hp : inR p) (b3 : 0 ≤ N 3 ∧ N 3 ≤ 60) : XC g kp 0 mX7_waitingAt [rf g (ad 14 0 0), vi p] (mkS σ N K G F k f) (some (vi (cntI (wP N 0 p) (N 3)))) (mkS σ N K G F k f) := by
  refine TC.of (by decide) (Nat.le_of_ble_eq_true rfl) rfl ?_
  refine v_iconst dX7_waitingAt_0 (nx := 1) rfl ?_
  refine v_istore_n dX7_waitingAt_1 (nx := 2) rfl rfl (by decide) ?_
  refine v_iconst dX7_waitingAt_2 (nx := 3) rfl ?_
  refine v_istore_n dX7_waitingAt_3 (nx := 4) rfl rfl (by decide) ?_
  exact l_X7_waitingAt hR p hp b3 (N 3 + 1).toNat 0 0 ⟨by omega, by omega⟩ (by omega) cntI_0.symm

set_option maxRecDepth 100000 in
theorem l_X7_storedAt {g : GG} {kp : Bool} {σ : SS} {N K G F : Int → Int} {k f : Int} (hR : ∀ j, inR (N j)) (p : Int) (hp : inR p) (b3 : 0 ≤ N 3 ∧ N 3 ≤ 60) : ∀ (m : Nat) (x c : Int), (0 ≤ x ∧ x ≤ N 3) → (N 3 - x < m) → (c = cntI (wP N 3 p) x) → V g (rmD 0 0 0) mX7_storedAt (ZT g kp (fun r τ => r = (some (vi (cntI (wP N 3 p) (N 3)))) ∧ τ = (mkS σ N K G F k f))) E0 4 [(0, rf g (ad 14 0 0)), (1, vi p), (2, vi c), (3, vi x)] [] (vw g kp (mkS σ N K G F k f)) (sz kp) 0 0 := by
  intro m
  induction m with
  | zero => intro x c hx hm hc; exfalso; omega
  | succ m ih =>
    intro x c hx hm hc
    have hcb := cntI_b (P := wP N 3 p) hx.1
    rw [← hc] at hcb
    refine v_iload_n 3 dX7_storedAt_4 (nx := 5) rfl rfl ?_
    refine v_aload_n 0 dX7_storedAt_5 (nx := 6) rfl rfl ?_
    refine m_gA 10 (p := 0) dX7_storedAt_6 (nx := 9) rfl (by decide) fl_X7_9 rfl ?_
    refine v_iconst dX7_storedAt_9 (nx := 10) rfl ?_
    refine m_ald10 dX7_storedAt_10 (nx := 11) rfl ⟨by omega, by omega⟩ ?_
    refine v_icmp_ge dX7_storedAt_11 (tgt := 56) (by decide) (nx := 14) rfl (by first | assumption | exact hR _ | exact ⟨by omega, by omega⟩) (by first | assumption | exact hR _ | exact ⟨by omega, by omega⟩) (fun c11 => ?_) (fun c11 => ?_)
    · refine v_iload_n 2 dX7_storedAt_56 (nx := 57) rfl rfl ?_
      exact t_iret dX7_storedAt_57 rfl ⟨by rw [hc, show x = N 3 by omega], rfl⟩
    · refine v_iload_n 2 dX7_storedAt_14 (nx := 15) rfl rfl ?_
      refine v_aload_n 0 dX7_storedAt_15 (nx := 16) rfl rfl ?_
      refine m_gA 10 (p := 0) dX7_storedAt_16 (nx := 19) rfl (by decide) fl_X7_9 rfl ?_
      refine v_sipush dX7_storedAt_19 (nx := 22) rfl rfl ?_
      refine v_iload_n 3 dX7_storedAt_22 (nx := 23) rfl rfl ?_
      refine v_iadd dX7_storedAt_23 (nx := 24) rfl ?_
      refine m_ald10 dX7_storedAt_24 (nx := 25) rfl ⟨by omega, by omega⟩ ?_
      refine v_iconst dX7_storedAt_25 (nx := 26) rfl ?_
      refine v_icmp_ne dX7_storedAt_26 (tgt := 47) (by decide) (nx := 29) rfl (by first | assumption | exact hR _ | exact ⟨by omega, by omega⟩) (by first | assumption | exact hR _ | exact ⟨by omega, by omega⟩) (fun c26 => ?_) (fun c26 => ?_)
      · refine v_iconst dX7_storedAt_47 (nx := 48) rfl ?_
        refine v_iadd dX7_storedAt_48 (nx := 49) rfl ?_
        refine v_istore_n dX7_storedAt_49 (nx := 50) rfl rfl (by decide) ?_
        refine v_iinc 3 dX7_storedAt_50 (nx := 53) rfl rfl rfl (by decide) ?_
        refine v_goto dX7_storedAt_53 (tgt := 4) (by decide) ?_
        exact ih _ _ ⟨by omega, by omega⟩ (by omega) (by first | exact cn_t hc hx.1 (decide_eq_true (by omega)) | exact cn_f hc hx.1 (decide_eq_false (by omega)) | exact cn_n hc hx.1 (decide_eq_false (by omega)))
      · refine v_aload_n 0 dX7_storedAt_29 (nx := 30) rfl rfl ?_
        refine m_gA 10 (p := 0) dX7_storedAt_30 (nx := 33) rfl (by decide) fl_X7_9 rfl ?_
        refine v_sipush dX7_storedAt_33 (nx := 36) rfl rfl ?_
        refine v_iload_n 3 dX7_storedAt_36 (nx := 37) rfl rfl ?_
        refine v_iadd dX7_storedAt_37 (nx := 38) rfl ?_
        refine m_ald10 dX7_storedAt_38 (nx := 39) rfl ⟨by omega, by omega⟩ ?_
        refine v_iload_n 1 dX7_storedAt_39 (nx := 40) rfl rfl ?_
        refine v_icmp_ne dX7_storedAt_40 (tgt := 47) (by decide) (nx := 43) rfl (by first | assumption | exact hR _ | exact ⟨by omega, by omega⟩) (by first | assumption | exact hR _ | exact ⟨by omega, by omega⟩) (fun c40 => ?_) (fun c40 => ?_)
        · refine v_iconst dX7_storedAt_47 (nx := 48) rfl ?_
          refine v_iadd dX7_storedAt_48 (nx := 49) rfl ?_
          refine v_istore_n dX7_storedAt_49 (nx := 50) rfl rfl (by decide) ?_
          refine v_iinc 3 dX7_storedAt_50 (nx := 53) rfl rfl rfl (by decide) ?_
          refine v_goto dX7_storedAt_53 (tgt := 4) (by decide) ?_
          exact ih _ _ ⟨by omega, by omega⟩ (by omega) (by first | exact cn_t hc hx.1 (decide_eq_true (by omega)) | exact cn_f hc hx.1 (decide_eq_false (by omega)) | exact cn_n hc hx.1 (decide_eq_false (by omega)))
        · refine v_iconst dX7_storedAt_43 (nx := 44) rfl ?_
          refine v_goto dX7_storedAt_44 (tgt := 48) (by decide) ?_
          refine v_iadd dX7_storedAt_48 (nx := 49) rfl ?_
          refine v_istore_n dX7_storedAt_49 (nx := 50) rfl rfl (by decide) ?_
          refine v_iinc 3 dX7_storedAt_50 (nx := 53) rfl rfl rfl (by decide) ?_
          refine v_goto dX7_storedAt_53 (tgt := 4) (by decide) ?_
          exact ih _ _ ⟨by omega, by omega⟩ (by omega) (by first | exact cn_t hc hx.1 (decide_eq_true (by omega)) | exact cn_f hc hx.1 (decide_eq_false (by omega)) | exact cn_n hc hx.1 (decide_eq_false (by omega)))

set_option maxRecDepth 100000 in
theorem c_X7_storedAt {g : GG} {kp : Bool} {σ : SS} {N K G F : Int → Int} {k f : Int} (hR : ∀ j, inR (N j)) (p : Int) (hp : inR p) (b3 : 0 ≤ N 3 ∧ N 3 ≤ 60) : XC g kp 0 mX7_storedAt [rf g (ad 14 0 0), vi p] (mkS σ N K G F k f) (some (vi (cntI (wP N 3 p) (N 3)))) (mkS σ N K G F k f) := by
  refine TC.of (by decide) (Nat.le_of_ble_eq_true rfl) rfl ?_
  refine v_iconst dX7_storedAt_0 (nx := 1) rfl ?_
  refine v_istore_n dX7_storedAt_1 (nx := 2) rfl rfl (by decide) ?_
  refine v_iconst dX7_storedAt_2 (nx := 3) rfl ?_
  refine v_istore_n dX7_storedAt_3 (nx := 4) rfl rfl (by decide) ?_
  exact l_X7_storedAt hR p hp b3 (N 3 + 1).toNat 0 0 ⟨by omega, by omega⟩ (by omega) cntI_0.symm
end
