section
-- ===== PART A: goes FIRST, ahead of the names: the tables' words, and 'selects' of the private methods out of them =====
/-- a private method of a class that the tables say can be made, by its rows of tables_1 -/
def lw_okq (q : MethodName × Nat) : Prop := (q.1.cls ≠ "java/lang/invoke/MethodHandle" ∧ q.1.cls ≠ "java/lang/invoke/VarHandle") ∧ Cond.instantiable q.1.cls q.2 ∈ tables_1 ∧ Cond.privateMethod q.1 ∈ tables_1 ∧ Cond.instanceMethod q.1 ∈ tables_1
theorem lw_p0 : lw_okq (⟨"DiceRoads", "changed", "(I)I"⟩, 6) := ⟨⟨by decide +kernel, by decide +kernel⟩, List.mem_of_getElem? (i := 12) (by decide +kernel), List.mem_of_getElem? (i := 223) (by decide +kernel), List.mem_of_getElem? (i := 224) (by decide +kernel)⟩
theorem lw_p1 : lw_okq (⟨"DiceRoads$Board", "payDebts", "(I)V"⟩, 15) := ⟨⟨by decide +kernel, by decide +kernel⟩, List.mem_of_getElem? (i := 20) (by decide +kernel), List.mem_of_getElem? (i := 266) (by decide +kernel), List.mem_of_getElem? (i := 267) (by decide +kernel)⟩
theorem lw_p2 : lw_okq (⟨"DiceRoads$Board", "payWhatThereIs", "(III)I"⟩, 15) := ⟨⟨by decide +kernel, by decide +kernel⟩, List.mem_of_getElem? (i := 20) (by decide +kernel), List.mem_of_getElem? (i := 279) (by decide +kernel), List.mem_of_getElem? (i := 280) (by decide +kernel)⟩
theorem lw_p3 : lw_okq (⟨"DiceRoads$Board", "move", "(I)V"⟩, 15) := ⟨⟨by decide +kernel, by decide +kernel⟩, List.mem_of_getElem? (i := 20) (by decide +kernel), List.mem_of_getElem? (i := 294) (by decide +kernel), List.mem_of_getElem? (i := 295) (by decide +kernel)⟩
theorem lw_p4 : lw_okq (⟨"DiceRoads$Board", "throwDie", "()I"⟩, 15) := ⟨⟨by decide +kernel, by decide +kernel⟩, List.mem_of_getElem? (i := 20) (by decide +kernel), List.mem_of_getElem? (i := 298) (by decide +kernel), List.mem_of_getElem? (i := 299) (by decide +kernel)⟩
theorem lw_p5 : lw_okq (⟨"DiceRoads$Board", "tryToClaim", "(I)V"⟩, 15) := ⟨⟨by decide +kernel, by decide +kernel⟩, List.mem_of_getElem? (i := 20) (by decide +kernel), List.mem_of_getElem? (i := 303) (by decide +kernel), List.mem_of_getElem? (i := 304) (by decide +kernel)⟩
theorem lw_p6 : lw_okq (⟨"DiceRoads$Board", "payToll", "(I)V"⟩, 15) := ⟨⟨by decide +kernel, by decide +kernel⟩, List.mem_of_getElem? (i := 20) (by decide +kernel), List.mem_of_getElem? (i := 328) (by decide +kernel), List.mem_of_getElem? (i := 329) (by decide +kernel)⟩
theorem lw_p7 : lw_okq (⟨"DiceRoads$Board", "loseSquares", "(I)V"⟩, 15) := ⟨⟨by decide +kernel, by decide +kernel⟩, List.mem_of_getElem? (i := 20) (by decide +kernel), List.mem_of_getElem? (i := 348) (by decide +kernel), List.mem_of_getElem? (i := 349) (by decide +kernel)⟩
theorem lw_p8 : lw_okq (⟨"DiceRoads$Debts", "nextOnRing", "(III)I"⟩, 3) := ⟨⟨by decide +kernel, by decide +kernel⟩, List.mem_of_getElem? (i := 56) (by decide +kernel), List.mem_of_getElem? (i := 384) (by decide +kernel), List.mem_of_getElem? (i := 385) (by decide +kernel)⟩
theorem lw_p9 : lw_okq (⟨"DiceRoads$Board", "playersOn", "(I)I"⟩, 15) := ⟨⟨by decide +kernel, by decide +kernel⟩, List.mem_of_getElem? (i := 20) (by decide +kernel), List.mem_of_getElem? (i := 421) (by decide +kernel), List.mem_of_getElem? (i := 422) (by decide +kernel)⟩
theorem lw_p10 : lw_okq (⟨"DiceRoads", "obey", "(II)I"⟩, 6) := ⟨⟨by decide +kernel, by decide +kernel⟩, List.mem_of_getElem? (i := 12) (by decide +kernel), List.mem_of_getElem? (i := 548) (by decide +kernel), List.mem_of_getElem? (i := 549) (by decide +kernel)⟩
theorem lw_p11 : lw_okq (⟨"DiceRoadsModel", "record", "()V"⟩, 17) := ⟨⟨by decide +kernel, by decide +kernel⟩, List.mem_of_getElem? (i := 573) (by decide +kernel), List.mem_of_getElem? (i := 641) (by decide +kernel), List.mem_of_getElem? (i := 642) (by decide +kernel)⟩
theorem lw_p12 : lw_okq (⟨"DiceRoadsModel", "whyNoPlayer", "(I)I"⟩, 17) := ⟨⟨by decide +kernel, by decide +kernel⟩, List.mem_of_getElem? (i := 573) (by decide +kernel), List.mem_of_getElem? (i := 652) (by decide +kernel), List.mem_of_getElem? (i := 653) (by decide +kernel)⟩
theorem lw_p13 : lw_okq (⟨"DiceRoadsModel", "comes", "(I)I"⟩, 17) := ⟨⟨by decide +kernel, by decide +kernel⟩, List.mem_of_getElem? (i := 573) (by decide +kernel), List.mem_of_getElem? (i := 656) (by decide +kernel), List.mem_of_getElem? (i := 657) (by decide +kernel)⟩
theorem lw_p14 : lw_okq (⟨"DiceRoadsModel", "whyNoTurns", "(I)I"⟩, 17) := ⟨⟨by decide +kernel, by decide +kernel⟩, List.mem_of_getElem? (i := 573) (by decide +kernel), List.mem_of_getElem? (i := 668) (by decide +kernel), List.mem_of_getElem? (i := 669) (by decide +kernel)⟩
theorem lw_p15 : lw_okq (⟨"DiceRoadsModel", "doTurns", "(I)I"⟩, 17) := ⟨⟨by decide +kernel, by decide +kernel⟩, List.mem_of_getElem? (i := 573) (by decide +kernel), List.mem_of_getElem? (i := 672) (by decide +kernel), List.mem_of_getElem? (i := 673) (by decide +kernel)⟩
def lw_privs_1 : List (MethodName × Nat) := [(⟨"DiceRoads", "changed", "(I)I"⟩, 6), (⟨"DiceRoads$Board", "payDebts", "(I)V"⟩, 15), (⟨"DiceRoads$Board", "payWhatThereIs", "(III)I"⟩, 15), (⟨"DiceRoads$Board", "move", "(I)V"⟩, 15), (⟨"DiceRoads$Board", "throwDie", "()I"⟩, 15), (⟨"DiceRoads$Board", "tryToClaim", "(I)V"⟩, 15), (⟨"DiceRoads$Board", "payToll", "(I)V"⟩, 15), (⟨"DiceRoads$Board", "loseSquares", "(I)V"⟩, 15), (⟨"DiceRoads$Debts", "nextOnRing", "(III)I"⟩, 3), (⟨"DiceRoads$Board", "playersOn", "(I)I"⟩, 15), (⟨"DiceRoads", "obey", "(II)I"⟩, 6), (⟨"DiceRoadsModel", "record", "()V"⟩, 17), (⟨"DiceRoadsModel", "whyNoPlayer", "(I)I"⟩, 17), (⟨"DiceRoadsModel", "comes", "(I)I"⟩, 17), (⟨"DiceRoadsModel", "whyNoTurns", "(I)I"⟩, 17), (⟨"DiceRoadsModel", "doTurns", "(I)I"⟩, 17)]
theorem lw_r1 : ∀ q ∈ lw_privs_1, lw_okq q := List.forall_mem_cons.mpr ⟨lw_p0, List.forall_mem_cons.mpr ⟨lw_p1, List.forall_mem_cons.mpr ⟨lw_p2, List.forall_mem_cons.mpr ⟨lw_p3, List.forall_mem_cons.mpr ⟨lw_p4, List.forall_mem_cons.mpr ⟨lw_p5, List.forall_mem_cons.mpr ⟨lw_p6, List.forall_mem_cons.mpr ⟨lw_p7, List.forall_mem_cons.mpr ⟨lw_p8, List.forall_mem_cons.mpr ⟨lw_p9, List.forall_mem_cons.mpr ⟨lw_p10, List.forall_mem_cons.mpr ⟨lw_p11, List.forall_mem_cons.mpr ⟨lw_p12, List.forall_mem_cons.mpr ⟨lw_p13, List.forall_mem_cons.mpr ⟨lw_p14, List.forall_mem_cons.mpr ⟨lw_p15, fun _ h => absurd h List.not_mem_nil⟩⟩⟩⟩⟩⟩⟩⟩⟩⟩⟩⟩⟩⟩⟩⟩
theorem lw_p16 : lw_okq (⟨"DiceRoadsModel", "sumOf", "(I)I"⟩, 17) := ⟨⟨by decide +kernel, by decide +kernel⟩, List.mem_of_getElem? (i := 573) (by decide +kernel), List.mem_of_getElem? (i := 676) (by decide +kernel), List.mem_of_getElem? (i := 677) (by decide +kernel)⟩
theorem lw_p17 : lw_okq (⟨"DiceRoadsModel", "playerPart", "(II)I"⟩, 17) := ⟨⟨by decide +kernel, by decide +kernel⟩, List.mem_of_getElem? (i := 573) (by decide +kernel), List.mem_of_getElem? (i := 680) (by decide +kernel), List.mem_of_getElem? (i := 681) (by decide +kernel)⟩
theorem lw_p18 : lw_okq (⟨"DiceRoadsModel", "turn", "()V"⟩, 17) := ⟨⟨by decide +kernel, by decide +kernel⟩, List.mem_of_getElem? (i := 573) (by decide +kernel), List.mem_of_getElem? (i := 684) (by decide +kernel), List.mem_of_getElem? (i := 685) (by decide +kernel)⟩
theorem lw_p19 : lw_okq (⟨"DiceRoadsModel", "paysDebts", "(I)V"⟩, 17) := ⟨⟨by decide +kernel, by decide +kernel⟩, List.mem_of_getElem? (i := 573) (by decide +kernel), List.mem_of_getElem? (i := 688) (by decide +kernel), List.mem_of_getElem? (i := 689) (by decide +kernel)⟩
theorem lw_p20 : lw_okq (⟨"DiceRoadsModel", "oldest", "(II)I"⟩, 17) := ⟨⟨by decide +kernel, by decide +kernel⟩, List.mem_of_getElem? (i := 573) (by decide +kernel), List.mem_of_getElem? (i := 692) (by decide +kernel), List.mem_of_getElem? (i := 693) (by decide +kernel)⟩
theorem lw_p21 : lw_okq (⟨"DiceRoadsModel", "debtOf", "(II)I"⟩, 17) := ⟨⟨by decide +kernel, by decide +kernel⟩, List.mem_of_getElem? (i := 573) (by decide +kernel), List.mem_of_getElem? (i := 696) (by decide +kernel), List.mem_of_getElem? (i := 697) (by decide +kernel)⟩
theorem lw_p22 : lw_okq (⟨"DiceRoadsModel", "ageOf", "(II)I"⟩, 17) := ⟨⟨by decide +kernel, by decide +kernel⟩, List.mem_of_getElem? (i := 573) (by decide +kernel), List.mem_of_getElem? (i := 700) (by decide +kernel), List.mem_of_getElem? (i := 701) (by decide +kernel)⟩
theorem lw_p23 : lw_okq (⟨"DiceRoadsModel", "pays", "(III)I"⟩, 17) := ⟨⟨by decide +kernel, by decide +kernel⟩, List.mem_of_getElem? (i := 573) (by decide +kernel), List.mem_of_getElem? (i := 704) (by decide +kernel), List.mem_of_getElem? (i := 705) (by decide +kernel)⟩
theorem lw_p24 : lw_okq (⟨"DiceRoadsModel", "adds", "(III)V"⟩, 17) := ⟨⟨by decide +kernel, by decide +kernel⟩, List.mem_of_getElem? (i := 573) (by decide +kernel), List.mem_of_getElem? (i := 708) (by decide +kernel), List.mem_of_getElem? (i := 709) (by decide +kernel)⟩
theorem lw_p25 : lw_okq (⟨"DiceRoadsModel", "addsDebt", "(III)V"⟩, 17) := ⟨⟨by decide +kernel, by decide +kernel⟩, List.mem_of_getElem? (i := 573) (by decide +kernel), List.mem_of_getElem? (i := 712) (by decide +kernel), List.mem_of_getElem? (i := 713) (by decide +kernel)⟩
theorem lw_p26 : lw_okq (⟨"DiceRoadsModel", "goes", "(I)V"⟩, 17) := ⟨⟨by decide +kernel, by decide +kernel⟩, List.mem_of_getElem? (i := 573) (by decide +kernel), List.mem_of_getElem? (i := 716) (by decide +kernel), List.mem_of_getElem? (i := 717) (by decide +kernel)⟩
theorem lw_p27 : lw_okq (⟨"DiceRoadsModel", "die", "()I"⟩, 17) := ⟨⟨by decide +kernel, by decide +kernel⟩, List.mem_of_getElem? (i := 573) (by decide +kernel), List.mem_of_getElem? (i := 720) (by decide +kernel), List.mem_of_getElem? (i := 721) (by decide +kernel)⟩
theorem lw_p28 : lw_okq (⟨"DiceRoadsModel", "arrives", "(II)V"⟩, 17) := ⟨⟨by decide +kernel, by decide +kernel⟩, List.mem_of_getElem? (i := 573) (by decide +kernel), List.mem_of_getElem? (i := 725) (by decide +kernel), List.mem_of_getElem? (i := 726) (by decide +kernel)⟩
theorem lw_p29 : lw_okq (⟨"DiceRoadsModel", "owns", "(II)Z"⟩, 17) := ⟨⟨by decide +kernel, by decide +kernel⟩, List.mem_of_getElem? (i := 573) (by decide +kernel), List.mem_of_getElem? (i := 729) (by decide +kernel), List.mem_of_getElem? (i := 730) (by decide +kernel)⟩
theorem lw_p30 : lw_okq (⟨"DiceRoadsModel", "canBeClaimed", "(I)Z"⟩, 17) := ⟨⟨by decide +kernel, by decide +kernel⟩, List.mem_of_getElem? (i := 573) (by decide +kernel), List.mem_of_getElem? (i := 733) (by decide +kernel), List.mem_of_getElem? (i := 734) (by decide +kernel)⟩
theorem lw_p31 : lw_okq (⟨"DiceRoadsModel", "claims", "(II)V"⟩, 17) := ⟨⟨by decide +kernel, by decide +kernel⟩, List.mem_of_getElem? (i := 573) (by decide +kernel), List.mem_of_getElem? (i := 740) (by decide +kernel), List.mem_of_getElem? (i := 741) (by decide +kernel)⟩
def lw_privs_2 : List (MethodName × Nat) := [(⟨"DiceRoadsModel", "sumOf", "(I)I"⟩, 17), (⟨"DiceRoadsModel", "playerPart", "(II)I"⟩, 17), (⟨"DiceRoadsModel", "turn", "()V"⟩, 17), (⟨"DiceRoadsModel", "paysDebts", "(I)V"⟩, 17), (⟨"DiceRoadsModel", "oldest", "(II)I"⟩, 17), (⟨"DiceRoadsModel", "debtOf", "(II)I"⟩, 17), (⟨"DiceRoadsModel", "ageOf", "(II)I"⟩, 17), (⟨"DiceRoadsModel", "pays", "(III)I"⟩, 17), (⟨"DiceRoadsModel", "adds", "(III)V"⟩, 17), (⟨"DiceRoadsModel", "addsDebt", "(III)V"⟩, 17), (⟨"DiceRoadsModel", "goes", "(I)V"⟩, 17), (⟨"DiceRoadsModel", "die", "()I"⟩, 17), (⟨"DiceRoadsModel", "arrives", "(II)V"⟩, 17), (⟨"DiceRoadsModel", "owns", "(II)Z"⟩, 17), (⟨"DiceRoadsModel", "canBeClaimed", "(I)Z"⟩, 17), (⟨"DiceRoadsModel", "claims", "(II)V"⟩, 17)]
theorem lw_r2 : ∀ q ∈ lw_privs_2, lw_okq q := List.forall_mem_cons.mpr ⟨lw_p16, List.forall_mem_cons.mpr ⟨lw_p17, List.forall_mem_cons.mpr ⟨lw_p18, List.forall_mem_cons.mpr ⟨lw_p19, List.forall_mem_cons.mpr ⟨lw_p20, List.forall_mem_cons.mpr ⟨lw_p21, List.forall_mem_cons.mpr ⟨lw_p22, List.forall_mem_cons.mpr ⟨lw_p23, List.forall_mem_cons.mpr ⟨lw_p24, List.forall_mem_cons.mpr ⟨lw_p25, List.forall_mem_cons.mpr ⟨lw_p26, List.forall_mem_cons.mpr ⟨lw_p27, List.forall_mem_cons.mpr ⟨lw_p28, List.forall_mem_cons.mpr ⟨lw_p29, List.forall_mem_cons.mpr ⟨lw_p30, List.forall_mem_cons.mpr ⟨lw_p31, fun _ h => absurd h List.not_mem_nil⟩⟩⟩⟩⟩⟩⟩⟩⟩⟩⟩⟩⟩⟩⟩⟩
theorem lw_p32 : lw_okq (⟨"DiceRoadsModel", "tollOf", "(I)I"⟩, 17) := ⟨⟨by decide +kernel, by decide +kernel⟩, List.mem_of_getElem? (i := 573) (by decide +kernel), List.mem_of_getElem? (i := 744) (by decide +kernel), List.mem_of_getElem? (i := 745) (by decide +kernel)⟩
theorem lw_p33 : lw_okq (⟨"DiceRoadsModel", "paysToll", "(III)V"⟩, 17) := ⟨⟨by decide +kernel, by decide +kernel⟩, List.mem_of_getElem? (i := 573) (by decide +kernel), List.mem_of_getElem? (i := 748) (by decide +kernel), List.mem_of_getElem? (i := 749) (by decide +kernel)⟩
theorem lw_p34 : lw_okq (⟨"DiceRoadsModel", "growsOlder", "(I)V"⟩, 17) := ⟨⟨by decide +kernel, by decide +kernel⟩, List.mem_of_getElem? (i := 573) (by decide +kernel), List.mem_of_getElem? (i := 752) (by decide +kernel), List.mem_of_getElem? (i := 753) (by decide +kernel)⟩
theorem lw_p35 : lw_okq (⟨"DiceRoadsModel", "lowestOf", "(I)I"⟩, 17) := ⟨⟨by decide +kernel, by decide +kernel⟩, List.mem_of_getElem? (i := 573) (by decide +kernel), List.mem_of_getElem? (i := 756) (by decide +kernel), List.mem_of_getElem? (i := 757) (by decide +kernel)⟩
theorem lw_p36 : lw_okq (⟨"DiceRoadsModel", "hands", "(III)V"⟩, 17) := ⟨⟨by decide +kernel, by decide +kernel⟩, List.mem_of_getElem? (i := 573) (by decide +kernel), List.mem_of_getElem? (i := 760) (by decide +kernel), List.mem_of_getElem? (i := 761) (by decide +kernel)⟩
theorem lw_p37 : lw_okq (⟨"DiceRoadsModel", "isPlayer", "(I)Z"⟩, 17) := ⟨⟨by decide +kernel, by decide +kernel⟩, List.mem_of_getElem? (i := 573) (by decide +kernel), List.mem_of_getElem? (i := 768) (by decide +kernel), List.mem_of_getElem? (i := 769) (by decide +kernel)⟩
theorem lw_p38 : lw_okq (⟨"DiceRoadsModel", "clears", "(I)I"⟩, 17) := ⟨⟨by decide +kernel, by decide +kernel⟩, List.mem_of_getElem? (i := 573) (by decide +kernel), List.mem_of_getElem? (i := 772) (by decide +kernel), List.mem_of_getElem? (i := 773) (by decide +kernel)⟩
theorem lw_p39 : lw_okq (⟨"DiceRoadsModel", "findRing", "(II)Z"⟩, 17) := ⟨⟨by decide +kernel, by decide +kernel⟩, List.mem_of_getElem? (i := 573) (by decide +kernel), List.mem_of_getElem? (i := 776) (by decide +kernel), List.mem_of_getElem? (i := 777) (by decide +kernel)⟩
theorem lw_p40 : lw_okq (⟨"DiceRoadsModel", "takesRing", "(IIIII)V"⟩, 17) := ⟨⟨by decide +kernel, by decide +kernel⟩, List.mem_of_getElem? (i := 573) (by decide +kernel), List.mem_of_getElem? (i := 780) (by decide +kernel), List.mem_of_getElem? (i := 781) (by decide +kernel)⟩
theorem lw_p41 : lw_okq (⟨"DiceRoadsModel", "clearsRing", "()I"⟩, 17) := ⟨⟨by decide +kernel, by decide +kernel⟩, List.mem_of_getElem? (i := 573) (by decide +kernel), List.mem_of_getElem? (i := 784) (by decide +kernel), List.mem_of_getElem? (i := 785) (by decide +kernel)⟩
theorem lw_p42 : lw_okq (⟨"DiceRoadsModel", "ownedBy", "(I)I"⟩, 17) := ⟨⟨by decide +kernel, by decide +kernel⟩, List.mem_of_getElem? (i := 573) (by decide +kernel), List.mem_of_getElem? (i := 792) (by decide +kernel), List.mem_of_getElem? (i := 793) (by decide +kernel)⟩
theorem lw_p43 : lw_okq (⟨"DiceRoadsModel", "owedBy", "(I)I"⟩, 17) := ⟨⟨by decide +kernel, by decide +kernel⟩, List.mem_of_getElem? (i := 573) (by decide +kernel), List.mem_of_getElem? (i := 796) (by decide +kernel), List.mem_of_getElem? (i := 797) (by decide +kernel)⟩
theorem lw_p44 : lw_okq (⟨"DiceRoadsModel", "owedTo", "(I)I"⟩, 17) := ⟨⟨by decide +kernel, by decide +kernel⟩, List.mem_of_getElem? (i := 573) (by decide +kernel), List.mem_of_getElem? (i := 800) (by decide +kernel), List.mem_of_getElem? (i := 801) (by decide +kernel)⟩
theorem lw_p45 : lw_okq (⟨"DiceRoadsModel", "standingAt", "(I)I"⟩, 17) := ⟨⟨by decide +kernel, by decide +kernel⟩, List.mem_of_getElem? (i := 573) (by decide +kernel), List.mem_of_getElem? (i := 811) (by decide +kernel), List.mem_of_getElem? (i := 812) (by decide +kernel)⟩
theorem lw_p46 : lw_okq (⟨"DiceRoadsModel", "debtsMany", "()I"⟩, 17) := ⟨⟨by decide +kernel, by decide +kernel⟩, List.mem_of_getElem? (i := 573) (by decide +kernel), List.mem_of_getElem? (i := 823) (by decide +kernel), List.mem_of_getElem? (i := 824) (by decide +kernel)⟩
theorem lw_p47 : lw_okq (⟨"DiceRoadsModel", "sumOfDebts", "()I"⟩, 17) := ⟨⟨by decide +kernel, by decide +kernel⟩, List.mem_of_getElem? (i := 573) (by decide +kernel), List.mem_of_getElem? (i := 827) (by decide +kernel), List.mem_of_getElem? (i := 828) (by decide +kernel)⟩
def lw_privs_3 : List (MethodName × Nat) := [(⟨"DiceRoadsModel", "tollOf", "(I)I"⟩, 17), (⟨"DiceRoadsModel", "paysToll", "(III)V"⟩, 17), (⟨"DiceRoadsModel", "growsOlder", "(I)V"⟩, 17), (⟨"DiceRoadsModel", "lowestOf", "(I)I"⟩, 17), (⟨"DiceRoadsModel", "hands", "(III)V"⟩, 17), (⟨"DiceRoadsModel", "isPlayer", "(I)Z"⟩, 17), (⟨"DiceRoadsModel", "clears", "(I)I"⟩, 17), (⟨"DiceRoadsModel", "findRing", "(II)Z"⟩, 17), (⟨"DiceRoadsModel", "takesRing", "(IIIII)V"⟩, 17), (⟨"DiceRoadsModel", "clearsRing", "()I"⟩, 17), (⟨"DiceRoadsModel", "ownedBy", "(I)I"⟩, 17), (⟨"DiceRoadsModel", "owedBy", "(I)I"⟩, 17), (⟨"DiceRoadsModel", "owedTo", "(I)I"⟩, 17), (⟨"DiceRoadsModel", "standingAt", "(I)I"⟩, 17), (⟨"DiceRoadsModel", "debtsMany", "()I"⟩, 17), (⟨"DiceRoadsModel", "sumOfDebts", "()I"⟩, 17)]
theorem lw_r3 : ∀ q ∈ lw_privs_3, lw_okq q := List.forall_mem_cons.mpr ⟨lw_p32, List.forall_mem_cons.mpr ⟨lw_p33, List.forall_mem_cons.mpr ⟨lw_p34, List.forall_mem_cons.mpr ⟨lw_p35, List.forall_mem_cons.mpr ⟨lw_p36, List.forall_mem_cons.mpr ⟨lw_p37, List.forall_mem_cons.mpr ⟨lw_p38, List.forall_mem_cons.mpr ⟨lw_p39, List.forall_mem_cons.mpr ⟨lw_p40, List.forall_mem_cons.mpr ⟨lw_p41, List.forall_mem_cons.mpr ⟨lw_p42, List.forall_mem_cons.mpr ⟨lw_p43, List.forall_mem_cons.mpr ⟨lw_p44, List.forall_mem_cons.mpr ⟨lw_p45, List.forall_mem_cons.mpr ⟨lw_p46, List.forall_mem_cons.mpr ⟨lw_p47, fun _ h => absurd h List.not_mem_nil⟩⟩⟩⟩⟩⟩⟩⟩⟩⟩⟩⟩⟩⟩⟩⟩
theorem lw_p48 : lw_okq (⟨"DiceRoadsModel", "writes", "(I)V"⟩, 17) := ⟨⟨by decide +kernel, by decide +kernel⟩, List.mem_of_getElem? (i := 573) (by decide +kernel), List.mem_of_getElem? (i := 831) (by decide +kernel), List.mem_of_getElem? (i := 832) (by decide +kernel)⟩
theorem lw_p49 : lw_okq (⟨"DiceRoadsModel", "writesSquare", "(I)V"⟩, 17) := ⟨⟨by decide +kernel, by decide +kernel⟩, List.mem_of_getElem? (i := 573) (by decide +kernel), List.mem_of_getElem? (i := 835) (by decide +kernel), List.mem_of_getElem? (i := 836) (by decide +kernel)⟩
theorem lw_p50 : lw_okq (⟨"DiceRoadsModel", "writesSign", "(I)V"⟩, 17) := ⟨⟨by decide +kernel, by decide +kernel⟩, List.mem_of_getElem? (i := 573) (by decide +kernel), List.mem_of_getElem? (i := 839) (by decide +kernel), List.mem_of_getElem? (i := 840) (by decide +kernel)⟩
theorem lw_p51 : lw_okq (⟨"DiceRoadsModel", "findFault", "()I"⟩, 17) := ⟨⟨by decide +kernel, by decide +kernel⟩, List.mem_of_getElem? (i := 573) (by decide +kernel), List.mem_of_getElem? (i := 876) (by decide +kernel), List.mem_of_getElem? (i := 877) (by decide +kernel)⟩
theorem lw_p52 : lw_okq (⟨"DiceRoadsModel", "readsOrder", "()Z"⟩, 17) := ⟨⟨by decide +kernel, by decide +kernel⟩, List.mem_of_getElem? (i := 573) (by decide +kernel), List.mem_of_getElem? (i := 880) (by decide +kernel), List.mem_of_getElem? (i := 881) (by decide +kernel)⟩
theorem lw_p53 : lw_okq (⟨"DiceRoadsModel", "character", "(I)I"⟩, 17) := ⟨⟨by decide +kernel, by decide +kernel⟩, List.mem_of_getElem? (i := 573) (by decide +kernel), List.mem_of_getElem? (i := 884) (by decide +kernel), List.mem_of_getElem? (i := 885) (by decide +kernel)⟩
theorem lw_p54 : lw_okq (⟨"DiceRoadsModel", "takesNumber", "(I)Z"⟩, 17) := ⟨⟨by decide +kernel, by decide +kernel⟩, List.mem_of_getElem? (i := 573) (by decide +kernel), List.mem_of_getElem? (i := 888) (by decide +kernel), List.mem_of_getElem? (i := 889) (by decide +kernel)⟩
theorem lw_p55 : lw_okq (⟨"DiceRoadsModel", "isDigit", "()Z"⟩, 17) := ⟨⟨by decide +kernel, by decide +kernel⟩, List.mem_of_getElem? (i := 573) (by decide +kernel), List.mem_of_getElem? (i := 892) (by decide +kernel), List.mem_of_getElem? (i := 893) (by decide +kernel)⟩
theorem lw_p56 : lw_okq (⟨"DiceRoadsModel", "isNext", "(I)Z"⟩, 17) := ⟨⟨by decide +kernel, by decide +kernel⟩, List.mem_of_getElem? (i := 573) (by decide +kernel), List.mem_of_getElem? (i := 896) (by decide +kernel), List.mem_of_getElem? (i := 897) (by decide +kernel)⟩
theorem lw_p57 : lw_okq (⟨"DiceRoadsModel", "whyNotDone", "()I"⟩, 17) := ⟨⟨by decide +kernel, by decide +kernel⟩, List.mem_of_getElem? (i := 573) (by decide +kernel), List.mem_of_getElem? (i := 904) (by decide +kernel), List.mem_of_getElem? (i := 905) (by decide +kernel)⟩
theorem lw_p58 : lw_okq (⟨"DiceRoadsModel", "does", "()V"⟩, 17) := ⟨⟨by decide +kernel, by decide +kernel⟩, List.mem_of_getElem? (i := 573) (by decide +kernel), List.mem_of_getElem? (i := 908) (by decide +kernel), List.mem_of_getElem? (i := 909) (by decide +kernel)⟩
def lw_privs_4 : List (MethodName × Nat) := [(⟨"DiceRoadsModel", "writes", "(I)V"⟩, 17), (⟨"DiceRoadsModel", "writesSquare", "(I)V"⟩, 17), (⟨"DiceRoadsModel", "writesSign", "(I)V"⟩, 17), (⟨"DiceRoadsModel", "findFault", "()I"⟩, 17), (⟨"DiceRoadsModel", "readsOrder", "()Z"⟩, 17), (⟨"DiceRoadsModel", "character", "(I)I"⟩, 17), (⟨"DiceRoadsModel", "takesNumber", "(I)Z"⟩, 17), (⟨"DiceRoadsModel", "isDigit", "()Z"⟩, 17), (⟨"DiceRoadsModel", "isNext", "(I)Z"⟩, 17), (⟨"DiceRoadsModel", "whyNotDone", "()I"⟩, 17), (⟨"DiceRoadsModel", "does", "()V"⟩, 17)]
theorem lw_r4 : ∀ q ∈ lw_privs_4, lw_okq q := List.forall_mem_cons.mpr ⟨lw_p48, List.forall_mem_cons.mpr ⟨lw_p49, List.forall_mem_cons.mpr ⟨lw_p50, List.forall_mem_cons.mpr ⟨lw_p51, List.forall_mem_cons.mpr ⟨lw_p52, List.forall_mem_cons.mpr ⟨lw_p53, List.forall_mem_cons.mpr ⟨lw_p54, List.forall_mem_cons.mpr ⟨lw_p55, List.forall_mem_cons.mpr ⟨lw_p56, List.forall_mem_cons.mpr ⟨lw_p57, List.forall_mem_cons.mpr ⟨lw_p58, fun _ h => absurd h List.not_mem_nil⟩⟩⟩⟩⟩⟩⟩⟩⟩⟩⟩
def lw_privs : List (MethodName × Nat) := lw_privs_1 ++ (lw_privs_2 ++ (lw_privs_3 ++ (lw_privs_4)))
def lw_tbl : List Cond := k2_sels lw_privs ++ tables_1
theorem lw_privs_ok : ∀ q ∈ lw_privs, lw_okq q := by
  show ∀ q ∈ lw_privs_1 ++ (lw_privs_2 ++ (lw_privs_3 ++ (lw_privs_4))), lw_okq q
  exact List.forall_mem_append.mpr ⟨lw_r1, List.forall_mem_append.mpr ⟨lw_r2, List.forall_mem_append.mpr ⟨lw_r3, lw_r4⟩⟩⟩
-- ===== end of PART A; then your names; then what follows =====
end
section
/-! ===== BEGIN printed: names, fields, word lists, decode rows ===== -/
def RX0 : String := "DiceRoads$Board"
def TX0 : u_T := fun k => match k with
  | 0 => ("DiceRoads$Board", "roads", "LDiceRoads$Roads;", true)
  | 1 => ("DiceRoads$Board", "debts", "LDiceRoads$Debts;", true)
  | 2 => ("DiceRoads$Board", "settings", "LDiceRoads$Row;", true)
  | 3 => ("DiceRoads$Board", "purses", "LDiceRoads$Row;", true)
  | 4 => ("DiceRoads$Board", "places", "LDiceRoads$Row;", true)
  | 5 => ("DiceRoads$Board", "tollsPaid", "LDiceRoads$Row;", true)
  | 6 => ("DiceRoads$Board", "tollsGot", "LDiceRoads$Row;", true)
  | 7 => ("DiceRoads$Board", "turnsDone", "LDiceRoads$Row;", true)
  | 8 => ("DiceRoads$Board", "squaresLost", "LDiceRoads$Row;", true)
  | 9 => ("DiceRoads$Board", "players", "I", false)
  | 10 => ("DiceRoads$Board", "next", "I", false)
  | 11 => ("DiceRoads$Board", "draw", "I", false)
  | 12 => ("DiceRoads$Board", "turns", "I", false)
  | 13 => ("DiceRoads$Board", "paidToNobody", "I", false)
  | _ => ("DiceRoads$Board", "wages", "I", false)
def tyX0 : Nat → FieldType := fun k => match k with
  | 0 => .object "DiceRoads$Roads"
  | 1 => .object "DiceRoads$Debts"
  | 2 => .object "DiceRoads$Row"
  | 3 => .object "DiceRoads$Row"
  | 4 => .object "DiceRoads$Row"
  | 5 => .object "DiceRoads$Row"
  | 6 => .object "DiceRoads$Row"
  | 7 => .object "DiceRoads$Row"
  | 8 => .object "DiceRoads$Row"
  | 9 => .int
  | 10 => .int
  | 11 => .int
  | 12 => .int
  | 13 => .int
  | _ => .int
abbrev wsX00 : List Cond := u_ws RX0 TX0 15
theorem nmX0 : ∀ a, a < 15 → ∀ b, b < 15 → a ≠ b → (TX0 a).2.1 ≠ (TX0 b).2.1 := by decide +kernel
theorem tyX0_ok : ∀ k, k < 15 → parseFieldDescriptor (TX0 k).2.2.1 = some (tyX0 k) := by decide +kernel
abbrev cX0_init : ByteArray := prog_2_method_1_code
def yX0_init : MethodName := ⟨RX0, "<init>", "()V"⟩
abbrev cX0_copyFrom : ByteArray := prog_2_method_2_code
def yX0_copyFrom : MethodName := ⟨RX0, "copyFrom", "(LDiceRoads$Board;)V"⟩
abbrev cX0_changeSetting : ByteArray := prog_2_method_3_code
def yX0_changeSetting : MethodName := ⟨RX0, "changeSetting", "(II)I"⟩
abbrev cX0_addPlayer : ByteArray := prog_2_method_4_code
def yX0_addPlayer : MethodName := ⟨RX0, "addPlayer", "(I)I"⟩
abbrev cX0_changeDraws : ByteArray := prog_2_method_5_code
def yX0_changeDraws : MethodName := ⟨RX0, "changeDraws", "(I)I"⟩
abbrev cX0_doTurns : ByteArray := prog_2_method_6_code
def yX0_doTurns : MethodName := ⟨RX0, "doTurns", "(I)I"⟩
abbrev cX0_clearAround : ByteArray := prog_2_method_7_code
def yX0_clearAround : MethodName := ⟨RX0, "clearAround", "(I)I"⟩
abbrev cX0_takeTurns : ByteArray := prog_2_method_8_code
def yX0_takeTurns : MethodName := ⟨RX0, "takeTurns", "(I)V"⟩
abbrev cX0_takeTurn : ByteArray := prog_2_method_9_code
def yX0_takeTurn : MethodName := ⟨RX0, "takeTurn", "()V"⟩
abbrev cX0_payDebts : ByteArray := prog_2_method_10_code
def yX0_payDebts : MethodName := ⟨RX0, "payDebts", "(I)V"⟩
abbrev cX0_payWhatThereIs : ByteArray := prog_2_method_11_code
def yX0_payWhatThereIs : MethodName := ⟨RX0, "payWhatThereIs", "(III)I"⟩
abbrev cX0_move : ByteArray := prog_2_method_12_code
def yX0_move : MethodName := ⟨RX0, "move", "(I)V"⟩
abbrev cX0_throwDie : ByteArray := prog_2_method_13_code
def yX0_throwDie : MethodName := ⟨RX0, "throwDie", "()I"⟩
abbrev cX0_tryToClaim : ByteArray := prog_2_method_14_code
def yX0_tryToClaim : MethodName := ⟨RX0, "tryToClaim", "(I)V"⟩
abbrev cX0_payToll : ByteArray := prog_2_method_15_code
def yX0_payToll : MethodName := ⟨RX0, "payToll", "(I)V"⟩
abbrev cX0_loseSquares : ByteArray := prog_2_method_16_code
def yX0_loseSquares : MethodName := ⟨RX0, "loseSquares", "(I)V"⟩
abbrev cX0_hasPlayer : ByteArray := prog_2_method_17_code
def yX0_hasPlayer : MethodName := ⟨RX0, "hasPlayer", "(I)Z"⟩
abbrev cX0_players : ByteArray := prog_2_method_18_code
def yX0_players : MethodName := ⟨RX0, "players", "()I"⟩
abbrev cX0_purseOf : ByteArray := prog_2_method_19_code
def yX0_purseOf : MethodName := ⟨RX0, "purseOf", "(I)I"⟩
abbrev cX0_wealthOf : ByteArray := prog_2_method_20_code
def yX0_wealthOf : MethodName := ⟨RX0, "wealthOf", "(I)I"⟩
abbrev cX0_factOfPlayer : ByteArray := prog_2_method_21_code
def yX0_factOfPlayer : MethodName := ⟨RX0, "factOfPlayer", "(II)I"⟩
abbrev cX0_factOfSquare : ByteArray := prog_2_method_22_code
def yX0_factOfSquare : MethodName := ⟨RX0, "factOfSquare", "(II)I"⟩
abbrev cX0_playersOn : ByteArray := prog_2_method_23_code
def yX0_playersOn : MethodName := ⟨RX0, "playersOn", "(I)I"⟩
abbrev cX0_fact : ByteArray := prog_2_method_24_code
def yX0_fact : MethodName := ⟨RX0, "fact", "(I)I"⟩
abbrev cX0_describe : ByteArray := prog_2_method_25_code
def yX0_describe : MethodName := ⟨RX0, "describe", "(LDiceRoads$Line;)V"⟩
def RX1 : String := "DiceRoads$Debts"
def TX1 : u_T := fun k => match k with
  | 0 => ("DiceRoads$Debts", "coins", "LDiceRoads$Row;", true)
  | 1 => ("DiceRoads$Debts", "ages", "LDiceRoads$Row;", true)
  | _ => ("DiceRoads$Debts", "ring", "LDiceRoads$Row;", true)
def tyX1 : Nat → FieldType := fun k => match k with
  | 0 => .object "DiceRoads$Row"
  | 1 => .object "DiceRoads$Row"
  | _ => .object "DiceRoads$Row"
abbrev wsX10 : List Cond := u_ws RX1 TX1 3
theorem nmX1 : ∀ a, a < 3 → ∀ b, b < 3 → a ≠ b → (TX1 a).2.1 ≠ (TX1 b).2.1 := by decide +kernel
theorem tyX1_ok : ∀ k, k < 3 → parseFieldDescriptor (TX1 k).2.2.1 = some (tyX1 k) := by decide +kernel
abbrev cX1_init : ByteArray := prog_3_method_1_code
def yX1_init : MethodName := ⟨RX1, "<init>", "()V"⟩
abbrev cX1_copyFrom : ByteArray := prog_3_method_2_code
def yX1_copyFrom : MethodName := ⟨RX1, "copyFrom", "(LDiceRoads$Debts;)V"⟩
abbrev cX1_coinsOf : ByteArray := prog_3_method_3_code
def yX1_coinsOf : MethodName := ⟨RX1, "coinsOf", "(II)I"⟩
abbrev cX1_ageOf : ByteArray := prog_3_method_4_code
def yX1_ageOf : MethodName := ⟨RX1, "ageOf", "(II)I"⟩
abbrev cX1_grow : ByteArray := prog_3_method_5_code
def yX1_grow : MethodName := ⟨RX1, "grow", "(III)V"⟩
abbrev cX1_shrink : ByteArray := prog_3_method_6_code
def yX1_shrink : MethodName := ⟨RX1, "shrink", "(III)V"⟩
abbrev cX1_makeOlder : ByteArray := prog_3_method_7_code
def yX1_makeOlder : MethodName := ⟨RX1, "makeOlder", "(I)V"⟩
abbrev cX1_oldestOf : ByteArray := prog_3_method_8_code
def yX1_oldestOf : MethodName := ⟨RX1, "oldestOf", "(I)I"⟩
abbrev cX1_owedBy : ByteArray := prog_3_method_9_code
def yX1_owedBy : MethodName := ⟨RX1, "owedBy", "(I)I"⟩
abbrev cX1_owedTo : ByteArray := prog_3_method_10_code
def yX1_owedTo : MethodName := ⟨RX1, "owedTo", "(I)I"⟩
abbrev cX1_inAll : ByteArray := prog_3_method_11_code
def yX1_inAll : MethodName := ⟨RX1, "inAll", "()I"⟩
abbrev cX1_howMany : ByteArray := prog_3_method_12_code
def yX1_howMany : MethodName := ⟨RX1, "howMany", "()I"⟩
abbrev cX1_distance : ByteArray := prog_3_method_13_code
def yX1_distance : MethodName := ⟨RX1, "distance", "(II)I"⟩
abbrev cX1_clearRing : ByteArray := prog_3_method_14_code
def yX1_clearRing : MethodName := ⟨RX1, "clearRing", "(I)I"⟩
abbrev cX1_nextOnRing : ByteArray := prog_3_method_15_code
def yX1_nextOnRing : MethodName := ⟨RX1, "nextOnRing", "(III)I"⟩
def RX2 : String := "DiceRoads$History"
def TX2 : u_T := fun k => match k with
  | 0 => ("DiceRoads$History", "states", "[LDiceRoads$Board;", true)
  | 1 => ("DiceRoads$History", "free", "I", false)
  | _ => ("DiceRoads$History", "kept", "I", false)
def tyX2 : Nat → FieldType := fun k => match k with
  | 0 => .array (.object "DiceRoads$Board")
  | 1 => .int
  | _ => .int
abbrev wsX20 : List Cond := u_ws RX2 TX2 3
theorem nmX2 : ∀ a, a < 3 → ∀ b, b < 3 → a ≠ b → (TX2 a).2.1 ≠ (TX2 b).2.1 := by decide +kernel
theorem tyX2_ok : ∀ k, k < 3 → parseFieldDescriptor (TX2 k).2.2.1 = some (tyX2 k) := by decide +kernel
abbrev cX2_init : ByteArray := prog_4_method_1_code
def yX2_init : MethodName := ⟨RX2, "<init>", "()V"⟩
abbrev cX2_kept : ByteArray := prog_4_method_2_code
def yX2_kept : MethodName := ⟨RX2, "kept", "()I"⟩
abbrev cX2_stage : ByteArray := prog_4_method_3_code
def yX2_stage : MethodName := ⟨RX2, "stage", "(LDiceRoads$Board;)V"⟩
abbrev cX2_keepStaged : ByteArray := prog_4_method_4_code
def yX2_keepStaged : MethodName := ⟨RX2, "keepStaged", "()V"⟩
abbrev cX2_stepBack : ByteArray := prog_4_method_5_code
def yX2_stepBack : MethodName := ⟨RX2, "stepBack", "(LDiceRoads$Board;)I"⟩
def RX3 : String := "DiceRoads$Line"
def TX3 : u_T := fun k => match k with
  | 0 => ("DiceRoads$Line", "signs", "LDiceRoads$Row;", true)
  | 1 => ("DiceRoads$Line", "room", "I", true)
  | _ => ("DiceRoads$Line", "length", "I", false)
def tyX3 : Nat → FieldType := fun k => match k with
  | 0 => .object "DiceRoads$Row"
  | 1 => .int
  | _ => .int
abbrev wsX30 : List Cond := u_ws RX3 TX3 3
theorem nmX3 : ∀ a, a < 3 → ∀ b, b < 3 → a ≠ b → (TX3 a).2.1 ≠ (TX3 b).2.1 := by decide +kernel
theorem tyX3_ok : ∀ k, k < 3 → parseFieldDescriptor (TX3 k).2.2.1 = some (tyX3 k) := by decide +kernel
abbrev cX3_init : ByteArray := prog_5_method_1_code
def yX3_init : MethodName := ⟨RX3, "<init>", "(I)V"⟩
abbrev cX3_length : ByteArray := prog_5_method_2_code
def yX3_length : MethodName := ⟨RX3, "length", "()I"⟩
abbrev cX3_at : ByteArray := prog_5_method_3_code
def yX3_at : MethodName := ⟨RX3, "at", "(I)I"⟩
abbrev cX3_append : ByteArray := prog_5_method_4_code
def yX3_append : MethodName := ⟨RX3, "append", "(I)V"⟩
abbrev cX3_makeEmpty : ByteArray := prog_5_method_5_code
def yX3_makeEmpty : MethodName := ⟨RX3, "makeEmpty", "()V"⟩
def RX4 : String := "DiceRoads$Orders"
def TX4 : u_T := fun k => match k with
  | _ => ("", "", "", false)
def tyX4 : Nat → FieldType := fun k => match k with
  | _ => .int
abbrev wsX40 : List Cond := u_ws RX4 TX4 0
theorem nmX4 : ∀ a, a < 0 → ∀ b, b < 0 → a ≠ b → (TX4 a).2.1 ≠ (TX4 b).2.1 := by decide +kernel
theorem tyX4_ok : ∀ k, k < 0 → parseFieldDescriptor (TX4 k).2.2.1 = some (tyX4 k) := by decide +kernel
abbrev cX4_signsIn : ByteArray := prog_6_method_2_code
def yX4_signsIn : MethodName := ⟨RX4, "signsIn", "(J)I"⟩
abbrev cX4_signOf : ByteArray := prog_6_method_3_code
def yX4_signOf : MethodName := ⟨RX4, "signOf", "(JI)I"⟩
abbrev cX4_isDigit : ByteArray := prog_6_method_4_code
def yX4_isDigit : MethodName := ⟨RX4, "isDigit", "(I)Z"⟩
abbrev cX4_firstFault : ByteArray := prog_6_method_5_code
def yX4_firstFault : MethodName := ⟨RX4, "firstFault", "(LDiceRoads$Line;)I"⟩
abbrev cX4_dueBehind : ByteArray := prog_6_method_6_code
def yX4_dueBehind : MethodName := ⟨RX4, "dueBehind", "(II)I"⟩
abbrev cX4_dueBehindLetter : ByteArray := prog_6_method_7_code
def yX4_dueBehindLetter : MethodName := ⟨RX4, "dueBehindLetter", "(I)I"⟩
def RX5 : String := "DiceRoads$Roads"
def TX5 : u_T := fun k => match k with
  | 0 => ("DiceRoads$Roads", "first", "LDiceRoads$Row;", true)
  | _ => ("DiceRoads$Roads", "second", "LDiceRoads$Row;", true)
def tyX5 : Nat → FieldType := fun k => match k with
  | 0 => .object "DiceRoads$Row"
  | _ => .object "DiceRoads$Row"
abbrev wsX50 : List Cond := u_ws RX5 TX5 2
theorem nmX5 : ∀ a, a < 2 → ∀ b, b < 2 → a ≠ b → (TX5 a).2.1 ≠ (TX5 b).2.1 := by decide +kernel
theorem tyX5_ok : ∀ k, k < 2 → parseFieldDescriptor (TX5 k).2.2.1 = some (tyX5 k) := by decide +kernel
abbrev cX5_init : ByteArray := prog_7_method_1_code
def yX5_init : MethodName := ⟨RX5, "<init>", "()V"⟩
abbrev cX5_copyFrom : ByteArray := prog_7_method_2_code
def yX5_copyFrom : MethodName := ⟨RX5, "copyFrom", "(LDiceRoads$Roads;)V"⟩
abbrev cX5_sortOf : ByteArray := prog_7_method_3_code
def yX5_sortOf : MethodName := ⟨RX5, "sortOf", "(I)I"⟩
abbrev cX5_firstOwner : ByteArray := prog_7_method_4_code
def yX5_firstOwner : MethodName := ⟨RX5, "firstOwner", "(I)I"⟩
abbrev cX5_secondOwner : ByteArray := prog_7_method_5_code
def yX5_secondOwner : MethodName := ⟨RX5, "secondOwner", "(I)I"⟩
abbrev cX5_isOwnedBy : ByteArray := prog_7_method_6_code
def yX5_isOwnedBy : MethodName := ⟨RX5, "isOwnedBy", "(II)Z"⟩
abbrev cX5_hasFreePart : ByteArray := prog_7_method_7_code
def yX5_hasFreePart : MethodName := ⟨RX5, "hasFreePart", "(I)Z"⟩
abbrev cX5_giveFreePart : ByteArray := prog_7_method_8_code
def yX5_giveFreePart : MethodName := ⟨RX5, "giveFreePart", "(II)V"⟩
abbrev cX5_handOn : ByteArray := prog_7_method_9_code
def yX5_handOn : MethodName := ⟨RX5, "handOn", "(III)V"⟩
abbrev cX5_lowestOf : ByteArray := prog_7_method_10_code
def yX5_lowestOf : MethodName := ⟨RX5, "lowestOf", "(I)I"⟩
abbrev cX5_squaresOf : ByteArray := prog_7_method_11_code
def yX5_squaresOf : MethodName := ⟨RX5, "squaresOf", "(I)I"⟩
abbrev cX5_toll : ByteArray := prog_7_method_12_code
def yX5_toll : MethodName := ⟨RX5, "toll", "(II)I"⟩
def RX6 : String := "DiceRoads$Row"
def TX6 : u_T := fun k => match k with
  | 0 => ("DiceRoads$Row", "cells", "[I", true)
  | _ => ("DiceRoads$Row", "empty", "I", true)
def tyX6 : Nat → FieldType := fun k => match k with
  | 0 => .array .int
  | _ => .int
abbrev wsX60 : List Cond := u_ws RX6 TX6 2
theorem nmX6 : ∀ a, a < 2 → ∀ b, b < 2 → a ≠ b → (TX6 a).2.1 ≠ (TX6 b).2.1 := by decide +kernel
theorem tyX6_ok : ∀ k, k < 2 → parseFieldDescriptor (TX6 k).2.2.1 = some (tyX6 k) := by decide +kernel
abbrev cX6_init : ByteArray := prog_8_method_1_code
def yX6_init : MethodName := ⟨RX6, "<init>", "(II)V"⟩
abbrev cX6_at : ByteArray := prog_8_method_2_code
def yX6_at : MethodName := ⟨RX6, "at", "(I)I"⟩
abbrev cX6_write : ByteArray := prog_8_method_3_code
def yX6_write : MethodName := ⟨RX6, "write", "(II)V"⟩
abbrev cX6_add : ByteArray := prog_8_method_4_code
def yX6_add : MethodName := ⟨RX6, "add", "(II)V"⟩
abbrev cX6_sum : ByteArray := prog_8_method_5_code
def yX6_sum : MethodName := ⟨RX6, "sum", "()I"⟩
abbrev cX6_copyFrom : ByteArray := prog_8_method_6_code
def yX6_copyFrom : MethodName := ⟨RX6, "copyFrom", "(LDiceRoads$Row;)V"⟩
def RX7 : String := "DiceRoads"
def TX7 : u_T := fun k => match k with
  | 0 => ("DiceRoads", "board", "LDiceRoads$Board;", true)
  | 1 => ("DiceRoads", "trial", "LDiceRoads$Board;", true)
  | 2 => ("DiceRoads", "history", "LDiceRoads$History;", true)
  | 3 => ("DiceRoads", "slots", "[LDiceRoads$Board;", true)
  | 4 => ("DiceRoads", "pad", "LDiceRoads$Line;", true)
  | _ => ("DiceRoads", "boardText", "LDiceRoads$Line;", true)
def tyX7 : Nat → FieldType := fun k => match k with
  | 0 => .object "DiceRoads$Board"
  | 1 => .object "DiceRoads$Board"
  | 2 => .object "DiceRoads$History"
  | 3 => .array (.object "DiceRoads$Board")
  | 4 => .object "DiceRoads$Line"
  | _ => .object "DiceRoads$Line"
abbrev wsX70 : List Cond := u_ws RX7 TX7 6
theorem nmX7 : ∀ a, a < 6 → ∀ b, b < 6 → a ≠ b → (TX7 a).2.1 ≠ (TX7 b).2.1 := by decide +kernel
theorem tyX7_ok : ∀ k, k < 6 → parseFieldDescriptor (TX7 k).2.2.1 = some (tyX7 k) := by decide +kernel
abbrev cX7_init : ByteArray := prog_1_method_1_code
def yX7_init : MethodName := ⟨RX7, "<init>", "()V"⟩
abbrev cX7_set : ByteArray := prog_1_method_2_code
def yX7_set : MethodName := ⟨RX7, "set", "(II)I"⟩
abbrev cX7_player : ByteArray := prog_1_method_3_code
def yX7_player : MethodName := ⟨RX7, "player", "(I)I"⟩
abbrev cX7_seed : ByteArray := prog_1_method_4_code
def yX7_seed : MethodName := ⟨RX7, "seed", "(I)I"⟩
abbrev cX7_go : ByteArray := prog_1_method_5_code
def yX7_go : MethodName := ⟨RX7, "go", "(I)I"⟩
abbrev cX7_clear : ByteArray := prog_1_method_6_code
def yX7_clear : MethodName := ⟨RX7, "clear", "(I)I"⟩
abbrev cX7_changed : ByteArray := prog_1_method_7_code
def yX7_changed : MethodName := ⟨RX7, "changed", "(I)I"⟩
abbrev cX7_of : ByteArray := prog_1_method_8_code
def yX7_of : MethodName := ⟨RX7, "of", "(II)I"⟩
abbrev cX7_ofSquare : ByteArray := prog_1_method_9_code
def yX7_ofSquare : MethodName := ⟨RX7, "ofSquare", "(II)I"⟩
abbrev cX7_owes : ByteArray := prog_1_method_10_code
def yX7_owes : MethodName := ⟨RX7, "owes", "(III)I"⟩
abbrev cX7_count : ByteArray := prog_1_method_11_code
def yX7_count : MethodName := ⟨RX7, "count", "(I)I"⟩
abbrev cX7_sign : ByteArray := prog_1_method_12_code
def yX7_sign : MethodName := ⟨RX7, "sign", "(I)I"⟩
abbrev cX7_chain : ByteArray := prog_1_method_13_code
def yX7_chain : MethodName := ⟨RX7, "chain", "(II)I"⟩
abbrev cX7_emptyIn : ByteArray := prog_1_method_14_code
def yX7_emptyIn : MethodName := ⟨RX7, "emptyIn", "(I)I"⟩
abbrev cX7_purseIn : ByteArray := prog_1_method_15_code
def yX7_purseIn : MethodName := ⟨RX7, "purseIn", "(II)I"⟩
abbrev cX7_bestSeed : ByteArray := prog_1_method_16_code
def yX7_bestSeed : MethodName := ⟨RX7, "bestSeed", "(II)I"⟩
abbrev cX7_put : ByteArray := prog_1_method_17_code
def yX7_put : MethodName := ⟨RX7, "put", "(J)I"⟩
abbrev cX7_wipe : ByteArray := prog_1_method_18_code
def yX7_wipe : MethodName := ⟨RX7, "wipe", "()I"⟩
abbrev cX7_fault : ByteArray := prog_1_method_19_code
def yX7_fault : MethodName := ⟨RX7, "fault", "()I"⟩
abbrev cX7_carryOut : ByteArray := prog_1_method_20_code
def yX7_carryOut : MethodName := ⟨RX7, "carryOut", "()I"⟩
abbrev cX7_obey : ByteArray := prog_1_method_21_code
def yX7_obey : MethodName := ⟨RX7, "obey", "(II)I"⟩
abbrev cX7_undo : ByteArray := prog_1_method_22_code
def yX7_undo : MethodName := ⟨RX7, "undo", "()I"⟩
abbrev cX7_save : ByteArray := prog_1_method_23_code
def yX7_save : MethodName := ⟨RX7, "save", "(I)I"⟩
abbrev cX7_restore : ByteArray := prog_1_method_24_code
def yX7_restore : MethodName := ⟨RX7, "restore", "(I)I"⟩
def RX8 : String := "DiceRoadsModel"
def TX8 : u_T := fun k => match k with
  | 0 => ("DiceRoadsModel", "state", "[I", true)
  | 1 => ("DiceRoadsModel", "kept", "[I", true)
  | 2 => ("DiceRoadsModel", "history", "[I", true)
  | 3 => ("DiceRoadsModel", "recorded", "I", false)
  | 4 => ("DiceRoadsModel", "slots", "[I", true)
  | 5 => ("DiceRoadsModel", "isSaved", "[I", true)
  | 6 => ("DiceRoadsModel", "pad", "[I", true)
  | 7 => ("DiceRoadsModel", "padLength", "I", false)
  | 8 => ("DiceRoadsModel", "signs", "I", false)
  | 9 => ("DiceRoadsModel", "wantedSign", "I", false)
  | 10 => ("DiceRoadsModel", "foundSign", "I", false)
  | 11 => ("DiceRoadsModel", "ring", "[I", true)
  | 12 => ("DiceRoadsModel", "ringMany", "I", false)
  | 13 => ("DiceRoadsModel", "by", "[I", true)
  | 14 => ("DiceRoadsModel", "at", "I", false)
  | 15 => ("DiceRoadsModel", "letter", "I", false)
  | _ => ("DiceRoadsModel", "number", "I", false)
def tyX8 : Nat → FieldType := fun k => match k with
  | 0 => .array .int
  | 1 => .array .int
  | 2 => .array .int
  | 3 => .int
  | 4 => .array .int
  | 5 => .array .int
  | 6 => .array .int
  | 7 => .int
  | 8 => .int
  | 9 => .int
  | 10 => .int
  | 11 => .array .int
  | 12 => .int
  | 13 => .array .int
  | 14 => .int
  | 15 => .int
  | _ => .int
abbrev wsX80 : List Cond := u_ws RX8 TX8 17
theorem nmX8 : ∀ a, a < 17 → ∀ b, b < 17 → a ≠ b → (TX8 a).2.1 ≠ (TX8 b).2.1 := by decide +kernel
theorem tyX8_ok : ∀ k, k < 17 → parseFieldDescriptor (TX8 k).2.2.1 = some (tyX8 k) := by decide +kernel
abbrev cX8_init : ByteArray := prog_10_method_1_code
def yX8_init : MethodName := ⟨RX8, "<init>", "()V"⟩
abbrev cX8_moves : ByteArray := prog_10_method_3_code
def yX8_moves : MethodName := ⟨RX8, "moves", "([II[II)V"⟩
abbrev cX8_within : ByteArray := prog_10_method_4_code
def yX8_within : MethodName := ⟨RX8, "within", "(III)Z"⟩
abbrev cX8_record : ByteArray := prog_10_method_5_code
def yX8_record : MethodName := ⟨RX8, "record", "()V"⟩
abbrev cX8_isSquare : ByteArray := prog_10_method_6_code
def yX8_isSquare : MethodName := ⟨RX8, "isSquare", "(I)Z"⟩
abbrev cX8_sortOf : ByteArray := prog_10_method_7_code
def yX8_sortOf : MethodName := ⟨RX8, "sortOf", "(I)I"⟩
abbrev cX8_isPlayer : ByteArray := prog_10_method_8_code
def yX8_isPlayer : MethodName := ⟨RX8, "isPlayer", "(I)Z"⟩
abbrev cX8_playerPart : ByteArray := prog_10_method_9_code
def yX8_playerPart : MethodName := ⟨RX8, "playerPart", "(II)I"⟩
abbrev cX8_adds : ByteArray := prog_10_method_10_code
def yX8_adds : MethodName := ⟨RX8, "adds", "(III)V"⟩
abbrev cX8_debtOf : ByteArray := prog_10_method_11_code
def yX8_debtOf : MethodName := ⟨RX8, "debtOf", "(II)I"⟩
abbrev cX8_ageOf : ByteArray := prog_10_method_12_code
def yX8_ageOf : MethodName := ⟨RX8, "ageOf", "(II)I"⟩
abbrev cX8_addsDebt : ByteArray := prog_10_method_13_code
def yX8_addsDebt : MethodName := ⟨RX8, "addsDebt", "(III)V"⟩
abbrev cX8_owns : ByteArray := prog_10_method_14_code
def yX8_owns : MethodName := ⟨RX8, "owns", "(II)Z"⟩
abbrev cX8_ownedBy : ByteArray := prog_10_method_15_code
def yX8_ownedBy : MethodName := ⟨RX8, "ownedBy", "(I)I"⟩
abbrev cX8_lowestOf : ByteArray := prog_10_method_16_code
def yX8_lowestOf : MethodName := ⟨RX8, "lowestOf", "(I)I"⟩
abbrev cX8_standingAt : ByteArray := prog_10_method_17_code
def yX8_standingAt : MethodName := ⟨RX8, "standingAt", "(I)I"⟩
abbrev cX8_tollOf : ByteArray := prog_10_method_18_code
def yX8_tollOf : MethodName := ⟨RX8, "tollOf", "(I)I"⟩
abbrev cX8_owedBy : ByteArray := prog_10_method_19_code
def yX8_owedBy : MethodName := ⟨RX8, "owedBy", "(I)I"⟩
abbrev cX8_owedTo : ByteArray := prog_10_method_20_code
def yX8_owedTo : MethodName := ⟨RX8, "owedTo", "(I)I"⟩
abbrev cX8_sumOf : ByteArray := prog_10_method_21_code
def yX8_sumOf : MethodName := ⟨RX8, "sumOf", "(I)I"⟩
abbrev cX8_sumOfDebts : ByteArray := prog_10_method_22_code
def yX8_sumOfDebts : MethodName := ⟨RX8, "sumOfDebts", "()I"⟩
abbrev cX8_debtsMany : ByteArray := prog_10_method_23_code
def yX8_debtsMany : MethodName := ⟨RX8, "debtsMany", "()I"⟩
abbrev cX8_die : ByteArray := prog_10_method_24_code
def yX8_die : MethodName := ⟨RX8, "die", "()I"⟩
abbrev cX8_oldest : ByteArray := prog_10_method_25_code
def yX8_oldest : MethodName := ⟨RX8, "oldest", "(II)I"⟩
abbrev cX8_pays : ByteArray := prog_10_method_26_code
def yX8_pays : MethodName := ⟨RX8, "pays", "(III)I"⟩
abbrev cX8_paysDebts : ByteArray := prog_10_method_27_code
def yX8_paysDebts : MethodName := ⟨RX8, "paysDebts", "(I)V"⟩
abbrev cX8_goes : ByteArray := prog_10_method_28_code
def yX8_goes : MethodName := ⟨RX8, "goes", "(I)V"⟩
abbrev cX8_canBeClaimed : ByteArray := prog_10_method_29_code
def yX8_canBeClaimed : MethodName := ⟨RX8, "canBeClaimed", "(I)Z"⟩
abbrev cX8_claims : ByteArray := prog_10_method_30_code
def yX8_claims : MethodName := ⟨RX8, "claims", "(II)V"⟩
abbrev cX8_paysToll : ByteArray := prog_10_method_31_code
def yX8_paysToll : MethodName := ⟨RX8, "paysToll", "(III)V"⟩
abbrev cX8_arrives : ByteArray := prog_10_method_32_code
def yX8_arrives : MethodName := ⟨RX8, "arrives", "(II)V"⟩
abbrev cX8_hands : ByteArray := prog_10_method_33_code
def yX8_hands : MethodName := ⟨RX8, "hands", "(III)V"⟩
abbrev cX8_growsOlder : ByteArray := prog_10_method_34_code
def yX8_growsOlder : MethodName := ⟨RX8, "growsOlder", "(I)V"⟩
abbrev cX8_turn : ByteArray := prog_10_method_35_code
def yX8_turn : MethodName := ⟨RX8, "turn", "()V"⟩
abbrev cX8_doTurns : ByteArray := prog_10_method_36_code
def yX8_doTurns : MethodName := ⟨RX8, "doTurns", "(I)I"⟩
abbrev cX8_isValue : ByteArray := prog_10_method_37_code
def yX8_isValue : MethodName := ⟨RX8, "isValue", "(II)Z"⟩
abbrev cX8_set : ByteArray := prog_10_method_38_code
def yX8_set : MethodName := ⟨RX8, "set", "(II)I"⟩
abbrev cX8_whyNoPlayer : ByteArray := prog_10_method_39_code
def yX8_whyNoPlayer : MethodName := ⟨RX8, "whyNoPlayer", "(I)I"⟩
abbrev cX8_comes : ByteArray := prog_10_method_40_code
def yX8_comes : MethodName := ⟨RX8, "comes", "(I)I"⟩
abbrev cX8_player : ByteArray := prog_10_method_41_code
def yX8_player : MethodName := ⟨RX8, "player", "(I)I"⟩
abbrev cX8_seed : ByteArray := prog_10_method_42_code
def yX8_seed : MethodName := ⟨RX8, "seed", "(I)I"⟩
abbrev cX8_whyNoTurns : ByteArray := prog_10_method_43_code
def yX8_whyNoTurns : MethodName := ⟨RX8, "whyNoTurns", "(I)I"⟩
abbrev cX8_go : ByteArray := prog_10_method_44_code
def yX8_go : MethodName := ⟨RX8, "go", "(I)I"⟩
abbrev cX8_takesRing : ByteArray := prog_10_method_45_code
def yX8_takesRing : MethodName := ⟨RX8, "takesRing", "(IIIII)V"⟩
abbrev cX8_findRing : ByteArray := prog_10_method_46_code
def yX8_findRing : MethodName := ⟨RX8, "findRing", "(II)Z"⟩
abbrev cX8_clearsRing : ByteArray := prog_10_method_47_code
def yX8_clearsRing : MethodName := ⟨RX8, "clearsRing", "()I"⟩
abbrev cX8_clears : ByteArray := prog_10_method_48_code
def yX8_clears : MethodName := ⟨RX8, "clears", "(I)I"⟩
abbrev cX8_clear : ByteArray := prog_10_method_49_code
def yX8_clear : MethodName := ⟨RX8, "clear", "(I)I"⟩
abbrev cX8_of : ByteArray := prog_10_method_50_code
def yX8_of : MethodName := ⟨RX8, "of", "(II)I"⟩
abbrev cX8_ofSquare : ByteArray := prog_10_method_51_code
def yX8_ofSquare : MethodName := ⟨RX8, "ofSquare", "(II)I"⟩
abbrev cX8_owes : ByteArray := prog_10_method_52_code
def yX8_owes : MethodName := ⟨RX8, "owes", "(III)I"⟩
abbrev cX8_count : ByteArray := prog_10_method_53_code
def yX8_count : MethodName := ⟨RX8, "count", "(I)I"⟩
abbrev cX8_writesSign : ByteArray := prog_10_method_54_code
def yX8_writesSign : MethodName := ⟨RX8, "writesSign", "(I)V"⟩
abbrev cX8_writesSquare : ByteArray := prog_10_method_55_code
def yX8_writesSquare : MethodName := ⟨RX8, "writesSquare", "(I)V"⟩
abbrev cX8_writes : ByteArray := prog_10_method_56_code
def yX8_writes : MethodName := ⟨RX8, "writes", "(I)V"⟩
abbrev cX8_sign : ByteArray := prog_10_method_57_code
def yX8_sign : MethodName := ⟨RX8, "sign", "(I)I"⟩
abbrev cX8_chain : ByteArray := prog_10_method_58_code
def yX8_chain : MethodName := ⟨RX8, "chain", "(II)I"⟩
abbrev cX8_emptyIn : ByteArray := prog_10_method_59_code
def yX8_emptyIn : MethodName := ⟨RX8, "emptyIn", "(I)I"⟩
abbrev cX8_purseIn : ByteArray := prog_10_method_60_code
def yX8_purseIn : MethodName := ⟨RX8, "purseIn", "(II)I"⟩
abbrev cX8_bestSeed : ByteArray := prog_10_method_61_code
def yX8_bestSeed : MethodName := ⟨RX8, "bestSeed", "(II)I"⟩
abbrev cX8_put : ByteArray := prog_10_method_62_code
def yX8_put : MethodName := ⟨RX8, "put", "(J)I"⟩
abbrev cX8_wipe : ByteArray := prog_10_method_63_code
def yX8_wipe : MethodName := ⟨RX8, "wipe", "()I"⟩
abbrev cX8_character : ByteArray := prog_10_method_64_code
def yX8_character : MethodName := ⟨RX8, "character", "(I)I"⟩
abbrev cX8_isNext : ByteArray := prog_10_method_65_code
def yX8_isNext : MethodName := ⟨RX8, "isNext", "(I)Z"⟩
abbrev cX8_isDigit : ByteArray := prog_10_method_66_code
def yX8_isDigit : MethodName := ⟨RX8, "isDigit", "()Z"⟩
abbrev cX8_takesNumber : ByteArray := prog_10_method_67_code
def yX8_takesNumber : MethodName := ⟨RX8, "takesNumber", "(I)Z"⟩
abbrev cX8_readsOrder : ByteArray := prog_10_method_68_code
def yX8_readsOrder : MethodName := ⟨RX8, "readsOrder", "()Z"⟩
abbrev cX8_findFault : ByteArray := prog_10_method_69_code
def yX8_findFault : MethodName := ⟨RX8, "findFault", "()I"⟩
abbrev cX8_fault : ByteArray := prog_10_method_70_code
def yX8_fault : MethodName := ⟨RX8, "fault", "()I"⟩
abbrev cX8_whyNotDone : ByteArray := prog_10_method_71_code
def yX8_whyNotDone : MethodName := ⟨RX8, "whyNotDone", "()I"⟩
abbrev cX8_does : ByteArray := prog_10_method_72_code
def yX8_does : MethodName := ⟨RX8, "does", "()V"⟩
abbrev cX8_carryOut : ByteArray := prog_10_method_73_code
def yX8_carryOut : MethodName := ⟨RX8, "carryOut", "()I"⟩
abbrev cX8_undo : ByteArray := prog_10_method_74_code
def yX8_undo : MethodName := ⟨RX8, "undo", "()I"⟩
abbrev cX8_save : ByteArray := prog_10_method_75_code
def yX8_save : MethodName := ⟨RX8, "save", "(I)I"⟩
abbrev cX8_restore : ByteArray := prog_10_method_76_code
def yX8_restore : MethodName := ⟨RX8, "restore", "(I)I"⟩
def RJ9 : String := "java/lang/Math"
def TJ9 : u_T := fun k => match k with
  | _ => ("", "", "", false)
def tyJ9 : Nat → FieldType := fun k => match k with
  | _ => .int
abbrev wsJ90 : List Cond := u_ws RJ9 TJ9 0
theorem nmJ9 : ∀ a, a < 0 → ∀ b, b < 0 → a ≠ b → (TJ9 a).2.1 ≠ (TJ9 b).2.1 := by decide +kernel
theorem tyJ9_ok : ∀ k, k < 0 → parseFieldDescriptor (TJ9 k).2.2.1 = some (tyJ9 k) := by decide +kernel
abbrev cJ9_max_7cf53 : ByteArray := prog_11_method_65_code
def yJ9_max_7cf53 : MethodName := ⟨RJ9, "max", "(II)I"⟩
abbrev cJ9_min_7cf53 : ByteArray := prog_11_method_69_code
def yJ9_min_7cf53 : MethodName := ⟨RJ9, "min", "(II)I"⟩
def RL : String := "DiceRoadsLaw"
abbrev cL_law : ByteArray := code
def yL_law : MethodName := ⟨RL, "law", "([I)Z"⟩
def wsJ9_max_7cf53 : List Cond := .code yJ9_max_7cf53 cJ9_max_7cf53 2 (some .int) :: ([])
def wsJ9_min_7cf53 : List Cond := .code yJ9_min_7cf53 cJ9_min_7cf53 2 (some .int) :: ([])
abbrev vwCl : List vw_C := [(RX0, TX0, 15), (RX1, TX1, 3), (RX2, TX2, 3), (RX3, TX3, 3), (RX5, TX5, 2), (RX6, TX6, 2), (RX7, TX7, 6), (RX8, TX8, 17)]
end
section
theorem dX8_init_0 : decode cX8_init 0 = .ok (.aload_n 0, 1) := by decide +kernel
theorem dX8_init_1 : decode cX8_init 1 = .ok (.invokespecial 1, 3) := by decide +kernel
theorem dX8_init_4 : decode cX8_init 4 = .ok (.aload_n 0, 1) := by decide +kernel
theorem dX8_init_5 : decode cX8_init 5 = .ok (.bipush 107, 2) := by decide +kernel
theorem dX8_init_7 : decode cX8_init 7 = .ok (.newarray .int, 2) := by decide +kernel
theorem dX8_init_9 : decode cX8_init 9 = .ok (.putfield 7, 3) := by decide +kernel
theorem dX8_init_12 : decode cX8_init 12 = .ok (.aload_n 0, 1) := by decide +kernel
theorem dX8_init_13 : decode cX8_init 13 = .ok (.bipush 107, 2) := by decide +kernel
theorem dX8_init_15 : decode cX8_init 15 = .ok (.newarray .int, 2) := by decide +kernel
theorem dX8_init_17 : decode cX8_init 17 = .ok (.putfield 13, 3) := by decide +kernel
theorem dX8_init_20 : decode cX8_init 20 = .ok (.aload_n 0, 1) := by decide +kernel
theorem dX8_init_21 : decode cX8_init 21 = .ok (.sipush 642, 3) := by decide +kernel
theorem dX8_init_24 : decode cX8_init 24 = .ok (.newarray .int, 2) := by decide +kernel
theorem dX8_init_26 : decode cX8_init 26 = .ok (.putfield 16, 3) := by decide +kernel
theorem dX8_init_29 : decode cX8_init 29 = .ok (.aload_n 0, 1) := by decide +kernel
theorem dX8_init_30 : decode cX8_init 30 = .ok (.sipush 214, 3) := by decide +kernel
theorem dX8_init_33 : decode cX8_init 33 = .ok (.newarray .int, 2) := by decide +kernel
theorem dX8_init_35 : decode cX8_init 35 = .ok (.putfield 19, 3) := by decide +kernel
theorem dX8_init_38 : decode cX8_init 38 = .ok (.aload_n 0, 1) := by decide +kernel
theorem dX8_init_39 : decode cX8_init 39 = .ok (.iconst 2, 1) := by decide +kernel
theorem dX8_init_40 : decode cX8_init 40 = .ok (.newarray .int, 2) := by decide +kernel
theorem dX8_init_42 : decode cX8_init 42 = .ok (.putfield 22, 3) := by decide +kernel
theorem dX8_init_45 : decode cX8_init 45 = .ok (.aload_n 0, 1) := by decide +kernel
theorem dX8_init_46 : decode cX8_init 46 = .ok (.bipush 80, 2) := by decide +kernel
theorem dX8_init_48 : decode cX8_init 48 = .ok (.newarray .int, 2) := by decide +kernel
theorem dX8_init_50 : decode cX8_init 50 = .ok (.putfield 25, 3) := by decide +kernel
theorem dX8_init_53 : decode cX8_init 53 = .ok (.aload_n 0, 1) := by decide +kernel
theorem dX8_init_54 : decode cX8_init 54 = .ok (.iconst 4, 1) := by decide +kernel
theorem dX8_init_55 : decode cX8_init 55 = .ok (.newarray .int, 2) := by decide +kernel
theorem dX8_init_57 : decode cX8_init 57 = .ok (.putfield 28, 3) := by decide +kernel
theorem dX8_init_60 : decode cX8_init 60 = .ok (.aload_n 0, 1) := by decide +kernel
theorem dX8_init_61 : decode cX8_init 61 = .ok (.iconst 4, 1) := by decide +kernel
theorem dX8_init_62 : decode cX8_init 62 = .ok (.newarray .int, 2) := by decide +kernel
theorem dX8_init_64 : decode cX8_init 64 = .ok (.putfield 31, 3) := by decide +kernel
theorem dX8_init_67 : decode cX8_init 67 = .ok (.aload_n 0, 1) := by decide +kernel
theorem dX8_init_68 : decode cX8_init 68 = .ok (.getfield 7, 3) := by decide +kernel
theorem dX8_init_71 : decode cX8_init 71 = .ok (.iconst 0, 1) := by decide +kernel
theorem dX8_init_72 : decode cX8_init 72 = .ok (.bipush 20, 2) := by decide +kernel
theorem dX8_init_74 : decode cX8_init 74 = .ok (.iastore, 1) := by decide +kernel
theorem dX8_init_75 : decode cX8_init 75 = .ok (.aload_n 0, 1) := by decide +kernel
theorem dX8_init_76 : decode cX8_init 76 = .ok (.getfield 7, 3) := by decide +kernel
theorem dX8_init_79 : decode cX8_init 79 = .ok (.iconst 1, 1) := by decide +kernel
theorem dX8_init_80 : decode cX8_init 80 = .ok (.bipush 15, 2) := by decide +kernel
theorem dX8_init_82 : decode cX8_init 82 = .ok (.iastore, 1) := by decide +kernel
theorem dX8_init_83 : decode cX8_init 83 = .ok (.aload_n 0, 1) := by decide +kernel
theorem dX8_init_84 : decode cX8_init 84 = .ok (.getfield 7, 3) := by decide +kernel
theorem dX8_init_87 : decode cX8_init 87 = .ok (.iconst 2, 1) := by decide +kernel
theorem dX8_init_88 : decode cX8_init 88 = .ok (.bipush 6, 2) := by decide +kernel
theorem dX8_init_90 : decode cX8_init 90 = .ok (.iastore, 1) := by decide +kernel
theorem dX8_init_91 : decode cX8_init 91 = .ok (.aload_n 0, 1) := by decide +kernel
theorem dX8_init_92 : decode cX8_init 92 = .ok (.getfield 7, 3) := by decide +kernel
theorem dX8_init_95 : decode cX8_init 95 = .ok (.iconst 3, 1) := by decide +kernel
theorem dX8_init_96 : decode cX8_init 96 = .ok (.iconst 3, 1) := by decide +kernel
theorem dX8_init_97 : decode cX8_init 97 = .ok (.iastore, 1) := by decide +kernel
theorem dX8_init_98 : decode cX8_init 98 = .ok (.aload_n 0, 1) := by decide +kernel
theorem dX8_init_99 : decode cX8_init 99 = .ok (.getfield 7, 3) := by decide +kernel
theorem dX8_init_102 : decode cX8_init 102 = .ok (.iconst 4, 1) := by decide +kernel
theorem dX8_init_103 : decode cX8_init 103 = .ok (.iconst 4, 1) := by decide +kernel
theorem dX8_init_104 : decode cX8_init 104 = .ok (.iastore, 1) := by decide +kernel
theorem dX8_init_105 : decode cX8_init 105 = .ok (.aload_n 0, 1) := by decide +kernel
theorem dX8_init_106 : decode cX8_init 106 = .ok (.getfield 7, 3) := by decide +kernel
theorem dX8_init_109 : decode cX8_init 109 = .ok (.bipush 8, 2) := by decide +kernel
theorem dX8_init_111 : decode cX8_init 111 = .ok (.iconst 1, 1) := by decide +kernel
theorem dX8_init_112 : decode cX8_init 112 = .ok (.iastore, 1) := by decide +kernel
theorem dX8_init_113 : decode cX8_init 113 = .ok (.iconst 0, 1) := by decide +kernel
theorem dX8_init_114 : decode cX8_init 114 = .ok (.istore_n 1, 1) := by decide +kernel
theorem dX8_init_115 : decode cX8_init 115 = .ok (.iload_n 1, 1) := by decide +kernel
theorem dX8_init_116 : decode cX8_init 116 = .ok (.bipush 20, 2) := by decide +kernel
theorem dX8_init_118 : decode cX8_init 118 = .ok (.if_icmp .ge 31, 3) := by decide +kernel
theorem dX8_init_121 : decode cX8_init 121 = .ok (.aload_n 0, 1) := by decide +kernel
theorem dX8_init_122 : decode cX8_init 122 = .ok (.getfield 7, 3) := by decide +kernel
theorem dX8_init_125 : decode cX8_init 125 = .ok (.bipush 11, 2) := by decide +kernel
theorem dX8_init_127 : decode cX8_init 127 = .ok (.iload_n 1, 1) := by decide +kernel
theorem dX8_init_128 : decode cX8_init 128 = .ok (.iadd, 1) := by decide +kernel
theorem dX8_init_129 : decode cX8_init 129 = .ok (.bipush (-6), 2) := by decide +kernel
theorem dX8_init_131 : decode cX8_init 131 = .ok (.iastore, 1) := by decide +kernel
theorem dX8_init_132 : decode cX8_init 132 = .ok (.aload_n 0, 1) := by decide +kernel
theorem dX8_init_133 : decode cX8_init 133 = .ok (.getfield 7, 3) := by decide +kernel
theorem dX8_init_136 : decode cX8_init 136 = .ok (.bipush 31, 2) := by decide +kernel
theorem dX8_init_138 : decode cX8_init 138 = .ok (.iload_n 1, 1) := by decide +kernel
theorem dX8_init_139 : decode cX8_init 139 = .ok (.iadd, 1) := by decide +kernel
theorem dX8_init_140 : decode cX8_init 140 = .ok (.bipush (-6), 2) := by decide +kernel
theorem dX8_init_142 : decode cX8_init 142 = .ok (.iastore, 1) := by decide +kernel
theorem dX8_init_143 : decode cX8_init 143 = .ok (.iinc 1 1, 3) := by decide +kernel
theorem dX8_init_146 : decode cX8_init 146 = .ok (.goto (-31), 3) := by decide +kernel
theorem dX8_init_149 : decode cX8_init 149 = .ok (.return_, 1) := by decide +kernel
theorem dX8_moves_0 : decode cX8_moves 0 = .ok (.iconst 0, 1) := by decide +kernel
theorem dX8_moves_1 : decode cX8_moves 1 = .ok (.istore 4, 2) := by decide +kernel
theorem dX8_moves_3 : decode cX8_moves 3 = .ok (.iload 4, 2) := by decide +kernel
theorem dX8_moves_5 : decode cX8_moves 5 = .ok (.bipush 107, 2) := by decide +kernel
theorem dX8_moves_7 : decode cX8_moves 7 = .ok (.if_icmp .ge 21, 3) := by decide +kernel
theorem dX8_moves_10 : decode cX8_moves 10 = .ok (.aload_n 2, 1) := by decide +kernel
theorem dX8_moves_11 : decode cX8_moves 11 = .ok (.iload_n 3, 1) := by decide +kernel
theorem dX8_moves_12 : decode cX8_moves 12 = .ok (.iload 4, 2) := by decide +kernel
theorem dX8_moves_14 : decode cX8_moves 14 = .ok (.iadd, 1) := by decide +kernel
theorem dX8_moves_15 : decode cX8_moves 15 = .ok (.aload_n 0, 1) := by decide +kernel
theorem dX8_moves_16 : decode cX8_moves 16 = .ok (.iload_n 1, 1) := by decide +kernel
theorem dX8_moves_17 : decode cX8_moves 17 = .ok (.iload 4, 2) := by decide +kernel
theorem dX8_moves_19 : decode cX8_moves 19 = .ok (.iadd, 1) := by decide +kernel
theorem dX8_moves_20 : decode cX8_moves 20 = .ok (.iaload, 1) := by decide +kernel
theorem dX8_moves_21 : decode cX8_moves 21 = .ok (.iastore, 1) := by decide +kernel
theorem dX8_moves_22 : decode cX8_moves 22 = .ok (.iinc 4 1, 3) := by decide +kernel
theorem dX8_moves_25 : decode cX8_moves 25 = .ok (.goto (-22), 3) := by decide +kernel
theorem dX8_moves_28 : decode cX8_moves 28 = .ok (.return_, 1) := by decide +kernel
theorem dX8_within_0 : decode cX8_within 0 = .ok (.iload_n 0, 1) := by decide +kernel
theorem dX8_within_1 : decode cX8_within 1 = .ok (.iload_n 1, 1) := by decide +kernel
theorem dX8_within_2 : decode cX8_within 2 = .ok (.if_icmp .lt 12, 3) := by decide +kernel
theorem dX8_within_5 : decode cX8_within 5 = .ok (.iload_n 0, 1) := by decide +kernel
theorem dX8_within_6 : decode cX8_within 6 = .ok (.iload_n 2, 1) := by decide +kernel
theorem dX8_within_7 : decode cX8_within 7 = .ok (.if_icmp .gt 7, 3) := by decide +kernel
theorem dX8_within_10 : decode cX8_within 10 = .ok (.iconst 1, 1) := by decide +kernel
theorem dX8_within_11 : decode cX8_within 11 = .ok (.goto 4, 3) := by decide +kernel
theorem dX8_within_14 : decode cX8_within 14 = .ok (.iconst 0, 1) := by decide +kernel
theorem dX8_within_15 : decode cX8_within 15 = .ok (.ireturn, 1) := by decide +kernel
theorem dX8_record_0 : decode cX8_record 0 = .ok (.aload_n 0, 1) := by decide +kernel
theorem dX8_record_1 : decode cX8_record 1 = .ok (.getfield 34, 3) := by decide +kernel
theorem dX8_record_4 : decode cX8_record 4 = .ok (.bipush 6, 2) := by decide +kernel
theorem dX8_record_6 : decode cX8_record 6 = .ok (.if_icmp .ne 43, 3) := by decide +kernel
theorem dX8_record_9 : decode cX8_record 9 = .ok (.iconst 0, 1) := by decide +kernel
theorem dX8_record_10 : decode cX8_record 10 = .ok (.istore_n 1, 1) := by decide +kernel
theorem dX8_record_11 : decode cX8_record 11 = .ok (.iload_n 1, 1) := by decide +kernel
theorem dX8_record_12 : decode cX8_record 12 = .ok (.sipush 535, 3) := by decide +kernel
theorem dX8_record_15 : decode cX8_record 15 = .ok (.if_icmp .ge 24, 3) := by decide +kernel
theorem dX8_record_18 : decode cX8_record 18 = .ok (.aload_n 0, 1) := by decide +kernel
theorem dX8_record_19 : decode cX8_record 19 = .ok (.getfield 16, 3) := by decide +kernel
theorem dX8_record_22 : decode cX8_record 22 = .ok (.iload_n 1, 1) := by decide +kernel
theorem dX8_record_23 : decode cX8_record 23 = .ok (.aload_n 0, 1) := by decide +kernel
theorem dX8_record_24 : decode cX8_record 24 = .ok (.getfield 16, 3) := by decide +kernel
theorem dX8_record_27 : decode cX8_record 27 = .ok (.iload_n 1, 1) := by decide +kernel
theorem dX8_record_28 : decode cX8_record 28 = .ok (.bipush 107, 2) := by decide +kernel
theorem dX8_record_30 : decode cX8_record 30 = .ok (.iadd, 1) := by decide +kernel
theorem dX8_record_31 : decode cX8_record 31 = .ok (.iaload, 1) := by decide +kernel
theorem dX8_record_32 : decode cX8_record 32 = .ok (.iastore, 1) := by decide +kernel
theorem dX8_record_33 : decode cX8_record 33 = .ok (.iinc 1 1, 3) := by decide +kernel
theorem dX8_record_36 : decode cX8_record 36 = .ok (.goto (-25), 3) := by decide +kernel
theorem dX8_record_39 : decode cX8_record 39 = .ok (.aload_n 0, 1) := by decide +kernel
theorem dX8_record_40 : decode cX8_record 40 = .ok (.dup, 1) := by decide +kernel
theorem dX8_record_41 : decode cX8_record 41 = .ok (.getfield 34, 3) := by decide +kernel
theorem dX8_record_44 : decode cX8_record 44 = .ok (.iconst 1, 1) := by decide +kernel
theorem dX8_record_45 : decode cX8_record 45 = .ok (.isub, 1) := by decide +kernel
theorem dX8_record_46 : decode cX8_record 46 = .ok (.putfield 34, 3) := by decide +kernel
theorem dX8_record_49 : decode cX8_record 49 = .ok (.aload_n 0, 1) := by decide +kernel
theorem dX8_record_50 : decode cX8_record 50 = .ok (.getfield 7, 3) := by decide +kernel
theorem dX8_record_53 : decode cX8_record 53 = .ok (.iconst 0, 1) := by decide +kernel
theorem dX8_record_54 : decode cX8_record 54 = .ok (.aload_n 0, 1) := by decide +kernel
theorem dX8_record_55 : decode cX8_record 55 = .ok (.getfield 16, 3) := by decide +kernel
theorem dX8_record_58 : decode cX8_record 58 = .ok (.aload_n 0, 1) := by decide +kernel
theorem dX8_record_59 : decode cX8_record 59 = .ok (.getfield 34, 3) := by decide +kernel
theorem dX8_record_62 : decode cX8_record 62 = .ok (.bipush 107, 2) := by decide +kernel
theorem dX8_record_64 : decode cX8_record 64 = .ok (.imul, 1) := by decide +kernel
theorem dX8_record_65 : decode cX8_record 65 = .ok (.invokestatic 38, 3) := by decide +kernel
theorem dX8_record_68 : decode cX8_record 68 = .ok (.aload_n 0, 1) := by decide +kernel
theorem dX8_record_69 : decode cX8_record 69 = .ok (.dup, 1) := by decide +kernel
theorem dX8_record_70 : decode cX8_record 70 = .ok (.getfield 34, 3) := by decide +kernel
theorem dX8_record_73 : decode cX8_record 73 = .ok (.iconst 1, 1) := by decide +kernel
theorem dX8_record_74 : decode cX8_record 74 = .ok (.iadd, 1) := by decide +kernel
theorem dX8_record_75 : decode cX8_record 75 = .ok (.putfield 34, 3) := by decide +kernel
theorem dX8_record_78 : decode cX8_record 78 = .ok (.return_, 1) := by decide +kernel
theorem dX8_isSquare_0 : decode cX8_isSquare 0 = .ok (.iload_n 0, 1) := by decide +kernel
theorem dX8_isSquare_1 : decode cX8_isSquare 1 = .ok (.iconst 0, 1) := by decide +kernel
theorem dX8_isSquare_2 : decode cX8_isSquare 2 = .ok (.bipush 19, 2) := by decide +kernel
theorem dX8_isSquare_4 : decode cX8_isSquare 4 = .ok (.invokestatic 42, 3) := by decide +kernel
theorem dX8_isSquare_7 : decode cX8_isSquare 7 = .ok (.ireturn, 1) := by decide +kernel
theorem dX8_sortOf_0 : decode cX8_sortOf 0 = .ok (.iload_n 0, 1) := by decide +kernel
theorem dX8_sortOf_1 : decode cX8_sortOf 1 = .ok (.bipush 10, 2) := by decide +kernel
theorem dX8_sortOf_3 : decode cX8_sortOf 3 = .ok (.irem, 1) := by decide +kernel
theorem dX8_sortOf_4 : decode cX8_sortOf 4 = .ok (.ifCond .ne 7, 3) := by decide +kernel
theorem dX8_sortOf_7 : decode cX8_sortOf 7 = .ok (.iconst 0, 1) := by decide +kernel
theorem dX8_sortOf_8 : decode cX8_sortOf 8 = .ok (.goto 16, 3) := by decide +kernel
theorem dX8_sortOf_11 : decode cX8_sortOf 11 = .ok (.iload_n 0, 1) := by decide +kernel
theorem dX8_sortOf_12 : decode cX8_sortOf 12 = .ok (.bipush 10, 2) := by decide +kernel
theorem dX8_sortOf_14 : decode cX8_sortOf 14 = .ok (.irem, 1) := by decide +kernel
theorem dX8_sortOf_15 : decode cX8_sortOf 15 = .ok (.iconst 5, 1) := by decide +kernel
theorem dX8_sortOf_16 : decode cX8_sortOf 16 = .ok (.if_icmp .ne 7, 3) := by decide +kernel
theorem dX8_sortOf_19 : decode cX8_sortOf 19 = .ok (.iconst 2, 1) := by decide +kernel
theorem dX8_sortOf_20 : decode cX8_sortOf 20 = .ok (.goto 4, 3) := by decide +kernel
theorem dX8_sortOf_23 : decode cX8_sortOf 23 = .ok (.iconst 1, 1) := by decide +kernel
theorem dX8_sortOf_24 : decode cX8_sortOf 24 = .ok (.ireturn, 1) := by decide +kernel
theorem dX8_isPlayer_0 : decode cX8_isPlayer 0 = .ok (.iload_n 1, 1) := by decide +kernel
theorem dX8_isPlayer_1 : decode cX8_isPlayer 1 = .ok (.iconst 0, 1) := by decide +kernel
theorem dX8_isPlayer_2 : decode cX8_isPlayer 2 = .ok (.aload_n 0, 1) := by decide +kernel
theorem dX8_isPlayer_3 : decode cX8_isPlayer 3 = .ok (.getfield 7, 3) := by decide +kernel
theorem dX8_isPlayer_6 : decode cX8_isPlayer 6 = .ok (.bipush 6, 2) := by decide +kernel
theorem dX8_isPlayer_8 : decode cX8_isPlayer 8 = .ok (.iaload, 1) := by decide +kernel
theorem dX8_isPlayer_9 : decode cX8_isPlayer 9 = .ok (.iconst 1, 1) := by decide +kernel
theorem dX8_isPlayer_10 : decode cX8_isPlayer 10 = .ok (.isub, 1) := by decide +kernel
theorem dX8_isPlayer_11 : decode cX8_isPlayer 11 = .ok (.invokestatic 42, 3) := by decide +kernel
theorem dX8_isPlayer_14 : decode cX8_isPlayer 14 = .ok (.ireturn, 1) := by decide +kernel
theorem dX8_playerPart_0 : decode cX8_playerPart 0 = .ok (.aload_n 0, 1) := by decide +kernel
theorem dX8_playerPart_1 : decode cX8_playerPart 1 = .ok (.getfield 7, 3) := by decide +kernel
theorem dX8_playerPart_4 : decode cX8_playerPart 4 = .ok (.bipush 51, 2) := by decide +kernel
theorem dX8_playerPart_6 : decode cX8_playerPart 6 = .ok (.bipush 6, 2) := by decide +kernel
theorem dX8_playerPart_8 : decode cX8_playerPart 8 = .ok (.iload_n 1, 1) := by decide +kernel
theorem dX8_playerPart_9 : decode cX8_playerPart 9 = .ok (.imul, 1) := by decide +kernel
theorem dX8_playerPart_10 : decode cX8_playerPart 10 = .ok (.iadd, 1) := by decide +kernel
theorem dX8_playerPart_11 : decode cX8_playerPart 11 = .ok (.iload_n 2, 1) := by decide +kernel
theorem dX8_playerPart_12 : decode cX8_playerPart 12 = .ok (.iadd, 1) := by decide +kernel
theorem dX8_playerPart_13 : decode cX8_playerPart 13 = .ok (.iaload, 1) := by decide +kernel
theorem dX8_playerPart_14 : decode cX8_playerPart 14 = .ok (.ireturn, 1) := by decide +kernel
theorem dX8_adds_0 : decode cX8_adds 0 = .ok (.aload_n 0, 1) := by decide +kernel
theorem dX8_adds_1 : decode cX8_adds 1 = .ok (.getfield 7, 3) := by decide +kernel
theorem dX8_adds_4 : decode cX8_adds 4 = .ok (.bipush 51, 2) := by decide +kernel
theorem dX8_adds_6 : decode cX8_adds 6 = .ok (.bipush 6, 2) := by decide +kernel
theorem dX8_adds_8 : decode cX8_adds 8 = .ok (.iload_n 1, 1) := by decide +kernel
theorem dX8_adds_9 : decode cX8_adds 9 = .ok (.imul, 1) := by decide +kernel
theorem dX8_adds_10 : decode cX8_adds 10 = .ok (.iadd, 1) := by decide +kernel
theorem dX8_adds_11 : decode cX8_adds 11 = .ok (.iload_n 2, 1) := by decide +kernel
theorem dX8_adds_12 : decode cX8_adds 12 = .ok (.iadd, 1) := by decide +kernel
theorem dX8_adds_13 : decode cX8_adds 13 = .ok (.dup2, 1) := by decide +kernel
theorem dX8_adds_14 : decode cX8_adds 14 = .ok (.iaload, 1) := by decide +kernel
theorem dX8_adds_15 : decode cX8_adds 15 = .ok (.iload_n 3, 1) := by decide +kernel
theorem dX8_adds_16 : decode cX8_adds 16 = .ok (.iadd, 1) := by decide +kernel
theorem dX8_adds_17 : decode cX8_adds 17 = .ok (.iastore, 1) := by decide +kernel
theorem dX8_adds_18 : decode cX8_adds 18 = .ok (.return_, 1) := by decide +kernel
theorem dX8_debtOf_0 : decode cX8_debtOf 0 = .ok (.aload_n 0, 1) := by decide +kernel
theorem dX8_debtOf_1 : decode cX8_debtOf 1 = .ok (.getfield 7, 3) := by decide +kernel
theorem dX8_debtOf_4 : decode cX8_debtOf 4 = .ok (.bipush 75, 2) := by decide +kernel
theorem dX8_debtOf_6 : decode cX8_debtOf 6 = .ok (.iconst 4, 1) := by decide +kernel
theorem dX8_debtOf_7 : decode cX8_debtOf 7 = .ok (.iload_n 1, 1) := by decide +kernel
theorem dX8_debtOf_8 : decode cX8_debtOf 8 = .ok (.imul, 1) := by decide +kernel
theorem dX8_debtOf_9 : decode cX8_debtOf 9 = .ok (.iadd, 1) := by decide +kernel
theorem dX8_debtOf_10 : decode cX8_debtOf 10 = .ok (.iload_n 2, 1) := by decide +kernel
theorem dX8_debtOf_11 : decode cX8_debtOf 11 = .ok (.iadd, 1) := by decide +kernel
theorem dX8_debtOf_12 : decode cX8_debtOf 12 = .ok (.iaload, 1) := by decide +kernel
theorem dX8_debtOf_13 : decode cX8_debtOf 13 = .ok (.ireturn, 1) := by decide +kernel
theorem dX8_ageOf_0 : decode cX8_ageOf 0 = .ok (.aload_n 0, 1) := by decide +kernel
theorem dX8_ageOf_1 : decode cX8_ageOf 1 = .ok (.getfield 7, 3) := by decide +kernel
theorem dX8_ageOf_4 : decode cX8_ageOf 4 = .ok (.bipush 91, 2) := by decide +kernel
theorem dX8_ageOf_6 : decode cX8_ageOf 6 = .ok (.iconst 4, 1) := by decide +kernel
theorem dX8_ageOf_7 : decode cX8_ageOf 7 = .ok (.iload_n 1, 1) := by decide +kernel
theorem dX8_ageOf_8 : decode cX8_ageOf 8 = .ok (.imul, 1) := by decide +kernel
theorem dX8_ageOf_9 : decode cX8_ageOf 9 = .ok (.iadd, 1) := by decide +kernel
theorem dX8_ageOf_10 : decode cX8_ageOf 10 = .ok (.iload_n 2, 1) := by decide +kernel
theorem dX8_ageOf_11 : decode cX8_ageOf 11 = .ok (.iadd, 1) := by decide +kernel
theorem dX8_ageOf_12 : decode cX8_ageOf 12 = .ok (.iaload, 1) := by decide +kernel
theorem dX8_ageOf_13 : decode cX8_ageOf 13 = .ok (.ireturn, 1) := by decide +kernel
theorem dX8_addsDebt_0 : decode cX8_addsDebt 0 = .ok (.aload_n 0, 1) := by decide +kernel
theorem dX8_addsDebt_1 : decode cX8_addsDebt 1 = .ok (.iload_n 1, 1) := by decide +kernel
theorem dX8_addsDebt_2 : decode cX8_addsDebt 2 = .ok (.iload_n 2, 1) := by decide +kernel
theorem dX8_addsDebt_3 : decode cX8_addsDebt 3 = .ok (.invokevirtual 46, 3) := by decide +kernel
theorem dX8_addsDebt_6 : decode cX8_addsDebt 6 = .ok (.istore 4, 2) := by decide +kernel
theorem dX8_addsDebt_8 : decode cX8_addsDebt 8 = .ok (.aload_n 0, 1) := by decide +kernel
theorem dX8_addsDebt_9 : decode cX8_addsDebt 9 = .ok (.getfield 7, 3) := by decide +kernel
theorem dX8_addsDebt_12 : decode cX8_addsDebt 12 = .ok (.bipush 75, 2) := by decide +kernel
theorem dX8_addsDebt_14 : decode cX8_addsDebt 14 = .ok (.iconst 4, 1) := by decide +kernel
theorem dX8_addsDebt_15 : decode cX8_addsDebt 15 = .ok (.iload_n 1, 1) := by decide +kernel
theorem dX8_addsDebt_16 : decode cX8_addsDebt 16 = .ok (.imul, 1) := by decide +kernel
theorem dX8_addsDebt_17 : decode cX8_addsDebt 17 = .ok (.iadd, 1) := by decide +kernel
theorem dX8_addsDebt_18 : decode cX8_addsDebt 18 = .ok (.iload_n 2, 1) := by decide +kernel
theorem dX8_addsDebt_19 : decode cX8_addsDebt 19 = .ok (.iadd, 1) := by decide +kernel
theorem dX8_addsDebt_20 : decode cX8_addsDebt 20 = .ok (.iload 4, 2) := by decide +kernel
theorem dX8_addsDebt_22 : decode cX8_addsDebt 22 = .ok (.iload_n 3, 1) := by decide +kernel
theorem dX8_addsDebt_23 : decode cX8_addsDebt 23 = .ok (.iadd, 1) := by decide +kernel
theorem dX8_addsDebt_24 : decode cX8_addsDebt 24 = .ok (.iastore, 1) := by decide +kernel
theorem dX8_addsDebt_25 : decode cX8_addsDebt 25 = .ok (.iload 4, 2) := by decide +kernel
theorem dX8_addsDebt_27 : decode cX8_addsDebt 27 = .ok (.ifCond .eq 10, 3) := by decide +kernel
theorem dX8_addsDebt_30 : decode cX8_addsDebt 30 = .ok (.iload 4, 2) := by decide +kernel
theorem dX8_addsDebt_32 : decode cX8_addsDebt 32 = .ok (.iload_n 3, 1) := by decide +kernel
theorem dX8_addsDebt_33 : decode cX8_addsDebt 33 = .ok (.iadd, 1) := by decide +kernel
theorem dX8_addsDebt_34 : decode cX8_addsDebt 34 = .ok (.ifCond .ne 17, 3) := by decide +kernel
theorem dX8_addsDebt_37 : decode cX8_addsDebt 37 = .ok (.aload_n 0, 1) := by decide +kernel
theorem dX8_addsDebt_38 : decode cX8_addsDebt 38 = .ok (.getfield 7, 3) := by decide +kernel
theorem dX8_addsDebt_41 : decode cX8_addsDebt 41 = .ok (.bipush 91, 2) := by decide +kernel
theorem dX8_addsDebt_43 : decode cX8_addsDebt 43 = .ok (.iconst 4, 1) := by decide +kernel
theorem dX8_addsDebt_44 : decode cX8_addsDebt 44 = .ok (.iload_n 1, 1) := by decide +kernel
theorem dX8_addsDebt_45 : decode cX8_addsDebt 45 = .ok (.imul, 1) := by decide +kernel
theorem dX8_addsDebt_46 : decode cX8_addsDebt 46 = .ok (.iadd, 1) := by decide +kernel
theorem dX8_addsDebt_47 : decode cX8_addsDebt 47 = .ok (.iload_n 2, 1) := by decide +kernel
theorem dX8_addsDebt_48 : decode cX8_addsDebt 48 = .ok (.iadd, 1) := by decide +kernel
theorem dX8_addsDebt_49 : decode cX8_addsDebt 49 = .ok (.iconst 0, 1) := by decide +kernel
theorem dX8_addsDebt_50 : decode cX8_addsDebt 50 = .ok (.iastore, 1) := by decide +kernel
theorem dX8_addsDebt_51 : decode cX8_addsDebt 51 = .ok (.return_, 1) := by decide +kernel
theorem dX8_owns_0 : decode cX8_owns 0 = .ok (.aload_n 0, 1) := by decide +kernel
theorem dX8_owns_1 : decode cX8_owns 1 = .ok (.getfield 7, 3) := by decide +kernel
theorem dX8_owns_4 : decode cX8_owns 4 = .ok (.bipush 11, 2) := by decide +kernel
theorem dX8_owns_6 : decode cX8_owns 6 = .ok (.iload_n 2, 1) := by decide +kernel
theorem dX8_owns_7 : decode cX8_owns 7 = .ok (.iadd, 1) := by decide +kernel
theorem dX8_owns_8 : decode cX8_owns 8 = .ok (.iaload, 1) := by decide +kernel
theorem dX8_owns_9 : decode cX8_owns 9 = .ok (.iload_n 1, 1) := by decide +kernel
theorem dX8_owns_10 : decode cX8_owns 10 = .ok (.if_icmp .eq 16, 3) := by decide +kernel
theorem dX8_owns_13 : decode cX8_owns 13 = .ok (.aload_n 0, 1) := by decide +kernel
theorem dX8_owns_14 : decode cX8_owns 14 = .ok (.getfield 7, 3) := by decide +kernel
theorem dX8_owns_17 : decode cX8_owns 17 = .ok (.bipush 31, 2) := by decide +kernel
theorem dX8_owns_19 : decode cX8_owns 19 = .ok (.iload_n 2, 1) := by decide +kernel
theorem dX8_owns_20 : decode cX8_owns 20 = .ok (.iadd, 1) := by decide +kernel
theorem dX8_owns_21 : decode cX8_owns 21 = .ok (.iaload, 1) := by decide +kernel
theorem dX8_owns_22 : decode cX8_owns 22 = .ok (.iload_n 1, 1) := by decide +kernel
theorem dX8_owns_23 : decode cX8_owns 23 = .ok (.if_icmp .ne 7, 3) := by decide +kernel
theorem dX8_owns_26 : decode cX8_owns 26 = .ok (.iconst 1, 1) := by decide +kernel
theorem dX8_owns_27 : decode cX8_owns 27 = .ok (.goto 4, 3) := by decide +kernel
theorem dX8_owns_30 : decode cX8_owns 30 = .ok (.iconst 0, 1) := by decide +kernel
theorem dX8_owns_31 : decode cX8_owns 31 = .ok (.ireturn, 1) := by decide +kernel
theorem dX8_ownedBy_0 : decode cX8_ownedBy 0 = .ok (.iconst 0, 1) := by decide +kernel
theorem dX8_ownedBy_1 : decode cX8_ownedBy 1 = .ok (.istore_n 2, 1) := by decide +kernel
theorem dX8_ownedBy_2 : decode cX8_ownedBy 2 = .ok (.iconst 0, 1) := by decide +kernel
theorem dX8_ownedBy_3 : decode cX8_ownedBy 3 = .ok (.istore_n 3, 1) := by decide +kernel
theorem dX8_ownedBy_4 : decode cX8_ownedBy 4 = .ok (.iload_n 3, 1) := by decide +kernel
theorem dX8_ownedBy_5 : decode cX8_ownedBy 5 = .ok (.bipush 20, 2) := by decide +kernel
theorem dX8_ownedBy_7 : decode cX8_ownedBy 7 = .ok (.if_icmp .ge 28, 3) := by decide +kernel
theorem dX8_ownedBy_10 : decode cX8_ownedBy 10 = .ok (.iload_n 2, 1) := by decide +kernel
theorem dX8_ownedBy_11 : decode cX8_ownedBy 11 = .ok (.aload_n 0, 1) := by decide +kernel
theorem dX8_ownedBy_12 : decode cX8_ownedBy 12 = .ok (.iload_n 1, 1) := by decide +kernel
theorem dX8_ownedBy_13 : decode cX8_ownedBy 13 = .ok (.iload_n 3, 1) := by decide +kernel
theorem dX8_ownedBy_14 : decode cX8_ownedBy 14 = .ok (.invokevirtual 50, 3) := by decide +kernel
theorem dX8_ownedBy_17 : decode cX8_ownedBy 17 = .ok (.ifCond .eq 9, 3) := by decide +kernel
theorem dX8_ownedBy_20 : decode cX8_ownedBy 20 = .ok (.iconst 1, 1) := by decide +kernel
theorem dX8_ownedBy_21 : decode cX8_ownedBy 21 = .ok (.iload_n 3, 1) := by decide +kernel
theorem dX8_ownedBy_22 : decode cX8_ownedBy 22 = .ok (.ishl, 1) := by decide +kernel
theorem dX8_ownedBy_23 : decode cX8_ownedBy 23 = .ok (.goto 4, 3) := by decide +kernel
theorem dX8_ownedBy_26 : decode cX8_ownedBy 26 = .ok (.iconst 0, 1) := by decide +kernel
theorem dX8_ownedBy_27 : decode cX8_ownedBy 27 = .ok (.ior, 1) := by decide +kernel
theorem dX8_ownedBy_28 : decode cX8_ownedBy 28 = .ok (.istore_n 2, 1) := by decide +kernel
theorem dX8_ownedBy_29 : decode cX8_ownedBy 29 = .ok (.iinc 3 1, 3) := by decide +kernel
theorem dX8_ownedBy_32 : decode cX8_ownedBy 32 = .ok (.goto (-28), 3) := by decide +kernel
theorem dX8_ownedBy_35 : decode cX8_ownedBy 35 = .ok (.iload_n 2, 1) := by decide +kernel
theorem dX8_ownedBy_36 : decode cX8_ownedBy 36 = .ok (.ireturn, 1) := by decide +kernel
theorem dX8_lowestOf_0 : decode cX8_lowestOf 0 = .ok (.bipush (-6), 2) := by decide +kernel
theorem dX8_lowestOf_2 : decode cX8_lowestOf 2 = .ok (.istore_n 2, 1) := by decide +kernel
theorem dX8_lowestOf_3 : decode cX8_lowestOf 3 = .ok (.bipush 19, 2) := by decide +kernel
theorem dX8_lowestOf_5 : decode cX8_lowestOf 5 = .ok (.istore_n 3, 1) := by decide +kernel
theorem dX8_lowestOf_6 : decode cX8_lowestOf 6 = .ok (.iload_n 3, 1) := by decide +kernel
theorem dX8_lowestOf_7 : decode cX8_lowestOf 7 = .ok (.ifCond .lt 24, 3) := by decide +kernel
theorem dX8_lowestOf_10 : decode cX8_lowestOf 10 = .ok (.aload_n 0, 1) := by decide +kernel
theorem dX8_lowestOf_11 : decode cX8_lowestOf 11 = .ok (.iload_n 1, 1) := by decide +kernel
theorem dX8_lowestOf_12 : decode cX8_lowestOf 12 = .ok (.iload_n 3, 1) := by decide +kernel
theorem dX8_lowestOf_13 : decode cX8_lowestOf 13 = .ok (.invokevirtual 50, 3) := by decide +kernel
theorem dX8_lowestOf_16 : decode cX8_lowestOf 16 = .ok (.ifCond .eq 7, 3) := by decide +kernel
theorem dX8_lowestOf_19 : decode cX8_lowestOf 19 = .ok (.iload_n 3, 1) := by decide +kernel
theorem dX8_lowestOf_20 : decode cX8_lowestOf 20 = .ok (.goto 4, 3) := by decide +kernel
theorem dX8_lowestOf_23 : decode cX8_lowestOf 23 = .ok (.iload_n 2, 1) := by decide +kernel
theorem dX8_lowestOf_24 : decode cX8_lowestOf 24 = .ok (.istore_n 2, 1) := by decide +kernel
theorem dX8_lowestOf_25 : decode cX8_lowestOf 25 = .ok (.iinc 3 (-1), 3) := by decide +kernel
theorem dX8_lowestOf_28 : decode cX8_lowestOf 28 = .ok (.goto (-22), 3) := by decide +kernel
theorem dX8_lowestOf_31 : decode cX8_lowestOf 31 = .ok (.iload_n 2, 1) := by decide +kernel
theorem dX8_lowestOf_32 : decode cX8_lowestOf 32 = .ok (.ireturn, 1) := by decide +kernel
theorem dX8_standingAt_0 : decode cX8_standingAt 0 = .ok (.iconst 0, 1) := by decide +kernel
theorem dX8_standingAt_1 : decode cX8_standingAt 1 = .ok (.istore_n 2, 1) := by decide +kernel
theorem dX8_standingAt_2 : decode cX8_standingAt 2 = .ok (.iconst 0, 1) := by decide +kernel
theorem dX8_standingAt_3 : decode cX8_standingAt 3 = .ok (.istore_n 3, 1) := by decide +kernel
theorem dX8_standingAt_4 : decode cX8_standingAt 4 = .ok (.iload_n 3, 1) := by decide +kernel
theorem dX8_standingAt_5 : decode cX8_standingAt 5 = .ok (.aload_n 0, 1) := by decide +kernel
theorem dX8_standingAt_6 : decode cX8_standingAt 6 = .ok (.getfield 7, 3) := by decide +kernel
theorem dX8_standingAt_9 : decode cX8_standingAt 9 = .ok (.bipush 6, 2) := by decide +kernel
theorem dX8_standingAt_11 : decode cX8_standingAt 11 = .ok (.iaload, 1) := by decide +kernel
theorem dX8_standingAt_12 : decode cX8_standingAt 12 = .ok (.if_icmp .ge 29, 3) := by decide +kernel
theorem dX8_standingAt_15 : decode cX8_standingAt 15 = .ok (.iload_n 2, 1) := by decide +kernel
theorem dX8_standingAt_16 : decode cX8_standingAt 16 = .ok (.aload_n 0, 1) := by decide +kernel
theorem dX8_standingAt_17 : decode cX8_standingAt 17 = .ok (.iload_n 3, 1) := by decide +kernel
theorem dX8_standingAt_18 : decode cX8_standingAt 18 = .ok (.iconst 1, 1) := by decide +kernel
theorem dX8_standingAt_19 : decode cX8_standingAt 19 = .ok (.invokevirtual 54, 3) := by decide +kernel
theorem dX8_standingAt_22 : decode cX8_standingAt 22 = .ok (.iload_n 1, 1) := by decide +kernel
theorem dX8_standingAt_23 : decode cX8_standingAt 23 = .ok (.if_icmp .ne 9, 3) := by decide +kernel
theorem dX8_standingAt_26 : decode cX8_standingAt 26 = .ok (.iconst 1, 1) := by decide +kernel
theorem dX8_standingAt_27 : decode cX8_standingAt 27 = .ok (.iload_n 3, 1) := by decide +kernel
theorem dX8_standingAt_28 : decode cX8_standingAt 28 = .ok (.ishl, 1) := by decide +kernel
theorem dX8_standingAt_29 : decode cX8_standingAt 29 = .ok (.goto 4, 3) := by decide +kernel
theorem dX8_standingAt_32 : decode cX8_standingAt 32 = .ok (.iconst 0, 1) := by decide +kernel
theorem dX8_standingAt_33 : decode cX8_standingAt 33 = .ok (.ior, 1) := by decide +kernel
theorem dX8_standingAt_34 : decode cX8_standingAt 34 = .ok (.istore_n 2, 1) := by decide +kernel
theorem dX8_standingAt_35 : decode cX8_standingAt 35 = .ok (.iinc 3 1, 3) := by decide +kernel
theorem dX8_standingAt_38 : decode cX8_standingAt 38 = .ok (.goto (-34), 3) := by decide +kernel
theorem dX8_standingAt_41 : decode cX8_standingAt 41 = .ok (.iload_n 2, 1) := by decide +kernel
theorem dX8_standingAt_42 : decode cX8_standingAt 42 = .ok (.ireturn, 1) := by decide +kernel
theorem dX8_tollOf_0 : decode cX8_tollOf 0 = .ok (.aload_n 0, 1) := by decide +kernel
theorem dX8_tollOf_1 : decode cX8_tollOf 1 = .ok (.getfield 7, 3) := by decide +kernel
theorem dX8_tollOf_4 : decode cX8_tollOf 4 = .ok (.bipush 11, 2) := by decide +kernel
theorem dX8_tollOf_6 : decode cX8_tollOf 6 = .ok (.iload_n 1, 1) := by decide +kernel
theorem dX8_tollOf_7 : decode cX8_tollOf 7 = .ok (.iadd, 1) := by decide +kernel
theorem dX8_tollOf_8 : decode cX8_tollOf 8 = .ok (.iaload, 1) := by decide +kernel
theorem dX8_tollOf_9 : decode cX8_tollOf 9 = .ok (.istore_n 2, 1) := by decide +kernel
theorem dX8_tollOf_10 : decode cX8_tollOf 10 = .ok (.iload_n 2, 1) := by decide +kernel
theorem dX8_tollOf_11 : decode cX8_tollOf 11 = .ok (.bipush (-6), 2) := by decide +kernel
theorem dX8_tollOf_13 : decode cX8_tollOf 13 = .ok (.if_icmp .ne 5, 3) := by decide +kernel
theorem dX8_tollOf_16 : decode cX8_tollOf 16 = .ok (.iconst 0, 1) := by decide +kernel
theorem dX8_tollOf_17 : decode cX8_tollOf 17 = .ok (.ireturn, 1) := by decide +kernel
theorem dX8_tollOf_18 : decode cX8_tollOf 18 = .ok (.iconst 1, 1) := by decide +kernel
theorem dX8_tollOf_19 : decode cX8_tollOf 19 = .ok (.istore_n 3, 1) := by decide +kernel
theorem dX8_tollOf_20 : decode cX8_tollOf 20 = .ok (.iload_n 1, 1) := by decide +kernel
theorem dX8_tollOf_21 : decode cX8_tollOf 21 = .ok (.iconst 5, 1) := by decide +kernel
theorem dX8_tollOf_22 : decode cX8_tollOf 22 = .ok (.idiv, 1) := by decide +kernel
theorem dX8_tollOf_23 : decode cX8_tollOf 23 = .ok (.iconst 5, 1) := by decide +kernel
theorem dX8_tollOf_24 : decode cX8_tollOf 24 = .ok (.imul, 1) := by decide +kernel
theorem dX8_tollOf_25 : decode cX8_tollOf 25 = .ok (.istore 4, 2) := by decide +kernel
theorem dX8_tollOf_27 : decode cX8_tollOf 27 = .ok (.iload 4, 2) := by decide +kernel
theorem dX8_tollOf_29 : decode cX8_tollOf 29 = .ok (.iload_n 1, 1) := by decide +kernel
theorem dX8_tollOf_30 : decode cX8_tollOf 30 = .ok (.iconst 5, 1) := by decide +kernel
theorem dX8_tollOf_31 : decode cX8_tollOf 31 = .ok (.idiv, 1) := by decide +kernel
theorem dX8_tollOf_32 : decode cX8_tollOf 32 = .ok (.iconst 5, 1) := by decide +kernel
theorem dX8_tollOf_33 : decode cX8_tollOf 33 = .ok (.imul, 1) := by decide +kernel
theorem dX8_tollOf_34 : decode cX8_tollOf 34 = .ok (.iconst 5, 1) := by decide +kernel
theorem dX8_tollOf_35 : decode cX8_tollOf 35 = .ok (.iadd, 1) := by decide +kernel
theorem dX8_tollOf_36 : decode cX8_tollOf 36 = .ok (.if_icmp .ge 40, 3) := by decide +kernel
theorem dX8_tollOf_39 : decode cX8_tollOf 39 = .ok (.iload_n 3, 1) := by decide +kernel
theorem dX8_tollOf_40 : decode cX8_tollOf 40 = .ok (.iload 4, 2) := by decide +kernel
theorem dX8_tollOf_42 : decode cX8_tollOf 42 = .ok (.invokestatic 57, 3) := by decide +kernel
theorem dX8_tollOf_45 : decode cX8_tollOf 45 = .ok (.iconst 1, 1) := by decide +kernel
theorem dX8_tollOf_46 : decode cX8_tollOf 46 = .ok (.if_icmp .ne 21, 3) := by decide +kernel
theorem dX8_tollOf_49 : decode cX8_tollOf 49 = .ok (.aload_n 0, 1) := by decide +kernel
theorem dX8_tollOf_50 : decode cX8_tollOf 50 = .ok (.getfield 7, 3) := by decide +kernel
theorem dX8_tollOf_53 : decode cX8_tollOf 53 = .ok (.bipush 11, 2) := by decide +kernel
theorem dX8_tollOf_55 : decode cX8_tollOf 55 = .ok (.iload 4, 2) := by decide +kernel
theorem dX8_tollOf_57 : decode cX8_tollOf 57 = .ok (.iadd, 1) := by decide +kernel
theorem dX8_tollOf_58 : decode cX8_tollOf 58 = .ok (.iaload, 1) := by decide +kernel
theorem dX8_tollOf_59 : decode cX8_tollOf 59 = .ok (.iload_n 2, 1) := by decide +kernel
theorem dX8_tollOf_60 : decode cX8_tollOf 60 = .ok (.if_icmp .ne 7, 3) := by decide +kernel
theorem dX8_tollOf_63 : decode cX8_tollOf 63 = .ok (.iconst 1, 1) := by decide +kernel
theorem dX8_tollOf_64 : decode cX8_tollOf 64 = .ok (.goto 4, 3) := by decide +kernel
theorem dX8_tollOf_67 : decode cX8_tollOf 67 = .ok (.iconst 0, 1) := by decide +kernel
theorem dX8_tollOf_68 : decode cX8_tollOf 68 = .ok (.iadd, 1) := by decide +kernel
theorem dX8_tollOf_69 : decode cX8_tollOf 69 = .ok (.istore_n 3, 1) := by decide +kernel
theorem dX8_tollOf_70 : decode cX8_tollOf 70 = .ok (.iinc 4 1, 3) := by decide +kernel
theorem dX8_tollOf_73 : decode cX8_tollOf 73 = .ok (.goto (-46), 3) := by decide +kernel
theorem dX8_tollOf_76 : decode cX8_tollOf 76 = .ok (.aload_n 0, 1) := by decide +kernel
theorem dX8_tollOf_77 : decode cX8_tollOf 77 = .ok (.getfield 7, 3) := by decide +kernel
theorem dX8_tollOf_80 : decode cX8_tollOf 80 = .ok (.iconst 2, 1) := by decide +kernel
theorem dX8_tollOf_81 : decode cX8_tollOf 81 = .ok (.iaload, 1) := by decide +kernel
theorem dX8_tollOf_82 : decode cX8_tollOf 82 = .ok (.iload_n 3, 1) := by decide +kernel
theorem dX8_tollOf_83 : decode cX8_tollOf 83 = .ok (.imul, 1) := by decide +kernel
theorem dX8_tollOf_84 : decode cX8_tollOf 84 = .ok (.ireturn, 1) := by decide +kernel
theorem dX8_owedBy_0 : decode cX8_owedBy 0 = .ok (.iconst 0, 1) := by decide +kernel
theorem dX8_owedBy_1 : decode cX8_owedBy 1 = .ok (.istore_n 2, 1) := by decide +kernel
theorem dX8_owedBy_2 : decode cX8_owedBy 2 = .ok (.iconst 0, 1) := by decide +kernel
theorem dX8_owedBy_3 : decode cX8_owedBy 3 = .ok (.istore_n 3, 1) := by decide +kernel
theorem dX8_owedBy_4 : decode cX8_owedBy 4 = .ok (.iload_n 3, 1) := by decide +kernel
theorem dX8_owedBy_5 : decode cX8_owedBy 5 = .ok (.aload_n 0, 1) := by decide +kernel
theorem dX8_owedBy_6 : decode cX8_owedBy 6 = .ok (.getfield 7, 3) := by decide +kernel
theorem dX8_owedBy_9 : decode cX8_owedBy 9 = .ok (.bipush 6, 2) := by decide +kernel
theorem dX8_owedBy_11 : decode cX8_owedBy 11 = .ok (.iaload, 1) := by decide +kernel
theorem dX8_owedBy_12 : decode cX8_owedBy 12 = .ok (.if_icmp .ge 18, 3) := by decide +kernel
theorem dX8_owedBy_15 : decode cX8_owedBy 15 = .ok (.iload_n 2, 1) := by decide +kernel
theorem dX8_owedBy_16 : decode cX8_owedBy 16 = .ok (.aload_n 0, 1) := by decide +kernel
theorem dX8_owedBy_17 : decode cX8_owedBy 17 = .ok (.iload_n 1, 1) := by decide +kernel
theorem dX8_owedBy_18 : decode cX8_owedBy 18 = .ok (.iload_n 3, 1) := by decide +kernel
theorem dX8_owedBy_19 : decode cX8_owedBy 19 = .ok (.invokevirtual 46, 3) := by decide +kernel
theorem dX8_owedBy_22 : decode cX8_owedBy 22 = .ok (.iadd, 1) := by decide +kernel
theorem dX8_owedBy_23 : decode cX8_owedBy 23 = .ok (.istore_n 2, 1) := by decide +kernel
theorem dX8_owedBy_24 : decode cX8_owedBy 24 = .ok (.iinc 3 1, 3) := by decide +kernel
theorem dX8_owedBy_27 : decode cX8_owedBy 27 = .ok (.goto (-23), 3) := by decide +kernel
theorem dX8_owedBy_30 : decode cX8_owedBy 30 = .ok (.iload_n 2, 1) := by decide +kernel
theorem dX8_owedBy_31 : decode cX8_owedBy 31 = .ok (.ireturn, 1) := by decide +kernel
theorem dX8_owedTo_0 : decode cX8_owedTo 0 = .ok (.iconst 0, 1) := by decide +kernel
theorem dX8_owedTo_1 : decode cX8_owedTo 1 = .ok (.istore_n 2, 1) := by decide +kernel
theorem dX8_owedTo_2 : decode cX8_owedTo 2 = .ok (.iconst 0, 1) := by decide +kernel
theorem dX8_owedTo_3 : decode cX8_owedTo 3 = .ok (.istore_n 3, 1) := by decide +kernel
theorem dX8_owedTo_4 : decode cX8_owedTo 4 = .ok (.iload_n 3, 1) := by decide +kernel
theorem dX8_owedTo_5 : decode cX8_owedTo 5 = .ok (.aload_n 0, 1) := by decide +kernel
theorem dX8_owedTo_6 : decode cX8_owedTo 6 = .ok (.getfield 7, 3) := by decide +kernel
theorem dX8_owedTo_9 : decode cX8_owedTo 9 = .ok (.bipush 6, 2) := by decide +kernel
theorem dX8_owedTo_11 : decode cX8_owedTo 11 = .ok (.iaload, 1) := by decide +kernel
theorem dX8_owedTo_12 : decode cX8_owedTo 12 = .ok (.if_icmp .ge 18, 3) := by decide +kernel
theorem dX8_owedTo_15 : decode cX8_owedTo 15 = .ok (.iload_n 2, 1) := by decide +kernel
theorem dX8_owedTo_16 : decode cX8_owedTo 16 = .ok (.aload_n 0, 1) := by decide +kernel
theorem dX8_owedTo_17 : decode cX8_owedTo 17 = .ok (.iload_n 3, 1) := by decide +kernel
theorem dX8_owedTo_18 : decode cX8_owedTo 18 = .ok (.iload_n 1, 1) := by decide +kernel
theorem dX8_owedTo_19 : decode cX8_owedTo 19 = .ok (.invokevirtual 46, 3) := by decide +kernel
theorem dX8_owedTo_22 : decode cX8_owedTo 22 = .ok (.iadd, 1) := by decide +kernel
theorem dX8_owedTo_23 : decode cX8_owedTo 23 = .ok (.istore_n 2, 1) := by decide +kernel
theorem dX8_owedTo_24 : decode cX8_owedTo 24 = .ok (.iinc 3 1, 3) := by decide +kernel
theorem dX8_owedTo_27 : decode cX8_owedTo 27 = .ok (.goto (-23), 3) := by decide +kernel
theorem dX8_owedTo_30 : decode cX8_owedTo 30 = .ok (.iload_n 2, 1) := by decide +kernel
theorem dX8_owedTo_31 : decode cX8_owedTo 31 = .ok (.ireturn, 1) := by decide +kernel
theorem dX8_sumOf_0 : decode cX8_sumOf 0 = .ok (.iconst 0, 1) := by decide +kernel
theorem dX8_sumOf_1 : decode cX8_sumOf 1 = .ok (.istore_n 2, 1) := by decide +kernel
theorem dX8_sumOf_2 : decode cX8_sumOf 2 = .ok (.iconst 0, 1) := by decide +kernel
theorem dX8_sumOf_3 : decode cX8_sumOf 3 = .ok (.istore_n 3, 1) := by decide +kernel
theorem dX8_sumOf_4 : decode cX8_sumOf 4 = .ok (.iload_n 3, 1) := by decide +kernel
theorem dX8_sumOf_5 : decode cX8_sumOf 5 = .ok (.aload_n 0, 1) := by decide +kernel
theorem dX8_sumOf_6 : decode cX8_sumOf 6 = .ok (.getfield 7, 3) := by decide +kernel
theorem dX8_sumOf_9 : decode cX8_sumOf 9 = .ok (.bipush 6, 2) := by decide +kernel
theorem dX8_sumOf_11 : decode cX8_sumOf 11 = .ok (.iaload, 1) := by decide +kernel
theorem dX8_sumOf_12 : decode cX8_sumOf 12 = .ok (.if_icmp .ge 18, 3) := by decide +kernel
theorem dX8_sumOf_15 : decode cX8_sumOf 15 = .ok (.iload_n 2, 1) := by decide +kernel
theorem dX8_sumOf_16 : decode cX8_sumOf 16 = .ok (.aload_n 0, 1) := by decide +kernel
theorem dX8_sumOf_17 : decode cX8_sumOf 17 = .ok (.iload_n 3, 1) := by decide +kernel
theorem dX8_sumOf_18 : decode cX8_sumOf 18 = .ok (.iload_n 1, 1) := by decide +kernel
theorem dX8_sumOf_19 : decode cX8_sumOf 19 = .ok (.invokevirtual 54, 3) := by decide +kernel
theorem dX8_sumOf_22 : decode cX8_sumOf 22 = .ok (.iadd, 1) := by decide +kernel
theorem dX8_sumOf_23 : decode cX8_sumOf 23 = .ok (.istore_n 2, 1) := by decide +kernel
theorem dX8_sumOf_24 : decode cX8_sumOf 24 = .ok (.iinc 3 1, 3) := by decide +kernel
theorem dX8_sumOf_27 : decode cX8_sumOf 27 = .ok (.goto (-23), 3) := by decide +kernel
theorem dX8_sumOf_30 : decode cX8_sumOf 30 = .ok (.iload_n 2, 1) := by decide +kernel
theorem dX8_sumOf_31 : decode cX8_sumOf 31 = .ok (.ireturn, 1) := by decide +kernel
theorem dX8_sumOfDebts_0 : decode cX8_sumOfDebts 0 = .ok (.iconst 0, 1) := by decide +kernel
theorem dX8_sumOfDebts_1 : decode cX8_sumOfDebts 1 = .ok (.istore_n 1, 1) := by decide +kernel
theorem dX8_sumOfDebts_2 : decode cX8_sumOfDebts 2 = .ok (.iconst 0, 1) := by decide +kernel
theorem dX8_sumOfDebts_3 : decode cX8_sumOfDebts 3 = .ok (.istore_n 2, 1) := by decide +kernel
theorem dX8_sumOfDebts_4 : decode cX8_sumOfDebts 4 = .ok (.iload_n 2, 1) := by decide +kernel
theorem dX8_sumOfDebts_5 : decode cX8_sumOfDebts 5 = .ok (.aload_n 0, 1) := by decide +kernel
theorem dX8_sumOfDebts_6 : decode cX8_sumOfDebts 6 = .ok (.getfield 7, 3) := by decide +kernel
theorem dX8_sumOfDebts_9 : decode cX8_sumOfDebts 9 = .ok (.bipush 6, 2) := by decide +kernel
theorem dX8_sumOfDebts_11 : decode cX8_sumOfDebts 11 = .ok (.iaload, 1) := by decide +kernel
theorem dX8_sumOfDebts_12 : decode cX8_sumOfDebts 12 = .ok (.if_icmp .ge 17, 3) := by decide +kernel
theorem dX8_sumOfDebts_15 : decode cX8_sumOfDebts 15 = .ok (.iload_n 1, 1) := by decide +kernel
theorem dX8_sumOfDebts_16 : decode cX8_sumOfDebts 16 = .ok (.aload_n 0, 1) := by decide +kernel
theorem dX8_sumOfDebts_17 : decode cX8_sumOfDebts 17 = .ok (.iload_n 2, 1) := by decide +kernel
theorem dX8_sumOfDebts_18 : decode cX8_sumOfDebts 18 = .ok (.invokevirtual 61, 3) := by decide +kernel
theorem dX8_sumOfDebts_21 : decode cX8_sumOfDebts 21 = .ok (.iadd, 1) := by decide +kernel
theorem dX8_sumOfDebts_22 : decode cX8_sumOfDebts 22 = .ok (.istore_n 1, 1) := by decide +kernel
theorem dX8_sumOfDebts_23 : decode cX8_sumOfDebts 23 = .ok (.iinc 2 1, 3) := by decide +kernel
theorem dX8_sumOfDebts_26 : decode cX8_sumOfDebts 26 = .ok (.goto (-22), 3) := by decide +kernel
theorem dX8_sumOfDebts_29 : decode cX8_sumOfDebts 29 = .ok (.iload_n 1, 1) := by decide +kernel
theorem dX8_sumOfDebts_30 : decode cX8_sumOfDebts 30 = .ok (.ireturn, 1) := by decide +kernel
theorem dX8_debtsMany_0 : decode cX8_debtsMany 0 = .ok (.iconst 0, 1) := by decide +kernel
theorem dX8_debtsMany_1 : decode cX8_debtsMany 1 = .ok (.istore_n 1, 1) := by decide +kernel
theorem dX8_debtsMany_2 : decode cX8_debtsMany 2 = .ok (.iconst 0, 1) := by decide +kernel
theorem dX8_debtsMany_3 : decode cX8_debtsMany 3 = .ok (.istore_n 2, 1) := by decide +kernel
theorem dX8_debtsMany_4 : decode cX8_debtsMany 4 = .ok (.iload_n 2, 1) := by decide +kernel
theorem dX8_debtsMany_5 : decode cX8_debtsMany 5 = .ok (.aload_n 0, 1) := by decide +kernel
theorem dX8_debtsMany_6 : decode cX8_debtsMany 6 = .ok (.getfield 7, 3) := by decide +kernel
theorem dX8_debtsMany_9 : decode cX8_debtsMany 9 = .ok (.bipush 6, 2) := by decide +kernel
theorem dX8_debtsMany_11 : decode cX8_debtsMany 11 = .ok (.iaload, 1) := by decide +kernel
theorem dX8_debtsMany_12 : decode cX8_debtsMany 12 = .ok (.if_icmp .ge 45, 3) := by decide +kernel
theorem dX8_debtsMany_15 : decode cX8_debtsMany 15 = .ok (.iconst 0, 1) := by decide +kernel
theorem dX8_debtsMany_16 : decode cX8_debtsMany 16 = .ok (.istore_n 3, 1) := by decide +kernel
theorem dX8_debtsMany_17 : decode cX8_debtsMany 17 = .ok (.iload_n 3, 1) := by decide +kernel
theorem dX8_debtsMany_18 : decode cX8_debtsMany 18 = .ok (.aload_n 0, 1) := by decide +kernel
theorem dX8_debtsMany_19 : decode cX8_debtsMany 19 = .ok (.getfield 7, 3) := by decide +kernel
theorem dX8_debtsMany_22 : decode cX8_debtsMany 22 = .ok (.bipush 6, 2) := by decide +kernel
theorem dX8_debtsMany_24 : decode cX8_debtsMany 24 = .ok (.iaload, 1) := by decide +kernel
theorem dX8_debtsMany_25 : decode cX8_debtsMany 25 = .ok (.if_icmp .ge 26, 3) := by decide +kernel
theorem dX8_debtsMany_28 : decode cX8_debtsMany 28 = .ok (.iload_n 1, 1) := by decide +kernel
theorem dX8_debtsMany_29 : decode cX8_debtsMany 29 = .ok (.aload_n 0, 1) := by decide +kernel
theorem dX8_debtsMany_30 : decode cX8_debtsMany 30 = .ok (.iload_n 2, 1) := by decide +kernel
theorem dX8_debtsMany_31 : decode cX8_debtsMany 31 = .ok (.iload_n 3, 1) := by decide +kernel
theorem dX8_debtsMany_32 : decode cX8_debtsMany 32 = .ok (.invokevirtual 46, 3) := by decide +kernel
theorem dX8_debtsMany_35 : decode cX8_debtsMany 35 = .ok (.ifCond .le 7, 3) := by decide +kernel
theorem dX8_debtsMany_38 : decode cX8_debtsMany 38 = .ok (.iconst 1, 1) := by decide +kernel
theorem dX8_debtsMany_39 : decode cX8_debtsMany 39 = .ok (.goto 4, 3) := by decide +kernel
theorem dX8_debtsMany_42 : decode cX8_debtsMany 42 = .ok (.iconst 0, 1) := by decide +kernel
theorem dX8_debtsMany_43 : decode cX8_debtsMany 43 = .ok (.iadd, 1) := by decide +kernel
theorem dX8_debtsMany_44 : decode cX8_debtsMany 44 = .ok (.istore_n 1, 1) := by decide +kernel
theorem dX8_debtsMany_45 : decode cX8_debtsMany 45 = .ok (.iinc 3 1, 3) := by decide +kernel
theorem dX8_debtsMany_48 : decode cX8_debtsMany 48 = .ok (.goto (-31), 3) := by decide +kernel
theorem dX8_debtsMany_51 : decode cX8_debtsMany 51 = .ok (.iinc 2 1, 3) := by decide +kernel
theorem dX8_debtsMany_54 : decode cX8_debtsMany 54 = .ok (.goto (-50), 3) := by decide +kernel
theorem dX8_debtsMany_57 : decode cX8_debtsMany 57 = .ok (.iload_n 1, 1) := by decide +kernel
theorem dX8_debtsMany_58 : decode cX8_debtsMany 58 = .ok (.ireturn, 1) := by decide +kernel
theorem dX8_die_0 : decode cX8_die 0 = .ok (.aload_n 0, 1) := by decide +kernel
theorem dX8_die_1 : decode cX8_die 1 = .ok (.getfield 7, 3) := by decide +kernel
theorem dX8_die_4 : decode cX8_die 4 = .ok (.bipush 8, 2) := by decide +kernel
theorem dX8_die_6 : decode cX8_die 6 = .ok (.bipush 75, 2) := by decide +kernel
theorem dX8_die_8 : decode cX8_die 8 = .ok (.aload_n 0, 1) := by decide +kernel
theorem dX8_die_9 : decode cX8_die 9 = .ok (.getfield 7, 3) := by decide +kernel
theorem dX8_die_12 : decode cX8_die 12 = .ok (.bipush 8, 2) := by decide +kernel
theorem dX8_die_14 : decode cX8_die 14 = .ok (.iaload, 1) := by decide +kernel
theorem dX8_die_15 : decode cX8_die 15 = .ok (.imul, 1) := by decide +kernel
theorem dX8_die_16 : decode cX8_die 16 = .ok (.bipush 74, 2) := by decide +kernel
theorem dX8_die_18 : decode cX8_die 18 = .ok (.iadd, 1) := by decide +kernel
theorem dX8_die_19 : decode cX8_die 19 = .ok (.ldc 64, 2) := by decide +kernel
theorem dX8_die_21 : decode cX8_die 21 = .ok (.irem, 1) := by decide +kernel
theorem dX8_die_22 : decode cX8_die 22 = .ok (.iastore, 1) := by decide +kernel
theorem dX8_die_23 : decode cX8_die 23 = .ok (.iconst 1, 1) := by decide +kernel
theorem dX8_die_24 : decode cX8_die 24 = .ok (.aload_n 0, 1) := by decide +kernel
theorem dX8_die_25 : decode cX8_die 25 = .ok (.getfield 7, 3) := by decide +kernel
theorem dX8_die_28 : decode cX8_die 28 = .ok (.bipush 8, 2) := by decide +kernel
theorem dX8_die_30 : decode cX8_die 30 = .ok (.iaload, 1) := by decide +kernel
theorem dX8_die_31 : decode cX8_die 31 = .ok (.bipush 8, 2) := by decide +kernel
theorem dX8_die_33 : decode cX8_die 33 = .ok (.idiv, 1) := by decide +kernel
theorem dX8_die_34 : decode cX8_die 34 = .ok (.bipush 6, 2) := by decide +kernel
theorem dX8_die_36 : decode cX8_die 36 = .ok (.irem, 1) := by decide +kernel
theorem dX8_die_37 : decode cX8_die 37 = .ok (.iadd, 1) := by decide +kernel
theorem dX8_die_38 : decode cX8_die 38 = .ok (.ireturn, 1) := by decide +kernel
theorem dX8_oldest_0 : decode cX8_oldest 0 = .ok (.bipush (-6), 2) := by decide +kernel
theorem dX8_oldest_2 : decode cX8_oldest 2 = .ok (.istore_n 3, 1) := by decide +kernel
theorem dX8_oldest_3 : decode cX8_oldest 3 = .ok (.iconst 0, 1) := by decide +kernel
theorem dX8_oldest_4 : decode cX8_oldest 4 = .ok (.istore 4, 2) := by decide +kernel
theorem dX8_oldest_6 : decode cX8_oldest 6 = .ok (.iload 4, 2) := by decide +kernel
theorem dX8_oldest_8 : decode cX8_oldest 8 = .ok (.aload_n 0, 1) := by decide +kernel
theorem dX8_oldest_9 : decode cX8_oldest 9 = .ok (.getfield 7, 3) := by decide +kernel
theorem dX8_oldest_12 : decode cX8_oldest 12 = .ok (.bipush 6, 2) := by decide +kernel
theorem dX8_oldest_14 : decode cX8_oldest 14 = .ok (.iaload, 1) := by decide +kernel
theorem dX8_oldest_15 : decode cX8_oldest 15 = .ok (.if_icmp .ge 69, 3) := by decide +kernel
theorem dX8_oldest_18 : decode cX8_oldest 18 = .ok (.aload_n 0, 1) := by decide +kernel
theorem dX8_oldest_19 : decode cX8_oldest 19 = .ok (.iload_n 1, 1) := by decide +kernel
theorem dX8_oldest_20 : decode cX8_oldest 20 = .ok (.iload 4, 2) := by decide +kernel
theorem dX8_oldest_22 : decode cX8_oldest 22 = .ok (.invokevirtual 46, 3) := by decide +kernel
theorem dX8_oldest_25 : decode cX8_oldest 25 = .ok (.ifCond .le 38, 3) := by decide +kernel
theorem dX8_oldest_28 : decode cX8_oldest 28 = .ok (.iload_n 2, 1) := by decide +kernel
theorem dX8_oldest_29 : decode cX8_oldest 29 = .ok (.iload 4, 2) := by decide +kernel
theorem dX8_oldest_31 : decode cX8_oldest 31 = .ok (.ishr, 1) := by decide +kernel
theorem dX8_oldest_32 : decode cX8_oldest 32 = .ok (.iconst 1, 1) := by decide +kernel
theorem dX8_oldest_33 : decode cX8_oldest 33 = .ok (.iand, 1) := by decide +kernel
theorem dX8_oldest_34 : decode cX8_oldest 34 = .ok (.ifCond .ne 29, 3) := by decide +kernel
theorem dX8_oldest_37 : decode cX8_oldest 37 = .ok (.iload_n 3, 1) := by decide +kernel
theorem dX8_oldest_38 : decode cX8_oldest 38 = .ok (.bipush (-6), 2) := by decide +kernel
theorem dX8_oldest_40 : decode cX8_oldest 40 = .ok (.if_icmp .eq 19, 3) := by decide +kernel
theorem dX8_oldest_43 : decode cX8_oldest 43 = .ok (.aload_n 0, 1) := by decide +kernel
theorem dX8_oldest_44 : decode cX8_oldest 44 = .ok (.iload_n 1, 1) := by decide +kernel
theorem dX8_oldest_45 : decode cX8_oldest 45 = .ok (.iload 4, 2) := by decide +kernel
theorem dX8_oldest_47 : decode cX8_oldest 47 = .ok (.invokevirtual 65, 3) := by decide +kernel
theorem dX8_oldest_50 : decode cX8_oldest 50 = .ok (.aload_n 0, 1) := by decide +kernel
theorem dX8_oldest_51 : decode cX8_oldest 51 = .ok (.iload_n 1, 1) := by decide +kernel
theorem dX8_oldest_52 : decode cX8_oldest 52 = .ok (.iload_n 3, 1) := by decide +kernel
theorem dX8_oldest_53 : decode cX8_oldest 53 = .ok (.invokevirtual 65, 3) := by decide +kernel
theorem dX8_oldest_56 : decode cX8_oldest 56 = .ok (.if_icmp .le 7, 3) := by decide +kernel
theorem dX8_oldest_59 : decode cX8_oldest 59 = .ok (.iconst 1, 1) := by decide +kernel
theorem dX8_oldest_60 : decode cX8_oldest 60 = .ok (.goto 4, 3) := by decide +kernel
theorem dX8_oldest_63 : decode cX8_oldest 63 = .ok (.iconst 0, 1) := by decide +kernel
theorem dX8_oldest_64 : decode cX8_oldest 64 = .ok (.istore 5, 2) := by decide +kernel
theorem dX8_oldest_66 : decode cX8_oldest 66 = .ok (.iload 5, 2) := by decide +kernel
theorem dX8_oldest_68 : decode cX8_oldest 68 = .ok (.ifCond .eq 8, 3) := by decide +kernel
theorem dX8_oldest_71 : decode cX8_oldest 71 = .ok (.iload 4, 2) := by decide +kernel
theorem dX8_oldest_73 : decode cX8_oldest 73 = .ok (.goto 4, 3) := by decide +kernel
theorem dX8_oldest_76 : decode cX8_oldest 76 = .ok (.iload_n 3, 1) := by decide +kernel
theorem dX8_oldest_77 : decode cX8_oldest 77 = .ok (.istore_n 3, 1) := by decide +kernel
theorem dX8_oldest_78 : decode cX8_oldest 78 = .ok (.iinc 4 1, 3) := by decide +kernel
theorem dX8_oldest_81 : decode cX8_oldest 81 = .ok (.goto (-75), 3) := by decide +kernel
theorem dX8_oldest_84 : decode cX8_oldest 84 = .ok (.iload_n 3, 1) := by decide +kernel
theorem dX8_oldest_85 : decode cX8_oldest 85 = .ok (.ireturn, 1) := by decide +kernel
theorem dX8_pays_0 : decode cX8_pays 0 = .ok (.iload_n 3, 1) := by decide +kernel
theorem dX8_pays_1 : decode cX8_pays 1 = .ok (.aload_n 0, 1) := by decide +kernel
theorem dX8_pays_2 : decode cX8_pays 2 = .ok (.iload_n 1, 1) := by decide +kernel
theorem dX8_pays_3 : decode cX8_pays 3 = .ok (.iconst 0, 1) := by decide +kernel
theorem dX8_pays_4 : decode cX8_pays 4 = .ok (.invokevirtual 54, 3) := by decide +kernel
theorem dX8_pays_7 : decode cX8_pays 7 = .ok (.if_icmp .ge 7, 3) := by decide +kernel
theorem dX8_pays_10 : decode cX8_pays 10 = .ok (.iload_n 3, 1) := by decide +kernel
theorem dX8_pays_11 : decode cX8_pays 11 = .ok (.goto 9, 3) := by decide +kernel
theorem dX8_pays_14 : decode cX8_pays 14 = .ok (.aload_n 0, 1) := by decide +kernel
theorem dX8_pays_15 : decode cX8_pays 15 = .ok (.iload_n 1, 1) := by decide +kernel
theorem dX8_pays_16 : decode cX8_pays 16 = .ok (.iconst 0, 1) := by decide +kernel
theorem dX8_pays_17 : decode cX8_pays 17 = .ok (.invokevirtual 54, 3) := by decide +kernel
theorem dX8_pays_20 : decode cX8_pays 20 = .ok (.istore 4, 2) := by decide +kernel
theorem dX8_pays_22 : decode cX8_pays 22 = .ok (.aload_n 0, 1) := by decide +kernel
theorem dX8_pays_23 : decode cX8_pays 23 = .ok (.iload_n 1, 1) := by decide +kernel
theorem dX8_pays_24 : decode cX8_pays 24 = .ok (.iconst 0, 1) := by decide +kernel
theorem dX8_pays_25 : decode cX8_pays 25 = .ok (.iload 4, 2) := by decide +kernel
theorem dX8_pays_27 : decode cX8_pays 27 = .ok (.ineg, 1) := by decide +kernel
theorem dX8_pays_28 : decode cX8_pays 28 = .ok (.invokevirtual 68, 3) := by decide +kernel
theorem dX8_pays_31 : decode cX8_pays 31 = .ok (.aload_n 0, 1) := by decide +kernel
theorem dX8_pays_32 : decode cX8_pays 32 = .ok (.iload_n 1, 1) := by decide +kernel
theorem dX8_pays_33 : decode cX8_pays 33 = .ok (.iconst 2, 1) := by decide +kernel
theorem dX8_pays_34 : decode cX8_pays 34 = .ok (.iload 4, 2) := by decide +kernel
theorem dX8_pays_36 : decode cX8_pays 36 = .ok (.invokevirtual 68, 3) := by decide +kernel
theorem dX8_pays_39 : decode cX8_pays 39 = .ok (.aload_n 0, 1) := by decide +kernel
theorem dX8_pays_40 : decode cX8_pays 40 = .ok (.iload_n 2, 1) := by decide +kernel
theorem dX8_pays_41 : decode cX8_pays 41 = .ok (.iconst 0, 1) := by decide +kernel
theorem dX8_pays_42 : decode cX8_pays 42 = .ok (.iload 4, 2) := by decide +kernel
theorem dX8_pays_44 : decode cX8_pays 44 = .ok (.invokevirtual 68, 3) := by decide +kernel
theorem dX8_pays_47 : decode cX8_pays 47 = .ok (.aload_n 0, 1) := by decide +kernel
theorem dX8_pays_48 : decode cX8_pays 48 = .ok (.iload_n 2, 1) := by decide +kernel
theorem dX8_pays_49 : decode cX8_pays 49 = .ok (.iconst 3, 1) := by decide +kernel
theorem dX8_pays_50 : decode cX8_pays 50 = .ok (.iload 4, 2) := by decide +kernel
theorem dX8_pays_52 : decode cX8_pays 52 = .ok (.invokevirtual 68, 3) := by decide +kernel
theorem dX8_pays_55 : decode cX8_pays 55 = .ok (.iload 4, 2) := by decide +kernel
theorem dX8_pays_57 : decode cX8_pays 57 = .ok (.ireturn, 1) := by decide +kernel
theorem dX8_paysDebts_0 : decode cX8_paysDebts 0 = .ok (.iconst 0, 1) := by decide +kernel
theorem dX8_paysDebts_1 : decode cX8_paysDebts 1 = .ok (.istore_n 2, 1) := by decide +kernel
theorem dX8_paysDebts_2 : decode cX8_paysDebts 2 = .ok (.aload_n 0, 1) := by decide +kernel
theorem dX8_paysDebts_3 : decode cX8_paysDebts 3 = .ok (.iload_n 1, 1) := by decide +kernel
theorem dX8_paysDebts_4 : decode cX8_paysDebts 4 = .ok (.iload_n 2, 1) := by decide +kernel
theorem dX8_paysDebts_5 : decode cX8_paysDebts 5 = .ok (.invokevirtual 72, 3) := by decide +kernel
theorem dX8_paysDebts_8 : decode cX8_paysDebts 8 = .ok (.istore_n 3, 1) := by decide +kernel
theorem dX8_paysDebts_9 : decode cX8_paysDebts 9 = .ok (.iload_n 3, 1) := by decide +kernel
theorem dX8_paysDebts_10 : decode cX8_paysDebts 10 = .ok (.bipush (-6), 2) := by decide +kernel
theorem dX8_paysDebts_12 : decode cX8_paysDebts 12 = .ok (.if_icmp .eq 38, 3) := by decide +kernel
theorem dX8_paysDebts_15 : decode cX8_paysDebts 15 = .ok (.iload_n 2, 1) := by decide +kernel
theorem dX8_paysDebts_16 : decode cX8_paysDebts 16 = .ok (.iconst 1, 1) := by decide +kernel
theorem dX8_paysDebts_17 : decode cX8_paysDebts 17 = .ok (.iload_n 3, 1) := by decide +kernel
theorem dX8_paysDebts_18 : decode cX8_paysDebts 18 = .ok (.ishl, 1) := by decide +kernel
theorem dX8_paysDebts_19 : decode cX8_paysDebts 19 = .ok (.ior, 1) := by decide +kernel
theorem dX8_paysDebts_20 : decode cX8_paysDebts 20 = .ok (.istore_n 2, 1) := by decide +kernel
theorem dX8_paysDebts_21 : decode cX8_paysDebts 21 = .ok (.aload_n 0, 1) := by decide +kernel
theorem dX8_paysDebts_22 : decode cX8_paysDebts 22 = .ok (.iload_n 1, 1) := by decide +kernel
theorem dX8_paysDebts_23 : decode cX8_paysDebts 23 = .ok (.iload_n 3, 1) := by decide +kernel
theorem dX8_paysDebts_24 : decode cX8_paysDebts 24 = .ok (.aload_n 0, 1) := by decide +kernel
theorem dX8_paysDebts_25 : decode cX8_paysDebts 25 = .ok (.iload_n 1, 1) := by decide +kernel
theorem dX8_paysDebts_26 : decode cX8_paysDebts 26 = .ok (.iload_n 3, 1) := by decide +kernel
theorem dX8_paysDebts_27 : decode cX8_paysDebts 27 = .ok (.aload_n 0, 1) := by decide +kernel
theorem dX8_paysDebts_28 : decode cX8_paysDebts 28 = .ok (.iload_n 1, 1) := by decide +kernel
theorem dX8_paysDebts_29 : decode cX8_paysDebts 29 = .ok (.iload_n 3, 1) := by decide +kernel
theorem dX8_paysDebts_30 : decode cX8_paysDebts 30 = .ok (.invokevirtual 46, 3) := by decide +kernel
theorem dX8_paysDebts_33 : decode cX8_paysDebts 33 = .ok (.invokevirtual 75, 3) := by decide +kernel
theorem dX8_paysDebts_36 : decode cX8_paysDebts 36 = .ok (.ineg, 1) := by decide +kernel
theorem dX8_paysDebts_37 : decode cX8_paysDebts 37 = .ok (.invokevirtual 79, 3) := by decide +kernel
theorem dX8_paysDebts_40 : decode cX8_paysDebts 40 = .ok (.aload_n 0, 1) := by decide +kernel
theorem dX8_paysDebts_41 : decode cX8_paysDebts 41 = .ok (.iload_n 1, 1) := by decide +kernel
theorem dX8_paysDebts_42 : decode cX8_paysDebts 42 = .ok (.iload_n 2, 1) := by decide +kernel
theorem dX8_paysDebts_43 : decode cX8_paysDebts 43 = .ok (.invokevirtual 72, 3) := by decide +kernel
theorem dX8_paysDebts_46 : decode cX8_paysDebts 46 = .ok (.istore_n 3, 1) := by decide +kernel
theorem dX8_paysDebts_47 : decode cX8_paysDebts 47 = .ok (.goto (-38), 3) := by decide +kernel
theorem dX8_paysDebts_50 : decode cX8_paysDebts 50 = .ok (.return_, 1) := by decide +kernel
theorem dX8_goes_0 : decode cX8_goes 0 = .ok (.aload_n 0, 1) := by decide +kernel
theorem dX8_goes_1 : decode cX8_goes 1 = .ok (.invokevirtual 82, 3) := by decide +kernel
theorem dX8_goes_4 : decode cX8_goes 4 = .ok (.istore_n 2, 1) := by decide +kernel
theorem dX8_goes_5 : decode cX8_goes 5 = .ok (.aload_n 0, 1) := by decide +kernel
theorem dX8_goes_6 : decode cX8_goes 6 = .ok (.iload_n 1, 1) := by decide +kernel
theorem dX8_goes_7 : decode cX8_goes 7 = .ok (.iconst 1, 1) := by decide +kernel
theorem dX8_goes_8 : decode cX8_goes 8 = .ok (.invokevirtual 54, 3) := by decide +kernel
theorem dX8_goes_11 : decode cX8_goes 11 = .ok (.iload_n 2, 1) := by decide +kernel
theorem dX8_goes_12 : decode cX8_goes 12 = .ok (.iadd, 1) := by decide +kernel
theorem dX8_goes_13 : decode cX8_goes 13 = .ok (.aload_n 0, 1) := by decide +kernel
theorem dX8_goes_14 : decode cX8_goes 14 = .ok (.invokevirtual 82, 3) := by decide +kernel
theorem dX8_goes_17 : decode cX8_goes 17 = .ok (.iadd, 1) := by decide +kernel
theorem dX8_goes_18 : decode cX8_goes 18 = .ok (.istore_n 3, 1) := by decide +kernel
theorem dX8_goes_19 : decode cX8_goes 19 = .ok (.iload_n 3, 1) := by decide +kernel
theorem dX8_goes_20 : decode cX8_goes 20 = .ok (.bipush 20, 2) := by decide +kernel
theorem dX8_goes_22 : decode cX8_goes 22 = .ok (.if_icmp .lt 31, 3) := by decide +kernel
theorem dX8_goes_25 : decode cX8_goes 25 = .ok (.aload_n 0, 1) := by decide +kernel
theorem dX8_goes_26 : decode cX8_goes 26 = .ok (.iload_n 1, 1) := by decide +kernel
theorem dX8_goes_27 : decode cX8_goes 27 = .ok (.iconst 0, 1) := by decide +kernel
theorem dX8_goes_28 : decode cX8_goes 28 = .ok (.aload_n 0, 1) := by decide +kernel
theorem dX8_goes_29 : decode cX8_goes 29 = .ok (.getfield 7, 3) := by decide +kernel
theorem dX8_goes_32 : decode cX8_goes 32 = .ok (.iconst 0, 1) := by decide +kernel
theorem dX8_goes_33 : decode cX8_goes 33 = .ok (.iaload, 1) := by decide +kernel
theorem dX8_goes_34 : decode cX8_goes 34 = .ok (.invokevirtual 68, 3) := by decide +kernel
theorem dX8_goes_37 : decode cX8_goes 37 = .ok (.aload_n 0, 1) := by decide +kernel
theorem dX8_goes_38 : decode cX8_goes 38 = .ok (.getfield 7, 3) := by decide +kernel
theorem dX8_goes_41 : decode cX8_goes 41 = .ok (.bipush 10, 2) := by decide +kernel
theorem dX8_goes_43 : decode cX8_goes 43 = .ok (.dup2, 1) := by decide +kernel
theorem dX8_goes_44 : decode cX8_goes 44 = .ok (.iaload, 1) := by decide +kernel
theorem dX8_goes_45 : decode cX8_goes 45 = .ok (.aload_n 0, 1) := by decide +kernel
theorem dX8_goes_46 : decode cX8_goes 46 = .ok (.getfield 7, 3) := by decide +kernel
theorem dX8_goes_49 : decode cX8_goes 49 = .ok (.iconst 0, 1) := by decide +kernel
theorem dX8_goes_50 : decode cX8_goes 50 = .ok (.iaload, 1) := by decide +kernel
theorem dX8_goes_51 : decode cX8_goes 51 = .ok (.iadd, 1) := by decide +kernel
theorem dX8_goes_52 : decode cX8_goes 52 = .ok (.iastore, 1) := by decide +kernel
theorem dX8_goes_53 : decode cX8_goes 53 = .ok (.aload_n 0, 1) := by decide +kernel
theorem dX8_goes_54 : decode cX8_goes 54 = .ok (.getfield 7, 3) := by decide +kernel
theorem dX8_goes_57 : decode cX8_goes 57 = .ok (.bipush 51, 2) := by decide +kernel
theorem dX8_goes_59 : decode cX8_goes 59 = .ok (.bipush 6, 2) := by decide +kernel
theorem dX8_goes_61 : decode cX8_goes 61 = .ok (.iload_n 1, 1) := by decide +kernel
theorem dX8_goes_62 : decode cX8_goes 62 = .ok (.imul, 1) := by decide +kernel
theorem dX8_goes_63 : decode cX8_goes 63 = .ok (.iadd, 1) := by decide +kernel
theorem dX8_goes_64 : decode cX8_goes 64 = .ok (.iconst 1, 1) := by decide +kernel
theorem dX8_goes_65 : decode cX8_goes 65 = .ok (.iadd, 1) := by decide +kernel
theorem dX8_goes_66 : decode cX8_goes 66 = .ok (.iload_n 3, 1) := by decide +kernel
theorem dX8_goes_67 : decode cX8_goes 67 = .ok (.bipush 20, 2) := by decide +kernel
theorem dX8_goes_69 : decode cX8_goes 69 = .ok (.irem, 1) := by decide +kernel
theorem dX8_goes_70 : decode cX8_goes 70 = .ok (.iastore, 1) := by decide +kernel
theorem dX8_goes_71 : decode cX8_goes 71 = .ok (.return_, 1) := by decide +kernel
theorem dX8_canBeClaimed_0 : decode cX8_canBeClaimed 0 = .ok (.iload_n 1, 1) := by decide +kernel
theorem dX8_canBeClaimed_1 : decode cX8_canBeClaimed 1 = .ok (.invokestatic 57, 3) := by decide +kernel
theorem dX8_canBeClaimed_4 : decode cX8_canBeClaimed 4 = .ok (.iconst 1, 1) := by decide +kernel
theorem dX8_canBeClaimed_5 : decode cX8_canBeClaimed 5 = .ok (.if_icmp .ne 25, 3) := by decide +kernel
theorem dX8_canBeClaimed_8 : decode cX8_canBeClaimed 8 = .ok (.aload_n 0, 1) := by decide +kernel
theorem dX8_canBeClaimed_9 : decode cX8_canBeClaimed 9 = .ok (.getfield 7, 3) := by decide +kernel
theorem dX8_canBeClaimed_12 : decode cX8_canBeClaimed 12 = .ok (.bipush 11, 2) := by decide +kernel
theorem dX8_canBeClaimed_14 : decode cX8_canBeClaimed 14 = .ok (.iload_n 1, 1) := by decide +kernel
theorem dX8_canBeClaimed_15 : decode cX8_canBeClaimed 15 = .ok (.iadd, 1) := by decide +kernel
theorem dX8_canBeClaimed_16 : decode cX8_canBeClaimed 16 = .ok (.iaload, 1) := by decide +kernel
theorem dX8_canBeClaimed_17 : decode cX8_canBeClaimed 17 = .ok (.bipush (-6), 2) := by decide +kernel
theorem dX8_canBeClaimed_19 : decode cX8_canBeClaimed 19 = .ok (.if_icmp .ne 7, 3) := by decide +kernel
theorem dX8_canBeClaimed_22 : decode cX8_canBeClaimed 22 = .ok (.iconst 1, 1) := by decide +kernel
theorem dX8_canBeClaimed_23 : decode cX8_canBeClaimed 23 = .ok (.goto 34, 3) := by decide +kernel
theorem dX8_canBeClaimed_26 : decode cX8_canBeClaimed 26 = .ok (.iconst 0, 1) := by decide +kernel
theorem dX8_canBeClaimed_27 : decode cX8_canBeClaimed 27 = .ok (.goto 30, 3) := by decide +kernel
theorem dX8_canBeClaimed_30 : decode cX8_canBeClaimed 30 = .ok (.iload_n 1, 1) := by decide +kernel
theorem dX8_canBeClaimed_31 : decode cX8_canBeClaimed 31 = .ok (.invokestatic 57, 3) := by decide +kernel
theorem dX8_canBeClaimed_34 : decode cX8_canBeClaimed 34 = .ok (.iconst 2, 1) := by decide +kernel
theorem dX8_canBeClaimed_35 : decode cX8_canBeClaimed 35 = .ok (.if_icmp .ne 21, 3) := by decide +kernel
theorem dX8_canBeClaimed_38 : decode cX8_canBeClaimed 38 = .ok (.aload_n 0, 1) := by decide +kernel
theorem dX8_canBeClaimed_39 : decode cX8_canBeClaimed 39 = .ok (.getfield 7, 3) := by decide +kernel
theorem dX8_canBeClaimed_42 : decode cX8_canBeClaimed 42 = .ok (.bipush 31, 2) := by decide +kernel
theorem dX8_canBeClaimed_44 : decode cX8_canBeClaimed 44 = .ok (.iload_n 1, 1) := by decide +kernel
theorem dX8_canBeClaimed_45 : decode cX8_canBeClaimed 45 = .ok (.iadd, 1) := by decide +kernel
theorem dX8_canBeClaimed_46 : decode cX8_canBeClaimed 46 = .ok (.iaload, 1) := by decide +kernel
theorem dX8_canBeClaimed_47 : decode cX8_canBeClaimed 47 = .ok (.bipush (-6), 2) := by decide +kernel
theorem dX8_canBeClaimed_49 : decode cX8_canBeClaimed 49 = .ok (.if_icmp .ne 7, 3) := by decide +kernel
theorem dX8_canBeClaimed_52 : decode cX8_canBeClaimed 52 = .ok (.iconst 1, 1) := by decide +kernel
theorem dX8_canBeClaimed_53 : decode cX8_canBeClaimed 53 = .ok (.goto 4, 3) := by decide +kernel
theorem dX8_canBeClaimed_56 : decode cX8_canBeClaimed 56 = .ok (.iconst 0, 1) := by decide +kernel
theorem dX8_canBeClaimed_57 : decode cX8_canBeClaimed 57 = .ok (.ireturn, 1) := by decide +kernel
theorem dX8_claims_0 : decode cX8_claims 0 = .ok (.aload_n 0, 1) := by decide +kernel
theorem dX8_claims_1 : decode cX8_claims 1 = .ok (.invokevirtual 82, 3) := by decide +kernel
theorem dX8_claims_4 : decode cX8_claims 4 = .ok (.istore_n 3, 1) := by decide +kernel
theorem dX8_claims_5 : decode cX8_claims 5 = .ok (.iload_n 3, 1) := by decide +kernel
theorem dX8_claims_6 : decode cX8_claims 6 = .ok (.aload_n 0, 1) := by decide +kernel
theorem dX8_claims_7 : decode cX8_claims 7 = .ok (.getfield 7, 3) := by decide +kernel
theorem dX8_claims_10 : decode cX8_claims 10 = .ok (.iconst 3, 1) := by decide +kernel
theorem dX8_claims_11 : decode cX8_claims 11 = .ok (.iaload, 1) := by decide +kernel
theorem dX8_claims_12 : decode cX8_claims 12 = .ok (.if_icmp .lt 18, 3) := by decide +kernel
theorem dX8_claims_15 : decode cX8_claims 15 = .ok (.aload_n 0, 1) := by decide +kernel
theorem dX8_claims_16 : decode cX8_claims 16 = .ok (.iload_n 1, 1) := by decide +kernel
theorem dX8_claims_17 : decode cX8_claims 17 = .ok (.iconst 0, 1) := by decide +kernel
theorem dX8_claims_18 : decode cX8_claims 18 = .ok (.invokevirtual 54, 3) := by decide +kernel
theorem dX8_claims_21 : decode cX8_claims 21 = .ok (.aload_n 0, 1) := by decide +kernel
theorem dX8_claims_22 : decode cX8_claims 22 = .ok (.getfield 7, 3) := by decide +kernel
theorem dX8_claims_25 : decode cX8_claims 25 = .ok (.iconst 1, 1) := by decide +kernel
theorem dX8_claims_26 : decode cX8_claims 26 = .ok (.iaload, 1) := by decide +kernel
theorem dX8_claims_27 : decode cX8_claims 27 = .ok (.if_icmp .ge 4, 3) := by decide +kernel
theorem dX8_claims_30 : decode cX8_claims 30 = .ok (.return_, 1) := by decide +kernel
theorem dX8_claims_31 : decode cX8_claims 31 = .ok (.aload_n 0, 1) := by decide +kernel
theorem dX8_claims_32 : decode cX8_claims 32 = .ok (.iload_n 1, 1) := by decide +kernel
theorem dX8_claims_33 : decode cX8_claims 33 = .ok (.iconst 0, 1) := by decide +kernel
theorem dX8_claims_34 : decode cX8_claims 34 = .ok (.aload_n 0, 1) := by decide +kernel
theorem dX8_claims_35 : decode cX8_claims 35 = .ok (.getfield 7, 3) := by decide +kernel
theorem dX8_claims_38 : decode cX8_claims 38 = .ok (.iconst 1, 1) := by decide +kernel
theorem dX8_claims_39 : decode cX8_claims 39 = .ok (.iaload, 1) := by decide +kernel
theorem dX8_claims_40 : decode cX8_claims 40 = .ok (.ineg, 1) := by decide +kernel
theorem dX8_claims_41 : decode cX8_claims 41 = .ok (.invokevirtual 68, 3) := by decide +kernel
theorem dX8_claims_44 : decode cX8_claims 44 = .ok (.aload_n 0, 1) := by decide +kernel
theorem dX8_claims_45 : decode cX8_claims 45 = .ok (.getfield 7, 3) := by decide +kernel
theorem dX8_claims_48 : decode cX8_claims 48 = .ok (.bipush 11, 2) := by decide +kernel
theorem dX8_claims_50 : decode cX8_claims 50 = .ok (.iload_n 2, 1) := by decide +kernel
theorem dX8_claims_51 : decode cX8_claims 51 = .ok (.iadd, 1) := by decide +kernel
theorem dX8_claims_52 : decode cX8_claims 52 = .ok (.iaload, 1) := by decide +kernel
theorem dX8_claims_53 : decode cX8_claims 53 = .ok (.bipush (-6), 2) := by decide +kernel
theorem dX8_claims_55 : decode cX8_claims 55 = .ok (.if_icmp .ne 32, 3) := by decide +kernel
theorem dX8_claims_58 : decode cX8_claims 58 = .ok (.aload_n 0, 1) := by decide +kernel
theorem dX8_claims_59 : decode cX8_claims 59 = .ok (.getfield 7, 3) := by decide +kernel
theorem dX8_claims_62 : decode cX8_claims 62 = .ok (.bipush 11, 2) := by decide +kernel
theorem dX8_claims_64 : decode cX8_claims 64 = .ok (.iload_n 2, 1) := by decide +kernel
theorem dX8_claims_65 : decode cX8_claims 65 = .ok (.iadd, 1) := by decide +kernel
theorem dX8_claims_66 : decode cX8_claims 66 = .ok (.iload_n 1, 1) := by decide +kernel
theorem dX8_claims_67 : decode cX8_claims 67 = .ok (.iastore, 1) := by decide +kernel
theorem dX8_claims_68 : decode cX8_claims 68 = .ok (.aload_n 0, 1) := by decide +kernel
theorem dX8_claims_69 : decode cX8_claims 69 = .ok (.getfield 7, 3) := by decide +kernel
theorem dX8_claims_72 : decode cX8_claims 72 = .ok (.bipush 9, 2) := by decide +kernel
theorem dX8_claims_74 : decode cX8_claims 74 = .ok (.dup2, 1) := by decide +kernel
theorem dX8_claims_75 : decode cX8_claims 75 = .ok (.iaload, 1) := by decide +kernel
theorem dX8_claims_76 : decode cX8_claims 76 = .ok (.aload_n 0, 1) := by decide +kernel
theorem dX8_claims_77 : decode cX8_claims 77 = .ok (.getfield 7, 3) := by decide +kernel
theorem dX8_claims_80 : decode cX8_claims 80 = .ok (.iconst 1, 1) := by decide +kernel
theorem dX8_claims_81 : decode cX8_claims 81 = .ok (.iaload, 1) := by decide +kernel
theorem dX8_claims_82 : decode cX8_claims 82 = .ok (.iadd, 1) := by decide +kernel
theorem dX8_claims_83 : decode cX8_claims 83 = .ok (.iastore, 1) := by decide +kernel
theorem dX8_claims_84 : decode cX8_claims 84 = .ok (.goto 33, 3) := by decide +kernel
theorem dX8_claims_87 : decode cX8_claims 87 = .ok (.aload_n 0, 1) := by decide +kernel
theorem dX8_claims_88 : decode cX8_claims 88 = .ok (.getfield 7, 3) := by decide +kernel
theorem dX8_claims_91 : decode cX8_claims 91 = .ok (.bipush 31, 2) := by decide +kernel
theorem dX8_claims_93 : decode cX8_claims 93 = .ok (.iload_n 2, 1) := by decide +kernel
theorem dX8_claims_94 : decode cX8_claims 94 = .ok (.iadd, 1) := by decide +kernel
theorem dX8_claims_95 : decode cX8_claims 95 = .ok (.iload_n 1, 1) := by decide +kernel
theorem dX8_claims_96 : decode cX8_claims 96 = .ok (.iastore, 1) := by decide +kernel
theorem dX8_claims_97 : decode cX8_claims 97 = .ok (.aload_n 0, 1) := by decide +kernel
theorem dX8_claims_98 : decode cX8_claims 98 = .ok (.aload_n 0, 1) := by decide +kernel
theorem dX8_claims_99 : decode cX8_claims 99 = .ok (.getfield 7, 3) := by decide +kernel
theorem dX8_claims_102 : decode cX8_claims 102 = .ok (.bipush 11, 2) := by decide +kernel
theorem dX8_claims_104 : decode cX8_claims 104 = .ok (.iload_n 2, 1) := by decide +kernel
theorem dX8_claims_105 : decode cX8_claims 105 = .ok (.iadd, 1) := by decide +kernel
theorem dX8_claims_106 : decode cX8_claims 106 = .ok (.iaload, 1) := by decide +kernel
theorem dX8_claims_107 : decode cX8_claims 107 = .ok (.iconst 0, 1) := by decide +kernel
theorem dX8_claims_108 : decode cX8_claims 108 = .ok (.aload_n 0, 1) := by decide +kernel
theorem dX8_claims_109 : decode cX8_claims 109 = .ok (.getfield 7, 3) := by decide +kernel
theorem dX8_claims_112 : decode cX8_claims 112 = .ok (.iconst 1, 1) := by decide +kernel
theorem dX8_claims_113 : decode cX8_claims 113 = .ok (.iaload, 1) := by decide +kernel
theorem dX8_claims_114 : decode cX8_claims 114 = .ok (.invokevirtual 68, 3) := by decide +kernel
theorem dX8_claims_117 : decode cX8_claims 117 = .ok (.return_, 1) := by decide +kernel
theorem dX8_paysToll_0 : decode cX8_paysToll 0 = .ok (.aload_n 0, 1) := by decide +kernel
theorem dX8_paysToll_1 : decode cX8_paysToll 1 = .ok (.iload_n 1, 1) := by decide +kernel
theorem dX8_paysToll_2 : decode cX8_paysToll 2 = .ok (.iload_n 2, 1) := by decide +kernel
theorem dX8_paysToll_3 : decode cX8_paysToll 3 = .ok (.iload_n 3, 1) := by decide +kernel
theorem dX8_paysToll_4 : decode cX8_paysToll 4 = .ok (.invokevirtual 75, 3) := by decide +kernel
theorem dX8_paysToll_7 : decode cX8_paysToll 7 = .ok (.istore 4, 2) := by decide +kernel
theorem dX8_paysToll_9 : decode cX8_paysToll 9 = .ok (.iload 4, 2) := by decide +kernel
theorem dX8_paysToll_11 : decode cX8_paysToll 11 = .ok (.iload_n 3, 1) := by decide +kernel
theorem dX8_paysToll_12 : decode cX8_paysToll 12 = .ok (.if_icmp .ge 13, 3) := by decide +kernel
theorem dX8_paysToll_15 : decode cX8_paysToll 15 = .ok (.aload_n 0, 1) := by decide +kernel
theorem dX8_paysToll_16 : decode cX8_paysToll 16 = .ok (.iload_n 1, 1) := by decide +kernel
theorem dX8_paysToll_17 : decode cX8_paysToll 17 = .ok (.iload_n 2, 1) := by decide +kernel
theorem dX8_paysToll_18 : decode cX8_paysToll 18 = .ok (.iload_n 3, 1) := by decide +kernel
theorem dX8_paysToll_19 : decode cX8_paysToll 19 = .ok (.iload 4, 2) := by decide +kernel
theorem dX8_paysToll_21 : decode cX8_paysToll 21 = .ok (.isub, 1) := by decide +kernel
theorem dX8_paysToll_22 : decode cX8_paysToll 22 = .ok (.invokevirtual 79, 3) := by decide +kernel
theorem dX8_paysToll_25 : decode cX8_paysToll 25 = .ok (.return_, 1) := by decide +kernel
theorem dX8_arrives_0 : decode cX8_arrives 0 = .ok (.aload_n 0, 1) := by decide +kernel
theorem dX8_arrives_1 : decode cX8_arrives 1 = .ok (.iload_n 1, 1) := by decide +kernel
theorem dX8_arrives_2 : decode cX8_arrives 2 = .ok (.iload_n 2, 1) := by decide +kernel
theorem dX8_arrives_3 : decode cX8_arrives 3 = .ok (.invokevirtual 50, 3) := by decide +kernel
theorem dX8_arrives_6 : decode cX8_arrives 6 = .ok (.ifCond .ne 17, 3) := by decide +kernel
theorem dX8_arrives_9 : decode cX8_arrives 9 = .ok (.aload_n 0, 1) := by decide +kernel
theorem dX8_arrives_10 : decode cX8_arrives 10 = .ok (.iload_n 2, 1) := by decide +kernel
theorem dX8_arrives_11 : decode cX8_arrives 11 = .ok (.invokevirtual 86, 3) := by decide +kernel
theorem dX8_arrives_14 : decode cX8_arrives 14 = .ok (.ifCond .eq 9, 3) := by decide +kernel
theorem dX8_arrives_17 : decode cX8_arrives 17 = .ok (.aload_n 0, 1) := by decide +kernel
theorem dX8_arrives_18 : decode cX8_arrives 18 = .ok (.iload_n 1, 1) := by decide +kernel
theorem dX8_arrives_19 : decode cX8_arrives 19 = .ok (.iload_n 2, 1) := by decide +kernel
theorem dX8_arrives_20 : decode cX8_arrives 20 = .ok (.invokevirtual 90, 3) := by decide +kernel
theorem dX8_arrives_23 : decode cX8_arrives 23 = .ok (.aload_n 0, 1) := by decide +kernel
theorem dX8_arrives_24 : decode cX8_arrives 24 = .ok (.iload_n 1, 1) := by decide +kernel
theorem dX8_arrives_25 : decode cX8_arrives 25 = .ok (.iload_n 2, 1) := by decide +kernel
theorem dX8_arrives_26 : decode cX8_arrives 26 = .ok (.invokevirtual 50, 3) := by decide +kernel
theorem dX8_arrives_29 : decode cX8_arrives 29 = .ok (.ifCond .ne 94, 3) := by decide +kernel
theorem dX8_arrives_32 : decode cX8_arrives 32 = .ok (.aload_n 0, 1) := by decide +kernel
theorem dX8_arrives_33 : decode cX8_arrives 33 = .ok (.getfield 7, 3) := by decide +kernel
theorem dX8_arrives_36 : decode cX8_arrives 36 = .ok (.bipush 11, 2) := by decide +kernel
theorem dX8_arrives_38 : decode cX8_arrives 38 = .ok (.iload_n 2, 1) := by decide +kernel
theorem dX8_arrives_39 : decode cX8_arrives 39 = .ok (.iadd, 1) := by decide +kernel
theorem dX8_arrives_40 : decode cX8_arrives 40 = .ok (.iaload, 1) := by decide +kernel
theorem dX8_arrives_41 : decode cX8_arrives 41 = .ok (.bipush (-6), 2) := by decide +kernel
theorem dX8_arrives_43 : decode cX8_arrives 43 = .ok (.if_icmp .eq 80, 3) := by decide +kernel
theorem dX8_arrives_46 : decode cX8_arrives 46 = .ok (.aload_n 0, 1) := by decide +kernel
theorem dX8_arrives_47 : decode cX8_arrives 47 = .ok (.iload_n 2, 1) := by decide +kernel
theorem dX8_arrives_48 : decode cX8_arrives 48 = .ok (.invokevirtual 94, 3) := by decide +kernel
theorem dX8_arrives_51 : decode cX8_arrives 51 = .ok (.istore_n 3, 1) := by decide +kernel
theorem dX8_arrives_52 : decode cX8_arrives 52 = .ok (.aload_n 0, 1) := by decide +kernel
theorem dX8_arrives_53 : decode cX8_arrives 53 = .ok (.getfield 7, 3) := by decide +kernel
theorem dX8_arrives_56 : decode cX8_arrives 56 = .ok (.bipush 31, 2) := by decide +kernel
theorem dX8_arrives_58 : decode cX8_arrives 58 = .ok (.iload_n 2, 1) := by decide +kernel
theorem dX8_arrives_59 : decode cX8_arrives 59 = .ok (.iadd, 1) := by decide +kernel
theorem dX8_arrives_60 : decode cX8_arrives 60 = .ok (.iaload, 1) := by decide +kernel
theorem dX8_arrives_61 : decode cX8_arrives 61 = .ok (.bipush (-6), 2) := by decide +kernel
theorem dX8_arrives_63 : decode cX8_arrives 63 = .ok (.if_icmp .ne 7, 3) := by decide +kernel
theorem dX8_arrives_66 : decode cX8_arrives 66 = .ok (.iconst 0, 1) := by decide +kernel
theorem dX8_arrives_67 : decode cX8_arrives 67 = .ok (.goto 6, 3) := by decide +kernel
theorem dX8_arrives_70 : decode cX8_arrives 70 = .ok (.iload_n 3, 1) := by decide +kernel
theorem dX8_arrives_71 : decode cX8_arrives 71 = .ok (.iconst 2, 1) := by decide +kernel
theorem dX8_arrives_72 : decode cX8_arrives 72 = .ok (.idiv, 1) := by decide +kernel
theorem dX8_arrives_73 : decode cX8_arrives 73 = .ok (.istore 4, 2) := by decide +kernel
theorem dX8_arrives_75 : decode cX8_arrives 75 = .ok (.aload_n 0, 1) := by decide +kernel
theorem dX8_arrives_76 : decode cX8_arrives 76 = .ok (.iload_n 1, 1) := by decide +kernel
theorem dX8_arrives_77 : decode cX8_arrives 77 = .ok (.aload_n 0, 1) := by decide +kernel
theorem dX8_arrives_78 : decode cX8_arrives 78 = .ok (.getfield 7, 3) := by decide +kernel
theorem dX8_arrives_81 : decode cX8_arrives 81 = .ok (.bipush 11, 2) := by decide +kernel
theorem dX8_arrives_83 : decode cX8_arrives 83 = .ok (.iload_n 2, 1) := by decide +kernel
theorem dX8_arrives_84 : decode cX8_arrives 84 = .ok (.iadd, 1) := by decide +kernel
theorem dX8_arrives_85 : decode cX8_arrives 85 = .ok (.iaload, 1) := by decide +kernel
theorem dX8_arrives_86 : decode cX8_arrives 86 = .ok (.iload_n 3, 1) := by decide +kernel
theorem dX8_arrives_87 : decode cX8_arrives 87 = .ok (.iload 4, 2) := by decide +kernel
theorem dX8_arrives_89 : decode cX8_arrives 89 = .ok (.isub, 1) := by decide +kernel
theorem dX8_arrives_90 : decode cX8_arrives 90 = .ok (.invokevirtual 97, 3) := by decide +kernel
theorem dX8_arrives_93 : decode cX8_arrives 93 = .ok (.aload_n 0, 1) := by decide +kernel
theorem dX8_arrives_94 : decode cX8_arrives 94 = .ok (.getfield 7, 3) := by decide +kernel
theorem dX8_arrives_97 : decode cX8_arrives 97 = .ok (.bipush 31, 2) := by decide +kernel
theorem dX8_arrives_99 : decode cX8_arrives 99 = .ok (.iload_n 2, 1) := by decide +kernel
theorem dX8_arrives_100 : decode cX8_arrives 100 = .ok (.iadd, 1) := by decide +kernel
theorem dX8_arrives_101 : decode cX8_arrives 101 = .ok (.iaload, 1) := by decide +kernel
theorem dX8_arrives_102 : decode cX8_arrives 102 = .ok (.bipush (-6), 2) := by decide +kernel
theorem dX8_arrives_104 : decode cX8_arrives 104 = .ok (.if_icmp .eq 19, 3) := by decide +kernel
theorem dX8_arrives_107 : decode cX8_arrives 107 = .ok (.aload_n 0, 1) := by decide +kernel
theorem dX8_arrives_108 : decode cX8_arrives 108 = .ok (.iload_n 1, 1) := by decide +kernel
theorem dX8_arrives_109 : decode cX8_arrives 109 = .ok (.aload_n 0, 1) := by decide +kernel
theorem dX8_arrives_110 : decode cX8_arrives 110 = .ok (.getfield 7, 3) := by decide +kernel
theorem dX8_arrives_113 : decode cX8_arrives 113 = .ok (.bipush 31, 2) := by decide +kernel
theorem dX8_arrives_115 : decode cX8_arrives 115 = .ok (.iload_n 2, 1) := by decide +kernel
theorem dX8_arrives_116 : decode cX8_arrives 116 = .ok (.iadd, 1) := by decide +kernel
theorem dX8_arrives_117 : decode cX8_arrives 117 = .ok (.iaload, 1) := by decide +kernel
theorem dX8_arrives_118 : decode cX8_arrives 118 = .ok (.iload 4, 2) := by decide +kernel
theorem dX8_arrives_120 : decode cX8_arrives 120 = .ok (.invokevirtual 97, 3) := by decide +kernel
theorem dX8_arrives_123 : decode cX8_arrives 123 = .ok (.return_, 1) := by decide +kernel
theorem dX8_hands_0 : decode cX8_hands 0 = .ok (.aload_n 0, 1) := by decide +kernel
theorem dX8_hands_1 : decode cX8_hands 1 = .ok (.getfield 7, 3) := by decide +kernel
theorem dX8_hands_4 : decode cX8_hands 4 = .ok (.bipush 11, 2) := by decide +kernel
theorem dX8_hands_6 : decode cX8_hands 6 = .ok (.iload_n 2, 1) := by decide +kernel
theorem dX8_hands_7 : decode cX8_hands 7 = .ok (.iadd, 1) := by decide +kernel
theorem dX8_hands_8 : decode cX8_hands 8 = .ok (.iaload, 1) := by decide +kernel
theorem dX8_hands_9 : decode cX8_hands 9 = .ok (.iload_n 1, 1) := by decide +kernel
theorem dX8_hands_10 : decode cX8_hands 10 = .ok (.if_icmp .ne 52, 3) := by decide +kernel
theorem dX8_hands_13 : decode cX8_hands 13 = .ok (.aload_n 0, 1) := by decide +kernel
theorem dX8_hands_14 : decode cX8_hands 14 = .ok (.getfield 7, 3) := by decide +kernel
theorem dX8_hands_17 : decode cX8_hands 17 = .ok (.bipush 11, 2) := by decide +kernel
theorem dX8_hands_19 : decode cX8_hands 19 = .ok (.iload_n 2, 1) := by decide +kernel
theorem dX8_hands_20 : decode cX8_hands 20 = .ok (.iadd, 1) := by decide +kernel
theorem dX8_hands_21 : decode cX8_hands 21 = .ok (.iload_n 3, 1) := by decide +kernel
theorem dX8_hands_22 : decode cX8_hands 22 = .ok (.iastore, 1) := by decide +kernel
theorem dX8_hands_23 : decode cX8_hands 23 = .ok (.aload_n 0, 1) := by decide +kernel
theorem dX8_hands_24 : decode cX8_hands 24 = .ok (.getfield 7, 3) := by decide +kernel
theorem dX8_hands_27 : decode cX8_hands 27 = .ok (.bipush 31, 2) := by decide +kernel
theorem dX8_hands_29 : decode cX8_hands 29 = .ok (.iload_n 2, 1) := by decide +kernel
theorem dX8_hands_30 : decode cX8_hands 30 = .ok (.iadd, 1) := by decide +kernel
theorem dX8_hands_31 : decode cX8_hands 31 = .ok (.aload_n 0, 1) := by decide +kernel
theorem dX8_hands_32 : decode cX8_hands 32 = .ok (.getfield 7, 3) := by decide +kernel
theorem dX8_hands_35 : decode cX8_hands 35 = .ok (.bipush 31, 2) := by decide +kernel
theorem dX8_hands_37 : decode cX8_hands 37 = .ok (.iload_n 2, 1) := by decide +kernel
theorem dX8_hands_38 : decode cX8_hands 38 = .ok (.iadd, 1) := by decide +kernel
theorem dX8_hands_39 : decode cX8_hands 39 = .ok (.iaload, 1) := by decide +kernel
theorem dX8_hands_40 : decode cX8_hands 40 = .ok (.iload_n 3, 1) := by decide +kernel
theorem dX8_hands_41 : decode cX8_hands 41 = .ok (.if_icmp .ne 8, 3) := by decide +kernel
theorem dX8_hands_44 : decode cX8_hands 44 = .ok (.bipush (-6), 2) := by decide +kernel
theorem dX8_hands_46 : decode cX8_hands 46 = .ok (.goto 12, 3) := by decide +kernel
theorem dX8_hands_49 : decode cX8_hands 49 = .ok (.aload_n 0, 1) := by decide +kernel
theorem dX8_hands_50 : decode cX8_hands 50 = .ok (.getfield 7, 3) := by decide +kernel
theorem dX8_hands_53 : decode cX8_hands 53 = .ok (.bipush 31, 2) := by decide +kernel
theorem dX8_hands_55 : decode cX8_hands 55 = .ok (.iload_n 2, 1) := by decide +kernel
theorem dX8_hands_56 : decode cX8_hands 56 = .ok (.iadd, 1) := by decide +kernel
theorem dX8_hands_57 : decode cX8_hands 57 = .ok (.iaload, 1) := by decide +kernel
theorem dX8_hands_58 : decode cX8_hands 58 = .ok (.iastore, 1) := by decide +kernel
theorem dX8_hands_59 : decode cX8_hands 59 = .ok (.goto 31, 3) := by decide +kernel
theorem dX8_hands_62 : decode cX8_hands 62 = .ok (.aload_n 0, 1) := by decide +kernel
theorem dX8_hands_63 : decode cX8_hands 63 = .ok (.getfield 7, 3) := by decide +kernel
theorem dX8_hands_66 : decode cX8_hands 66 = .ok (.bipush 31, 2) := by decide +kernel
theorem dX8_hands_68 : decode cX8_hands 68 = .ok (.iload_n 2, 1) := by decide +kernel
theorem dX8_hands_69 : decode cX8_hands 69 = .ok (.iadd, 1) := by decide +kernel
theorem dX8_hands_70 : decode cX8_hands 70 = .ok (.aload_n 0, 1) := by decide +kernel
theorem dX8_hands_71 : decode cX8_hands 71 = .ok (.getfield 7, 3) := by decide +kernel
theorem dX8_hands_74 : decode cX8_hands 74 = .ok (.bipush 11, 2) := by decide +kernel
theorem dX8_hands_76 : decode cX8_hands 76 = .ok (.iload_n 2, 1) := by decide +kernel
theorem dX8_hands_77 : decode cX8_hands 77 = .ok (.iadd, 1) := by decide +kernel
theorem dX8_hands_78 : decode cX8_hands 78 = .ok (.iaload, 1) := by decide +kernel
theorem dX8_hands_79 : decode cX8_hands 79 = .ok (.iload_n 3, 1) := by decide +kernel
theorem dX8_hands_80 : decode cX8_hands 80 = .ok (.if_icmp .ne 8, 3) := by decide +kernel
theorem dX8_hands_83 : decode cX8_hands 83 = .ok (.bipush (-6), 2) := by decide +kernel
theorem dX8_hands_85 : decode cX8_hands 85 = .ok (.goto 4, 3) := by decide +kernel
theorem dX8_hands_88 : decode cX8_hands 88 = .ok (.iload_n 3, 1) := by decide +kernel
theorem dX8_hands_89 : decode cX8_hands 89 = .ok (.iastore, 1) := by decide +kernel
theorem dX8_hands_90 : decode cX8_hands 90 = .ok (.return_, 1) := by decide +kernel
theorem dX8_growsOlder_0 : decode cX8_growsOlder 0 = .ok (.iconst 0, 1) := by decide +kernel
theorem dX8_growsOlder_1 : decode cX8_growsOlder 1 = .ok (.istore_n 2, 1) := by decide +kernel
theorem dX8_growsOlder_2 : decode cX8_growsOlder 2 = .ok (.iload_n 2, 1) := by decide +kernel
theorem dX8_growsOlder_3 : decode cX8_growsOlder 3 = .ok (.aload_n 0, 1) := by decide +kernel
theorem dX8_growsOlder_4 : decode cX8_growsOlder 4 = .ok (.getfield 7, 3) := by decide +kernel
theorem dX8_growsOlder_7 : decode cX8_growsOlder 7 = .ok (.bipush 6, 2) := by decide +kernel
theorem dX8_growsOlder_9 : decode cX8_growsOlder 9 = .ok (.iaload, 1) := by decide +kernel
theorem dX8_growsOlder_10 : decode cX8_growsOlder 10 = .ok (.if_icmp .ge 39, 3) := by decide +kernel
theorem dX8_growsOlder_13 : decode cX8_growsOlder 13 = .ok (.aload_n 0, 1) := by decide +kernel
theorem dX8_growsOlder_14 : decode cX8_growsOlder 14 = .ok (.getfield 7, 3) := by decide +kernel
theorem dX8_growsOlder_17 : decode cX8_growsOlder 17 = .ok (.bipush 91, 2) := by decide +kernel
theorem dX8_growsOlder_19 : decode cX8_growsOlder 19 = .ok (.iconst 4, 1) := by decide +kernel
theorem dX8_growsOlder_20 : decode cX8_growsOlder 20 = .ok (.iload_n 1, 1) := by decide +kernel
theorem dX8_growsOlder_21 : decode cX8_growsOlder 21 = .ok (.imul, 1) := by decide +kernel
end
section
theorem dX8_growsOlder_22 : decode cX8_growsOlder 22 = .ok (.iadd, 1) := by decide +kernel
theorem dX8_growsOlder_23 : decode cX8_growsOlder 23 = .ok (.iload_n 2, 1) := by decide +kernel
theorem dX8_growsOlder_24 : decode cX8_growsOlder 24 = .ok (.iadd, 1) := by decide +kernel
theorem dX8_growsOlder_25 : decode cX8_growsOlder 25 = .ok (.dup2, 1) := by decide +kernel
theorem dX8_growsOlder_26 : decode cX8_growsOlder 26 = .ok (.iaload, 1) := by decide +kernel
theorem dX8_growsOlder_27 : decode cX8_growsOlder 27 = .ok (.aload_n 0, 1) := by decide +kernel
theorem dX8_growsOlder_28 : decode cX8_growsOlder 28 = .ok (.iload_n 1, 1) := by decide +kernel
theorem dX8_growsOlder_29 : decode cX8_growsOlder 29 = .ok (.iload_n 2, 1) := by decide +kernel
theorem dX8_growsOlder_30 : decode cX8_growsOlder 30 = .ok (.invokevirtual 46, 3) := by decide +kernel
theorem dX8_growsOlder_33 : decode cX8_growsOlder 33 = .ok (.ifCond .le 7, 3) := by decide +kernel
theorem dX8_growsOlder_36 : decode cX8_growsOlder 36 = .ok (.iconst 1, 1) := by decide +kernel
theorem dX8_growsOlder_37 : decode cX8_growsOlder 37 = .ok (.goto 4, 3) := by decide +kernel
theorem dX8_growsOlder_40 : decode cX8_growsOlder 40 = .ok (.iconst 0, 1) := by decide +kernel
theorem dX8_growsOlder_41 : decode cX8_growsOlder 41 = .ok (.iadd, 1) := by decide +kernel
theorem dX8_growsOlder_42 : decode cX8_growsOlder 42 = .ok (.iastore, 1) := by decide +kernel
theorem dX8_growsOlder_43 : decode cX8_growsOlder 43 = .ok (.iinc 2 1, 3) := by decide +kernel
theorem dX8_growsOlder_46 : decode cX8_growsOlder 46 = .ok (.goto (-44), 3) := by decide +kernel
theorem dX8_growsOlder_49 : decode cX8_growsOlder 49 = .ok (.iconst 0, 1) := by decide +kernel
theorem dX8_growsOlder_50 : decode cX8_growsOlder 50 = .ok (.istore_n 2, 1) := by decide +kernel
theorem dX8_growsOlder_51 : decode cX8_growsOlder 51 = .ok (.aload_n 0, 1) := by decide +kernel
theorem dX8_growsOlder_52 : decode cX8_growsOlder 52 = .ok (.iload_n 1, 1) := by decide +kernel
theorem dX8_growsOlder_53 : decode cX8_growsOlder 53 = .ok (.iload_n 2, 1) := by decide +kernel
theorem dX8_growsOlder_54 : decode cX8_growsOlder 54 = .ok (.invokevirtual 72, 3) := by decide +kernel
theorem dX8_growsOlder_57 : decode cX8_growsOlder 57 = .ok (.istore_n 3, 1) := by decide +kernel
theorem dX8_growsOlder_58 : decode cX8_growsOlder 58 = .ok (.iload_n 3, 1) := by decide +kernel
theorem dX8_growsOlder_59 : decode cX8_growsOlder 59 = .ok (.bipush (-6), 2) := by decide +kernel
theorem dX8_growsOlder_61 : decode cX8_growsOlder 61 = .ok (.if_icmp .eq 76, 3) := by decide +kernel
theorem dX8_growsOlder_64 : decode cX8_growsOlder 64 = .ok (.iload_n 2, 1) := by decide +kernel
theorem dX8_growsOlder_65 : decode cX8_growsOlder 65 = .ok (.iconst 1, 1) := by decide +kernel
theorem dX8_growsOlder_66 : decode cX8_growsOlder 66 = .ok (.iload_n 3, 1) := by decide +kernel
theorem dX8_growsOlder_67 : decode cX8_growsOlder 67 = .ok (.ishl, 1) := by decide +kernel
theorem dX8_growsOlder_68 : decode cX8_growsOlder 68 = .ok (.ior, 1) := by decide +kernel
theorem dX8_growsOlder_69 : decode cX8_growsOlder 69 = .ok (.istore_n 2, 1) := by decide +kernel
theorem dX8_growsOlder_70 : decode cX8_growsOlder 70 = .ok (.aload_n 0, 1) := by decide +kernel
theorem dX8_growsOlder_71 : decode cX8_growsOlder 71 = .ok (.iload_n 1, 1) := by decide +kernel
theorem dX8_growsOlder_72 : decode cX8_growsOlder 72 = .ok (.invokevirtual 100, 3) := by decide +kernel
theorem dX8_growsOlder_75 : decode cX8_growsOlder 75 = .ok (.istore 4, 2) := by decide +kernel
theorem dX8_growsOlder_77 : decode cX8_growsOlder 77 = .ok (.aload_n 0, 1) := by decide +kernel
theorem dX8_growsOlder_78 : decode cX8_growsOlder 78 = .ok (.iload_n 1, 1) := by decide +kernel
theorem dX8_growsOlder_79 : decode cX8_growsOlder 79 = .ok (.iload_n 3, 1) := by decide +kernel
theorem dX8_growsOlder_80 : decode cX8_growsOlder 80 = .ok (.invokevirtual 65, 3) := by decide +kernel
theorem dX8_growsOlder_83 : decode cX8_growsOlder 83 = .ok (.aload_n 0, 1) := by decide +kernel
theorem dX8_growsOlder_84 : decode cX8_growsOlder 84 = .ok (.getfield 7, 3) := by decide +kernel
theorem dX8_growsOlder_87 : decode cX8_growsOlder 87 = .ok (.iconst 4, 1) := by decide +kernel
theorem dX8_growsOlder_88 : decode cX8_growsOlder 88 = .ok (.iaload, 1) := by decide +kernel
theorem dX8_growsOlder_89 : decode cX8_growsOlder 89 = .ok (.if_icmp .le 38, 3) := by decide +kernel
theorem dX8_growsOlder_92 : decode cX8_growsOlder 92 = .ok (.iload 4, 2) := by decide +kernel
theorem dX8_growsOlder_94 : decode cX8_growsOlder 94 = .ok (.bipush (-6), 2) := by decide +kernel
theorem dX8_growsOlder_96 : decode cX8_growsOlder 96 = .ok (.if_icmp .eq 31, 3) := by decide +kernel
theorem dX8_growsOlder_99 : decode cX8_growsOlder 99 = .ok (.aload_n 0, 1) := by decide +kernel
theorem dX8_growsOlder_100 : decode cX8_growsOlder 100 = .ok (.iload_n 1, 1) := by decide +kernel
theorem dX8_growsOlder_101 : decode cX8_growsOlder 101 = .ok (.iload 4, 2) := by decide +kernel
theorem dX8_growsOlder_103 : decode cX8_growsOlder 103 = .ok (.iload_n 3, 1) := by decide +kernel
theorem dX8_growsOlder_104 : decode cX8_growsOlder 104 = .ok (.invokevirtual 103, 3) := by decide +kernel
theorem dX8_growsOlder_107 : decode cX8_growsOlder 107 = .ok (.aload_n 0, 1) := by decide +kernel
theorem dX8_growsOlder_108 : decode cX8_growsOlder 108 = .ok (.iload_n 1, 1) := by decide +kernel
theorem dX8_growsOlder_109 : decode cX8_growsOlder 109 = .ok (.iload_n 3, 1) := by decide +kernel
theorem dX8_growsOlder_110 : decode cX8_growsOlder 110 = .ok (.aload_n 0, 1) := by decide +kernel
theorem dX8_growsOlder_111 : decode cX8_growsOlder 111 = .ok (.iload_n 1, 1) := by decide +kernel
theorem dX8_growsOlder_112 : decode cX8_growsOlder 112 = .ok (.iload_n 3, 1) := by decide +kernel
theorem dX8_growsOlder_113 : decode cX8_growsOlder 113 = .ok (.invokevirtual 46, 3) := by decide +kernel
theorem dX8_growsOlder_116 : decode cX8_growsOlder 116 = .ok (.ineg, 1) := by decide +kernel
theorem dX8_growsOlder_117 : decode cX8_growsOlder 117 = .ok (.invokevirtual 79, 3) := by decide +kernel
theorem dX8_growsOlder_120 : decode cX8_growsOlder 120 = .ok (.aload_n 0, 1) := by decide +kernel
theorem dX8_growsOlder_121 : decode cX8_growsOlder 121 = .ok (.iload_n 1, 1) := by decide +kernel
theorem dX8_growsOlder_122 : decode cX8_growsOlder 122 = .ok (.iconst 5, 1) := by decide +kernel
theorem dX8_growsOlder_123 : decode cX8_growsOlder 123 = .ok (.iconst 1, 1) := by decide +kernel
theorem dX8_growsOlder_124 : decode cX8_growsOlder 124 = .ok (.invokevirtual 68, 3) := by decide +kernel
theorem dX8_growsOlder_127 : decode cX8_growsOlder 127 = .ok (.aload_n 0, 1) := by decide +kernel
theorem dX8_growsOlder_128 : decode cX8_growsOlder 128 = .ok (.iload_n 1, 1) := by decide +kernel
theorem dX8_growsOlder_129 : decode cX8_growsOlder 129 = .ok (.iload_n 2, 1) := by decide +kernel
theorem dX8_growsOlder_130 : decode cX8_growsOlder 130 = .ok (.invokevirtual 72, 3) := by decide +kernel
theorem dX8_growsOlder_133 : decode cX8_growsOlder 133 = .ok (.istore_n 3, 1) := by decide +kernel
theorem dX8_growsOlder_134 : decode cX8_growsOlder 134 = .ok (.goto (-76), 3) := by decide +kernel
theorem dX8_growsOlder_137 : decode cX8_growsOlder 137 = .ok (.return_, 1) := by decide +kernel
theorem dX8_turn_0 : decode cX8_turn 0 = .ok (.aload_n 0, 1) := by decide +kernel
theorem dX8_turn_1 : decode cX8_turn 1 = .ok (.getfield 7, 3) := by decide +kernel
theorem dX8_turn_4 : decode cX8_turn 4 = .ok (.bipush 7, 2) := by decide +kernel
theorem dX8_turn_6 : decode cX8_turn 6 = .ok (.iaload, 1) := by decide +kernel
theorem dX8_turn_7 : decode cX8_turn 7 = .ok (.istore_n 1, 1) := by decide +kernel
theorem dX8_turn_8 : decode cX8_turn 8 = .ok (.aload_n 0, 1) := by decide +kernel
theorem dX8_turn_9 : decode cX8_turn 9 = .ok (.iload_n 1, 1) := by decide +kernel
theorem dX8_turn_10 : decode cX8_turn 10 = .ok (.invokevirtual 106, 3) := by decide +kernel
theorem dX8_turn_13 : decode cX8_turn 13 = .ok (.aload_n 0, 1) := by decide +kernel
theorem dX8_turn_14 : decode cX8_turn 14 = .ok (.iload_n 1, 1) := by decide +kernel
theorem dX8_turn_15 : decode cX8_turn 15 = .ok (.invokevirtual 110, 3) := by decide +kernel
theorem dX8_turn_18 : decode cX8_turn 18 = .ok (.aload_n 0, 1) := by decide +kernel
theorem dX8_turn_19 : decode cX8_turn 19 = .ok (.iload_n 1, 1) := by decide +kernel
theorem dX8_turn_20 : decode cX8_turn 20 = .ok (.aload_n 0, 1) := by decide +kernel
theorem dX8_turn_21 : decode cX8_turn 21 = .ok (.iload_n 1, 1) := by decide +kernel
theorem dX8_turn_22 : decode cX8_turn 22 = .ok (.iconst 1, 1) := by decide +kernel
theorem dX8_turn_23 : decode cX8_turn 23 = .ok (.invokevirtual 54, 3) := by decide +kernel
theorem dX8_turn_26 : decode cX8_turn 26 = .ok (.invokevirtual 113, 3) := by decide +kernel
theorem dX8_turn_29 : decode cX8_turn 29 = .ok (.aload_n 0, 1) := by decide +kernel
theorem dX8_turn_30 : decode cX8_turn 30 = .ok (.iload_n 1, 1) := by decide +kernel
theorem dX8_turn_31 : decode cX8_turn 31 = .ok (.invokevirtual 116, 3) := by decide +kernel
theorem dX8_turn_34 : decode cX8_turn 34 = .ok (.aload_n 0, 1) := by decide +kernel
theorem dX8_turn_35 : decode cX8_turn 35 = .ok (.iload_n 1, 1) := by decide +kernel
theorem dX8_turn_36 : decode cX8_turn 36 = .ok (.iconst 4, 1) := by decide +kernel
theorem dX8_turn_37 : decode cX8_turn 37 = .ok (.iconst 1, 1) := by decide +kernel
theorem dX8_turn_38 : decode cX8_turn 38 = .ok (.invokevirtual 68, 3) := by decide +kernel
theorem dX8_turn_41 : decode cX8_turn 41 = .ok (.aload_n 0, 1) := by decide +kernel
theorem dX8_turn_42 : decode cX8_turn 42 = .ok (.getfield 7, 3) := by decide +kernel
theorem dX8_turn_45 : decode cX8_turn 45 = .ok (.bipush 7, 2) := by decide +kernel
theorem dX8_turn_47 : decode cX8_turn 47 = .ok (.iload_n 1, 1) := by decide +kernel
theorem dX8_turn_48 : decode cX8_turn 48 = .ok (.iconst 1, 1) := by decide +kernel
theorem dX8_turn_49 : decode cX8_turn 49 = .ok (.iadd, 1) := by decide +kernel
theorem dX8_turn_50 : decode cX8_turn 50 = .ok (.aload_n 0, 1) := by decide +kernel
theorem dX8_turn_51 : decode cX8_turn 51 = .ok (.getfield 7, 3) := by decide +kernel
theorem dX8_turn_54 : decode cX8_turn 54 = .ok (.bipush 6, 2) := by decide +kernel
theorem dX8_turn_56 : decode cX8_turn 56 = .ok (.iaload, 1) := by decide +kernel
theorem dX8_turn_57 : decode cX8_turn 57 = .ok (.irem, 1) := by decide +kernel
theorem dX8_turn_58 : decode cX8_turn 58 = .ok (.iastore, 1) := by decide +kernel
theorem dX8_turn_59 : decode cX8_turn 59 = .ok (.aload_n 0, 1) := by decide +kernel
theorem dX8_turn_60 : decode cX8_turn 60 = .ok (.getfield 7, 3) := by decide +kernel
theorem dX8_turn_63 : decode cX8_turn 63 = .ok (.iconst 5, 1) := by decide +kernel
theorem dX8_turn_64 : decode cX8_turn 64 = .ok (.dup2, 1) := by decide +kernel
theorem dX8_turn_65 : decode cX8_turn 65 = .ok (.iaload, 1) := by decide +kernel
theorem dX8_turn_66 : decode cX8_turn 66 = .ok (.iconst 1, 1) := by decide +kernel
theorem dX8_turn_67 : decode cX8_turn 67 = .ok (.iadd, 1) := by decide +kernel
theorem dX8_turn_68 : decode cX8_turn 68 = .ok (.iastore, 1) := by decide +kernel
theorem dX8_turn_69 : decode cX8_turn 69 = .ok (.return_, 1) := by decide +kernel
theorem dX8_doTurns_0 : decode cX8_doTurns 0 = .ok (.aload_n 0, 1) := by decide +kernel
theorem dX8_doTurns_1 : decode cX8_doTurns 1 = .ok (.iconst 2, 1) := by decide +kernel
theorem dX8_doTurns_2 : decode cX8_doTurns 2 = .ok (.invokevirtual 119, 3) := by decide +kernel
theorem dX8_doTurns_5 : decode cX8_doTurns 5 = .ok (.istore_n 2, 1) := by decide +kernel
theorem dX8_doTurns_6 : decode cX8_doTurns 6 = .ok (.iconst 0, 1) := by decide +kernel
theorem dX8_doTurns_7 : decode cX8_doTurns 7 = .ok (.istore_n 3, 1) := by decide +kernel
theorem dX8_doTurns_8 : decode cX8_doTurns 8 = .ok (.iload_n 3, 1) := by decide +kernel
theorem dX8_doTurns_9 : decode cX8_doTurns 9 = .ok (.iload_n 1, 1) := by decide +kernel
theorem dX8_doTurns_10 : decode cX8_doTurns 10 = .ok (.if_icmp .ge 13, 3) := by decide +kernel
theorem dX8_doTurns_13 : decode cX8_doTurns 13 = .ok (.aload_n 0, 1) := by decide +kernel
theorem dX8_doTurns_14 : decode cX8_doTurns 14 = .ok (.invokevirtual 122, 3) := by decide +kernel
theorem dX8_doTurns_17 : decode cX8_doTurns 17 = .ok (.iinc 3 1, 3) := by decide +kernel
theorem dX8_doTurns_20 : decode cX8_doTurns 20 = .ok (.goto (-12), 3) := by decide +kernel
theorem dX8_doTurns_23 : decode cX8_doTurns 23 = .ok (.aload_n 0, 1) := by decide +kernel
theorem dX8_doTurns_24 : decode cX8_doTurns 24 = .ok (.iconst 2, 1) := by decide +kernel
theorem dX8_doTurns_25 : decode cX8_doTurns 25 = .ok (.invokevirtual 119, 3) := by decide +kernel
theorem dX8_doTurns_28 : decode cX8_doTurns 28 = .ok (.iload_n 2, 1) := by decide +kernel
theorem dX8_doTurns_29 : decode cX8_doTurns 29 = .ok (.isub, 1) := by decide +kernel
theorem dX8_doTurns_30 : decode cX8_doTurns 30 = .ok (.ireturn, 1) := by decide +kernel
theorem dX8_isValue_0 : decode cX8_isValue 0 = .ok (.iload_n 0, 1) := by decide +kernel
theorem dX8_isValue_1 : decode cX8_isValue 1 = .ok (.tableswitch 67 0 4 #[35, 43, 43, 51, 59], 35) := by decide +kernel
theorem dX8_isValue_36 : decode cX8_isValue 36 = .ok (.iload_n 1, 1) := by decide +kernel
theorem dX8_isValue_37 : decode cX8_isValue 37 = .ok (.iconst 0, 1) := by decide +kernel
theorem dX8_isValue_38 : decode cX8_isValue 38 = .ok (.bipush 99, 2) := by decide +kernel
theorem dX8_isValue_40 : decode cX8_isValue 40 = .ok (.invokestatic 42, 3) := by decide +kernel
theorem dX8_isValue_43 : decode cX8_isValue 43 = .ok (.ireturn, 1) := by decide +kernel
theorem dX8_isValue_44 : decode cX8_isValue 44 = .ok (.iload_n 1, 1) := by decide +kernel
theorem dX8_isValue_45 : decode cX8_isValue 45 = .ok (.iconst 1, 1) := by decide +kernel
theorem dX8_isValue_46 : decode cX8_isValue 46 = .ok (.bipush 99, 2) := by decide +kernel
theorem dX8_isValue_48 : decode cX8_isValue 48 = .ok (.invokestatic 42, 3) := by decide +kernel
theorem dX8_isValue_51 : decode cX8_isValue 51 = .ok (.ireturn, 1) := by decide +kernel
theorem dX8_isValue_52 : decode cX8_isValue 52 = .ok (.iload_n 1, 1) := by decide +kernel
theorem dX8_isValue_53 : decode cX8_isValue 53 = .ok (.iconst 1, 1) := by decide +kernel
theorem dX8_isValue_54 : decode cX8_isValue 54 = .ok (.bipush 7, 2) := by decide +kernel
theorem dX8_isValue_56 : decode cX8_isValue 56 = .ok (.invokestatic 42, 3) := by decide +kernel
theorem dX8_isValue_59 : decode cX8_isValue 59 = .ok (.ireturn, 1) := by decide +kernel
theorem dX8_isValue_60 : decode cX8_isValue 60 = .ok (.iload_n 1, 1) := by decide +kernel
theorem dX8_isValue_61 : decode cX8_isValue 61 = .ok (.iconst 1, 1) := by decide +kernel
theorem dX8_isValue_62 : decode cX8_isValue 62 = .ok (.bipush 20, 2) := by decide +kernel
theorem dX8_isValue_64 : decode cX8_isValue 64 = .ok (.invokestatic 42, 3) := by decide +kernel
theorem dX8_isValue_67 : decode cX8_isValue 67 = .ok (.ireturn, 1) := by decide +kernel
theorem dX8_isValue_68 : decode cX8_isValue 68 = .ok (.iconst 0, 1) := by decide +kernel
theorem dX8_isValue_69 : decode cX8_isValue 69 = .ok (.ireturn, 1) := by decide +kernel
theorem dX8_set_0 : decode cX8_set 0 = .ok (.iload_n 1, 1) := by decide +kernel
theorem dX8_set_1 : decode cX8_set 1 = .ok (.iload_n 2, 1) := by decide +kernel
theorem dX8_set_2 : decode cX8_set 2 = .ok (.invokestatic 125, 3) := by decide +kernel
theorem dX8_set_5 : decode cX8_set 5 = .ok (.ifCond .ne 6, 3) := by decide +kernel
theorem dX8_set_8 : decode cX8_set 8 = .ok (.bipush (-2), 2) := by decide +kernel
theorem dX8_set_10 : decode cX8_set 10 = .ok (.ireturn, 1) := by decide +kernel
theorem dX8_set_11 : decode cX8_set 11 = .ok (.aload_n 0, 1) := by decide +kernel
theorem dX8_set_12 : decode cX8_set 12 = .ok (.invokevirtual 128, 3) := by decide +kernel
theorem dX8_set_15 : decode cX8_set 15 = .ok (.aload_n 0, 1) := by decide +kernel
theorem dX8_set_16 : decode cX8_set 16 = .ok (.getfield 7, 3) := by decide +kernel
theorem dX8_set_19 : decode cX8_set 19 = .ok (.iload_n 1, 1) := by decide +kernel
theorem dX8_set_20 : decode cX8_set 20 = .ok (.iaload, 1) := by decide +kernel
theorem dX8_set_21 : decode cX8_set 21 = .ok (.istore_n 3, 1) := by decide +kernel
theorem dX8_set_22 : decode cX8_set 22 = .ok (.aload_n 0, 1) := by decide +kernel
theorem dX8_set_23 : decode cX8_set 23 = .ok (.getfield 7, 3) := by decide +kernel
theorem dX8_set_26 : decode cX8_set 26 = .ok (.iload_n 1, 1) := by decide +kernel
theorem dX8_set_27 : decode cX8_set 27 = .ok (.iload_n 2, 1) := by decide +kernel
theorem dX8_set_28 : decode cX8_set 28 = .ok (.iastore, 1) := by decide +kernel
theorem dX8_set_29 : decode cX8_set 29 = .ok (.iload_n 3, 1) := by decide +kernel
theorem dX8_set_30 : decode cX8_set 30 = .ok (.ireturn, 1) := by decide +kernel
theorem dX8_whyNoPlayer_0 : decode cX8_whyNoPlayer 0 = .ok (.iload_n 1, 1) := by decide +kernel
theorem dX8_whyNoPlayer_1 : decode cX8_whyNoPlayer 1 = .ok (.iconst 0, 1) := by decide +kernel
theorem dX8_whyNoPlayer_2 : decode cX8_whyNoPlayer 2 = .ok (.sipush 9999, 3) := by decide +kernel
theorem dX8_whyNoPlayer_5 : decode cX8_whyNoPlayer 5 = .ok (.invokestatic 42, 3) := by decide +kernel
theorem dX8_whyNoPlayer_8 : decode cX8_whyNoPlayer 8 = .ok (.ifCond .ne 8, 3) := by decide +kernel
theorem dX8_whyNoPlayer_11 : decode cX8_whyNoPlayer 11 = .ok (.bipush (-2), 2) := by decide +kernel
theorem dX8_whyNoPlayer_13 : decode cX8_whyNoPlayer 13 = .ok (.goto 20, 3) := by decide +kernel
theorem dX8_whyNoPlayer_16 : decode cX8_whyNoPlayer 16 = .ok (.aload_n 0, 1) := by decide +kernel
theorem dX8_whyNoPlayer_17 : decode cX8_whyNoPlayer 17 = .ok (.getfield 7, 3) := by decide +kernel
theorem dX8_whyNoPlayer_20 : decode cX8_whyNoPlayer 20 = .ok (.bipush 6, 2) := by decide +kernel
theorem dX8_whyNoPlayer_22 : decode cX8_whyNoPlayer 22 = .ok (.iaload, 1) := by decide +kernel
theorem dX8_whyNoPlayer_23 : decode cX8_whyNoPlayer 23 = .ok (.iconst 4, 1) := by decide +kernel
theorem dX8_whyNoPlayer_24 : decode cX8_whyNoPlayer 24 = .ok (.if_icmp .ne 8, 3) := by decide +kernel
theorem dX8_whyNoPlayer_27 : decode cX8_whyNoPlayer 27 = .ok (.bipush (-4), 2) := by decide +kernel
theorem dX8_whyNoPlayer_29 : decode cX8_whyNoPlayer 29 = .ok (.goto 4, 3) := by decide +kernel
theorem dX8_whyNoPlayer_32 : decode cX8_whyNoPlayer 32 = .ok (.iconst 0, 1) := by decide +kernel
theorem dX8_whyNoPlayer_33 : decode cX8_whyNoPlayer 33 = .ok (.ireturn, 1) := by decide +kernel
theorem dX8_comes_0 : decode cX8_comes 0 = .ok (.aload_n 0, 1) := by decide +kernel
theorem dX8_comes_1 : decode cX8_comes 1 = .ok (.getfield 7, 3) := by decide +kernel
theorem dX8_comes_4 : decode cX8_comes 4 = .ok (.bipush 6, 2) := by decide +kernel
theorem dX8_comes_6 : decode cX8_comes 6 = .ok (.iaload, 1) := by decide +kernel
theorem dX8_comes_7 : decode cX8_comes 7 = .ok (.istore_n 2, 1) := by decide +kernel
theorem dX8_comes_8 : decode cX8_comes 8 = .ok (.iconst 0, 1) := by decide +kernel
theorem dX8_comes_9 : decode cX8_comes 9 = .ok (.istore_n 3, 1) := by decide +kernel
theorem dX8_comes_10 : decode cX8_comes 10 = .ok (.iload_n 3, 1) := by decide +kernel
theorem dX8_comes_11 : decode cX8_comes 11 = .ok (.bipush 6, 2) := by decide +kernel
theorem dX8_comes_13 : decode cX8_comes 13 = .ok (.if_icmp .ge 32, 3) := by decide +kernel
theorem dX8_comes_16 : decode cX8_comes 16 = .ok (.aload_n 0, 1) := by decide +kernel
theorem dX8_comes_17 : decode cX8_comes 17 = .ok (.getfield 7, 3) := by decide +kernel
theorem dX8_comes_20 : decode cX8_comes 20 = .ok (.bipush 51, 2) := by decide +kernel
theorem dX8_comes_22 : decode cX8_comes 22 = .ok (.bipush 6, 2) := by decide +kernel
theorem dX8_comes_24 : decode cX8_comes 24 = .ok (.iload_n 2, 1) := by decide +kernel
theorem dX8_comes_25 : decode cX8_comes 25 = .ok (.imul, 1) := by decide +kernel
theorem dX8_comes_26 : decode cX8_comes 26 = .ok (.iadd, 1) := by decide +kernel
theorem dX8_comes_27 : decode cX8_comes 27 = .ok (.iload_n 3, 1) := by decide +kernel
theorem dX8_comes_28 : decode cX8_comes 28 = .ok (.iadd, 1) := by decide +kernel
theorem dX8_comes_29 : decode cX8_comes 29 = .ok (.iload_n 3, 1) := by decide +kernel
theorem dX8_comes_30 : decode cX8_comes 30 = .ok (.ifCond .ne 7, 3) := by decide +kernel
theorem dX8_comes_33 : decode cX8_comes 33 = .ok (.iload_n 1, 1) := by decide +kernel
theorem dX8_comes_34 : decode cX8_comes 34 = .ok (.goto 4, 3) := by decide +kernel
theorem dX8_comes_37 : decode cX8_comes 37 = .ok (.iconst 0, 1) := by decide +kernel
theorem dX8_comes_38 : decode cX8_comes 38 = .ok (.iastore, 1) := by decide +kernel
theorem dX8_comes_39 : decode cX8_comes 39 = .ok (.iinc 3 1, 3) := by decide +kernel
theorem dX8_comes_42 : decode cX8_comes 42 = .ok (.goto (-32), 3) := by decide +kernel
theorem dX8_comes_45 : decode cX8_comes 45 = .ok (.aload_n 0, 1) := by decide +kernel
theorem dX8_comes_46 : decode cX8_comes 46 = .ok (.getfield 7, 3) := by decide +kernel
theorem dX8_comes_49 : decode cX8_comes 49 = .ok (.bipush 6, 2) := by decide +kernel
theorem dX8_comes_51 : decode cX8_comes 51 = .ok (.dup2, 1) := by decide +kernel
theorem dX8_comes_52 : decode cX8_comes 52 = .ok (.iaload, 1) := by decide +kernel
theorem dX8_comes_53 : decode cX8_comes 53 = .ok (.iconst 1, 1) := by decide +kernel
theorem dX8_comes_54 : decode cX8_comes 54 = .ok (.iadd, 1) := by decide +kernel
theorem dX8_comes_55 : decode cX8_comes 55 = .ok (.iastore, 1) := by decide +kernel
theorem dX8_comes_56 : decode cX8_comes 56 = .ok (.iload_n 2, 1) := by decide +kernel
theorem dX8_comes_57 : decode cX8_comes 57 = .ok (.ireturn, 1) := by decide +kernel
theorem dX8_player_0 : decode cX8_player 0 = .ok (.aload_n 0, 1) := by decide +kernel
theorem dX8_player_1 : decode cX8_player 1 = .ok (.iload_n 1, 1) := by decide +kernel
theorem dX8_player_2 : decode cX8_player 2 = .ok (.invokevirtual 131, 3) := by decide +kernel
theorem dX8_player_5 : decode cX8_player 5 = .ok (.istore_n 2, 1) := by decide +kernel
theorem dX8_player_6 : decode cX8_player 6 = .ok (.iload_n 2, 1) := by decide +kernel
theorem dX8_player_7 : decode cX8_player 7 = .ok (.ifCond .ge 5, 3) := by decide +kernel
theorem dX8_player_10 : decode cX8_player 10 = .ok (.iload_n 2, 1) := by decide +kernel
theorem dX8_player_11 : decode cX8_player 11 = .ok (.ireturn, 1) := by decide +kernel
theorem dX8_player_12 : decode cX8_player 12 = .ok (.aload_n 0, 1) := by decide +kernel
theorem dX8_player_13 : decode cX8_player 13 = .ok (.invokevirtual 128, 3) := by decide +kernel
theorem dX8_player_16 : decode cX8_player 16 = .ok (.aload_n 0, 1) := by decide +kernel
theorem dX8_player_17 : decode cX8_player 17 = .ok (.iload_n 1, 1) := by decide +kernel
theorem dX8_player_18 : decode cX8_player 18 = .ok (.invokevirtual 134, 3) := by decide +kernel
theorem dX8_player_21 : decode cX8_player 21 = .ok (.ireturn, 1) := by decide +kernel
theorem dX8_seed_0 : decode cX8_seed 0 = .ok (.iload_n 1, 1) := by decide +kernel
theorem dX8_seed_1 : decode cX8_seed 1 = .ok (.iconst 0, 1) := by decide +kernel
theorem dX8_seed_2 : decode cX8_seed 2 = .ok (.sipush 9999, 3) := by decide +kernel
theorem dX8_seed_5 : decode cX8_seed 5 = .ok (.invokestatic 42, 3) := by decide +kernel
theorem dX8_seed_8 : decode cX8_seed 8 = .ok (.ifCond .ne 6, 3) := by decide +kernel
theorem dX8_seed_11 : decode cX8_seed 11 = .ok (.bipush (-2), 2) := by decide +kernel
theorem dX8_seed_13 : decode cX8_seed 13 = .ok (.ireturn, 1) := by decide +kernel
theorem dX8_seed_14 : decode cX8_seed 14 = .ok (.aload_n 0, 1) := by decide +kernel
theorem dX8_seed_15 : decode cX8_seed 15 = .ok (.invokevirtual 128, 3) := by decide +kernel
theorem dX8_seed_18 : decode cX8_seed 18 = .ok (.aload_n 0, 1) := by decide +kernel
theorem dX8_seed_19 : decode cX8_seed 19 = .ok (.getfield 7, 3) := by decide +kernel
theorem dX8_seed_22 : decode cX8_seed 22 = .ok (.bipush 8, 2) := by decide +kernel
theorem dX8_seed_24 : decode cX8_seed 24 = .ok (.iaload, 1) := by decide +kernel
theorem dX8_seed_25 : decode cX8_seed 25 = .ok (.istore_n 2, 1) := by decide +kernel
theorem dX8_seed_26 : decode cX8_seed 26 = .ok (.aload_n 0, 1) := by decide +kernel
theorem dX8_seed_27 : decode cX8_seed 27 = .ok (.getfield 7, 3) := by decide +kernel
theorem dX8_seed_30 : decode cX8_seed 30 = .ok (.bipush 8, 2) := by decide +kernel
theorem dX8_seed_32 : decode cX8_seed 32 = .ok (.iload_n 1, 1) := by decide +kernel
theorem dX8_seed_33 : decode cX8_seed 33 = .ok (.iastore, 1) := by decide +kernel
theorem dX8_seed_34 : decode cX8_seed 34 = .ok (.iload_n 2, 1) := by decide +kernel
theorem dX8_seed_35 : decode cX8_seed 35 = .ok (.ireturn, 1) := by decide +kernel
theorem dX8_whyNoTurns_0 : decode cX8_whyNoTurns 0 = .ok (.iload_n 1, 1) := by decide +kernel
theorem dX8_whyNoTurns_1 : decode cX8_whyNoTurns 1 = .ok (.iconst 1, 1) := by decide +kernel
theorem dX8_whyNoTurns_2 : decode cX8_whyNoTurns 2 = .ok (.bipush 99, 2) := by decide +kernel
theorem dX8_whyNoTurns_4 : decode cX8_whyNoTurns 4 = .ok (.invokestatic 42, 3) := by decide +kernel
theorem dX8_whyNoTurns_7 : decode cX8_whyNoTurns 7 = .ok (.ifCond .ne 6, 3) := by decide +kernel
theorem dX8_whyNoTurns_10 : decode cX8_whyNoTurns 10 = .ok (.bipush (-2), 2) := by decide +kernel
theorem dX8_whyNoTurns_12 : decode cX8_whyNoTurns 12 = .ok (.ireturn, 1) := by decide +kernel
theorem dX8_whyNoTurns_13 : decode cX8_whyNoTurns 13 = .ok (.aload_n 0, 1) := by decide +kernel
theorem dX8_whyNoTurns_14 : decode cX8_whyNoTurns 14 = .ok (.getfield 7, 3) := by decide +kernel
theorem dX8_whyNoTurns_17 : decode cX8_whyNoTurns 17 = .ok (.bipush 6, 2) := by decide +kernel
theorem dX8_whyNoTurns_19 : decode cX8_whyNoTurns 19 = .ok (.iaload, 1) := by decide +kernel
theorem dX8_whyNoTurns_20 : decode cX8_whyNoTurns 20 = .ok (.ifCond .eq 17, 3) := by decide +kernel
theorem dX8_whyNoTurns_23 : decode cX8_whyNoTurns 23 = .ok (.aload_n 0, 1) := by decide +kernel
theorem dX8_whyNoTurns_24 : decode cX8_whyNoTurns 24 = .ok (.getfield 7, 3) := by decide +kernel
theorem dX8_whyNoTurns_27 : decode cX8_whyNoTurns 27 = .ok (.iconst 5, 1) := by decide +kernel
theorem dX8_whyNoTurns_28 : decode cX8_whyNoTurns 28 = .ok (.iaload, 1) := by decide +kernel
theorem dX8_whyNoTurns_29 : decode cX8_whyNoTurns 29 = .ok (.iload_n 1, 1) := by decide +kernel
theorem dX8_whyNoTurns_30 : decode cX8_whyNoTurns 30 = .ok (.iadd, 1) := by decide +kernel
theorem dX8_whyNoTurns_31 : decode cX8_whyNoTurns 31 = .ok (.sipush 9999, 3) := by decide +kernel
theorem dX8_whyNoTurns_34 : decode cX8_whyNoTurns 34 = .ok (.if_icmp .le 8, 3) := by decide +kernel
theorem dX8_whyNoTurns_37 : decode cX8_whyNoTurns 37 = .ok (.bipush (-5), 2) := by decide +kernel
theorem dX8_whyNoTurns_39 : decode cX8_whyNoTurns 39 = .ok (.goto 4, 3) := by decide +kernel
theorem dX8_whyNoTurns_42 : decode cX8_whyNoTurns 42 = .ok (.iconst 0, 1) := by decide +kernel
theorem dX8_whyNoTurns_43 : decode cX8_whyNoTurns 43 = .ok (.ireturn, 1) := by decide +kernel
theorem dX8_go_0 : decode cX8_go 0 = .ok (.aload_n 0, 1) := by decide +kernel
theorem dX8_go_1 : decode cX8_go 1 = .ok (.iload_n 1, 1) := by decide +kernel
theorem dX8_go_2 : decode cX8_go 2 = .ok (.invokevirtual 137, 3) := by decide +kernel
theorem dX8_go_5 : decode cX8_go 5 = .ok (.istore_n 2, 1) := by decide +kernel
theorem dX8_go_6 : decode cX8_go 6 = .ok (.iload_n 2, 1) := by decide +kernel
theorem dX8_go_7 : decode cX8_go 7 = .ok (.ifCond .ge 5, 3) := by decide +kernel
theorem dX8_go_10 : decode cX8_go 10 = .ok (.iload_n 2, 1) := by decide +kernel
theorem dX8_go_11 : decode cX8_go 11 = .ok (.ireturn, 1) := by decide +kernel
theorem dX8_go_12 : decode cX8_go 12 = .ok (.aload_n 0, 1) := by decide +kernel
theorem dX8_go_13 : decode cX8_go 13 = .ok (.invokevirtual 128, 3) := by decide +kernel
theorem dX8_go_16 : decode cX8_go 16 = .ok (.aload_n 0, 1) := by decide +kernel
theorem dX8_go_17 : decode cX8_go 17 = .ok (.iload_n 1, 1) := by decide +kernel
theorem dX8_go_18 : decode cX8_go 18 = .ok (.invokevirtual 140, 3) := by decide +kernel
theorem dX8_go_21 : decode cX8_go 21 = .ok (.ireturn, 1) := by decide +kernel
theorem dX8_takesRing_0 : decode cX8_takesRing 0 = .ok (.aload_n 0, 1) := by decide +kernel
theorem dX8_takesRing_1 : decode cX8_takesRing 1 = .ok (.getfield 28, 3) := by decide +kernel
theorem dX8_takesRing_4 : decode cX8_takesRing 4 = .ok (.iconst 0, 1) := by decide +kernel
theorem dX8_takesRing_5 : decode cX8_takesRing 5 = .ok (.iload_n 1, 1) := by decide +kernel
theorem dX8_takesRing_6 : decode cX8_takesRing 6 = .ok (.iastore, 1) := by decide +kernel
theorem dX8_takesRing_7 : decode cX8_takesRing 7 = .ok (.aload_n 0, 1) := by decide +kernel
theorem dX8_takesRing_8 : decode cX8_takesRing 8 = .ok (.getfield 28, 3) := by decide +kernel
theorem dX8_takesRing_11 : decode cX8_takesRing 11 = .ok (.iconst 1, 1) := by decide +kernel
theorem dX8_takesRing_12 : decode cX8_takesRing 12 = .ok (.iload_n 2, 1) := by decide +kernel
theorem dX8_takesRing_13 : decode cX8_takesRing 13 = .ok (.iastore, 1) := by decide +kernel
theorem dX8_takesRing_14 : decode cX8_takesRing 14 = .ok (.aload_n 0, 1) := by decide +kernel
theorem dX8_takesRing_15 : decode cX8_takesRing 15 = .ok (.getfield 28, 3) := by decide +kernel
theorem dX8_takesRing_18 : decode cX8_takesRing 18 = .ok (.iconst 2, 1) := by decide +kernel
theorem dX8_takesRing_19 : decode cX8_takesRing 19 = .ok (.iload_n 3, 1) := by decide +kernel
theorem dX8_takesRing_20 : decode cX8_takesRing 20 = .ok (.iastore, 1) := by decide +kernel
theorem dX8_takesRing_21 : decode cX8_takesRing 21 = .ok (.aload_n 0, 1) := by decide +kernel
theorem dX8_takesRing_22 : decode cX8_takesRing 22 = .ok (.getfield 28, 3) := by decide +kernel
theorem dX8_takesRing_25 : decode cX8_takesRing 25 = .ok (.iconst 3, 1) := by decide +kernel
theorem dX8_takesRing_26 : decode cX8_takesRing 26 = .ok (.iload 4, 2) := by decide +kernel
theorem dX8_takesRing_28 : decode cX8_takesRing 28 = .ok (.iastore, 1) := by decide +kernel
theorem dX8_takesRing_29 : decode cX8_takesRing 29 = .ok (.aload_n 0, 1) := by decide +kernel
theorem dX8_takesRing_30 : decode cX8_takesRing 30 = .ok (.iload 5, 2) := by decide +kernel
theorem dX8_takesRing_32 : decode cX8_takesRing 32 = .ok (.putfield 143, 3) := by decide +kernel
theorem dX8_takesRing_35 : decode cX8_takesRing 35 = .ok (.return_, 1) := by decide +kernel
theorem dX8_findRing_0 : decode cX8_findRing 0 = .ok (.iconst 0, 1) := by decide +kernel
theorem dX8_findRing_1 : decode cX8_findRing 1 = .ok (.istore_n 3, 1) := by decide +kernel
theorem dX8_findRing_2 : decode cX8_findRing 2 = .ok (.iload_n 3, 1) := by decide +kernel
theorem dX8_findRing_3 : decode cX8_findRing 3 = .ok (.bipush 64, 2) := by decide +kernel
theorem dX8_findRing_5 : decode cX8_findRing 5 = .ok (.if_icmp .ge 172, 3) := by decide +kernel
theorem dX8_findRing_8 : decode cX8_findRing 8 = .ok (.iload_n 3, 1) := by decide +kernel
theorem dX8_findRing_9 : decode cX8_findRing 9 = .ok (.bipush 16, 2) := by decide +kernel
theorem dX8_findRing_11 : decode cX8_findRing 11 = .ok (.idiv, 1) := by decide +kernel
theorem dX8_findRing_12 : decode cX8_findRing 12 = .ok (.istore 4, 2) := by decide +kernel
theorem dX8_findRing_14 : decode cX8_findRing 14 = .ok (.iload_n 2, 1) := by decide +kernel
theorem dX8_findRing_15 : decode cX8_findRing 15 = .ok (.iconst 2, 1) := by decide +kernel
theorem dX8_findRing_16 : decode cX8_findRing 16 = .ok (.if_icmp .le 11, 3) := by decide +kernel
theorem dX8_findRing_19 : decode cX8_findRing 19 = .ok (.iload_n 3, 1) := by decide +kernel
theorem dX8_findRing_20 : decode cX8_findRing 20 = .ok (.iconst 4, 1) := by decide +kernel
theorem dX8_findRing_21 : decode cX8_findRing 21 = .ok (.idiv, 1) := by decide +kernel
theorem dX8_findRing_22 : decode cX8_findRing 22 = .ok (.iconst 4, 1) := by decide +kernel
theorem dX8_findRing_23 : decode cX8_findRing 23 = .ok (.irem, 1) := by decide +kernel
theorem dX8_findRing_24 : decode cX8_findRing 24 = .ok (.goto 4, 3) := by decide +kernel
theorem dX8_findRing_27 : decode cX8_findRing 27 = .ok (.iload_n 1, 1) := by decide +kernel
theorem dX8_findRing_28 : decode cX8_findRing 28 = .ok (.istore 5, 2) := by decide +kernel
theorem dX8_findRing_30 : decode cX8_findRing 30 = .ok (.iload_n 2, 1) := by decide +kernel
theorem dX8_findRing_31 : decode cX8_findRing 31 = .ok (.iconst 3, 1) := by decide +kernel
theorem dX8_findRing_32 : decode cX8_findRing 32 = .ok (.if_icmp .le 9, 3) := by decide +kernel
theorem dX8_findRing_35 : decode cX8_findRing 35 = .ok (.iload_n 3, 1) := by decide +kernel
theorem dX8_findRing_36 : decode cX8_findRing 36 = .ok (.iconst 4, 1) := by decide +kernel
theorem dX8_findRing_37 : decode cX8_findRing 37 = .ok (.irem, 1) := by decide +kernel
theorem dX8_findRing_38 : decode cX8_findRing 38 = .ok (.goto 4, 3) := by decide +kernel
theorem dX8_findRing_41 : decode cX8_findRing 41 = .ok (.iload_n 1, 1) := by decide +kernel
theorem dX8_findRing_42 : decode cX8_findRing 42 = .ok (.istore 6, 2) := by decide +kernel
theorem dX8_findRing_44 : decode cX8_findRing 44 = .ok (.iload 4, 2) := by decide +kernel
theorem dX8_findRing_46 : decode cX8_findRing 46 = .ok (.iload_n 1, 1) := by decide +kernel
theorem dX8_findRing_47 : decode cX8_findRing 47 = .ok (.if_icmp .eq 28, 3) := by decide +kernel
theorem dX8_findRing_50 : decode cX8_findRing 50 = .ok (.aload_n 0, 1) := by decide +kernel
theorem dX8_findRing_51 : decode cX8_findRing 51 = .ok (.iload_n 1, 1) := by decide +kernel
theorem dX8_findRing_52 : decode cX8_findRing 52 = .ok (.iload 4, 2) := by decide +kernel
theorem dX8_findRing_54 : decode cX8_findRing 54 = .ok (.invokevirtual 46, 3) := by decide +kernel
theorem dX8_findRing_57 : decode cX8_findRing 57 = .ok (.ifCond .le 18, 3) := by decide +kernel
theorem dX8_findRing_60 : decode cX8_findRing 60 = .ok (.aload_n 0, 1) := by decide +kernel
theorem dX8_findRing_61 : decode cX8_findRing 61 = .ok (.iload 4, 2) := by decide +kernel
theorem dX8_findRing_63 : decode cX8_findRing 63 = .ok (.iload 5, 2) := by decide +kernel
theorem dX8_findRing_65 : decode cX8_findRing 65 = .ok (.invokevirtual 46, 3) := by decide +kernel
theorem dX8_findRing_68 : decode cX8_findRing 68 = .ok (.ifCond .le 7, 3) := by decide +kernel
theorem dX8_findRing_71 : decode cX8_findRing 71 = .ok (.iconst 1, 1) := by decide +kernel
theorem dX8_findRing_72 : decode cX8_findRing 72 = .ok (.goto 4, 3) := by decide +kernel
theorem dX8_findRing_75 : decode cX8_findRing 75 = .ok (.iconst 0, 1) := by decide +kernel
theorem dX8_findRing_76 : decode cX8_findRing 76 = .ok (.istore 7, 2) := by decide +kernel
theorem dX8_findRing_78 : decode cX8_findRing 78 = .ok (.iload 7, 2) := by decide +kernel
theorem dX8_findRing_80 : decode cX8_findRing 80 = .ok (.ifCond .eq 29, 3) := by decide +kernel
theorem dX8_findRing_83 : decode cX8_findRing 83 = .ok (.iload_n 2, 1) := by decide +kernel
theorem dX8_findRing_84 : decode cX8_findRing 84 = .ok (.iconst 3, 1) := by decide +kernel
theorem dX8_findRing_85 : decode cX8_findRing 85 = .ok (.if_icmp .lt 20, 3) := by decide +kernel
theorem dX8_findRing_88 : decode cX8_findRing 88 = .ok (.iload 5, 2) := by decide +kernel
theorem dX8_findRing_90 : decode cX8_findRing 90 = .ok (.iload_n 1, 1) := by decide +kernel
theorem dX8_findRing_91 : decode cX8_findRing 91 = .ok (.if_icmp .eq 18, 3) := by decide +kernel
theorem dX8_findRing_94 : decode cX8_findRing 94 = .ok (.aload_n 0, 1) := by decide +kernel
theorem dX8_findRing_95 : decode cX8_findRing 95 = .ok (.iload 5, 2) := by decide +kernel
theorem dX8_findRing_97 : decode cX8_findRing 97 = .ok (.iload 6, 2) := by decide +kernel
theorem dX8_findRing_99 : decode cX8_findRing 99 = .ok (.invokevirtual 46, 3) := by decide +kernel
theorem dX8_findRing_102 : decode cX8_findRing 102 = .ok (.ifCond .le 7, 3) := by decide +kernel
theorem dX8_findRing_105 : decode cX8_findRing 105 = .ok (.iconst 1, 1) := by decide +kernel
theorem dX8_findRing_106 : decode cX8_findRing 106 = .ok (.goto 4, 3) := by decide +kernel
theorem dX8_findRing_109 : decode cX8_findRing 109 = .ok (.iconst 0, 1) := by decide +kernel
theorem dX8_findRing_110 : decode cX8_findRing 110 = .ok (.istore 7, 2) := by decide +kernel
theorem dX8_findRing_112 : decode cX8_findRing 112 = .ok (.iload 7, 2) := by decide +kernel
theorem dX8_findRing_114 : decode cX8_findRing 114 = .ok (.ifCond .eq 35, 3) := by decide +kernel
theorem dX8_findRing_117 : decode cX8_findRing 117 = .ok (.iload_n 2, 1) := by decide +kernel
theorem dX8_findRing_118 : decode cX8_findRing 118 = .ok (.iconst 4, 1) := by decide +kernel
theorem dX8_findRing_119 : decode cX8_findRing 119 = .ok (.if_icmp .lt 26, 3) := by decide +kernel
theorem dX8_findRing_122 : decode cX8_findRing 122 = .ok (.iload 6, 2) := by decide +kernel
theorem dX8_findRing_124 : decode cX8_findRing 124 = .ok (.iload_n 1, 1) := by decide +kernel
theorem dX8_findRing_125 : decode cX8_findRing 125 = .ok (.if_icmp .eq 24, 3) := by decide +kernel
theorem dX8_findRing_128 : decode cX8_findRing 128 = .ok (.iload 6, 2) := by decide +kernel
theorem dX8_findRing_130 : decode cX8_findRing 130 = .ok (.iload 4, 2) := by decide +kernel
theorem dX8_findRing_132 : decode cX8_findRing 132 = .ok (.if_icmp .eq 17, 3) := by decide +kernel
theorem dX8_findRing_135 : decode cX8_findRing 135 = .ok (.aload_n 0, 1) := by decide +kernel
theorem dX8_findRing_136 : decode cX8_findRing 136 = .ok (.iload 6, 2) := by decide +kernel
theorem dX8_findRing_138 : decode cX8_findRing 138 = .ok (.iload_n 1, 1) := by decide +kernel
theorem dX8_findRing_139 : decode cX8_findRing 139 = .ok (.invokevirtual 46, 3) := by decide +kernel
theorem dX8_findRing_142 : decode cX8_findRing 142 = .ok (.ifCond .le 7, 3) := by decide +kernel
theorem dX8_findRing_145 : decode cX8_findRing 145 = .ok (.iconst 1, 1) := by decide +kernel
theorem dX8_findRing_146 : decode cX8_findRing 146 = .ok (.goto 4, 3) := by decide +kernel
theorem dX8_findRing_149 : decode cX8_findRing 149 = .ok (.iconst 0, 1) := by decide +kernel
theorem dX8_findRing_150 : decode cX8_findRing 150 = .ok (.istore 7, 2) := by decide +kernel
theorem dX8_findRing_152 : decode cX8_findRing 152 = .ok (.iload 7, 2) := by decide +kernel
theorem dX8_findRing_154 : decode cX8_findRing 154 = .ok (.ifCond .eq 17, 3) := by decide +kernel
theorem dX8_findRing_157 : decode cX8_findRing 157 = .ok (.aload_n 0, 1) := by decide +kernel
theorem dX8_findRing_158 : decode cX8_findRing 158 = .ok (.iload_n 1, 1) := by decide +kernel
theorem dX8_findRing_159 : decode cX8_findRing 159 = .ok (.iload 4, 2) := by decide +kernel
theorem dX8_findRing_161 : decode cX8_findRing 161 = .ok (.iload 5, 2) := by decide +kernel
theorem dX8_findRing_163 : decode cX8_findRing 163 = .ok (.iload 6, 2) := by decide +kernel
theorem dX8_findRing_165 : decode cX8_findRing 165 = .ok (.iload_n 2, 1) := by decide +kernel
theorem dX8_findRing_166 : decode cX8_findRing 166 = .ok (.invokevirtual 146, 3) := by decide +kernel
theorem dX8_findRing_169 : decode cX8_findRing 169 = .ok (.iconst 1, 1) := by decide +kernel
theorem dX8_findRing_170 : decode cX8_findRing 170 = .ok (.ireturn, 1) := by decide +kernel
theorem dX8_findRing_171 : decode cX8_findRing 171 = .ok (.iinc 3 1, 3) := by decide +kernel
theorem dX8_findRing_174 : decode cX8_findRing 174 = .ok (.goto (-172), 3) := by decide +kernel
theorem dX8_findRing_177 : decode cX8_findRing 177 = .ok (.iconst 0, 1) := by decide +kernel
theorem dX8_findRing_178 : decode cX8_findRing 178 = .ok (.ireturn, 1) := by decide +kernel
theorem dX8_clearsRing_0 : decode cX8_clearsRing 0 = .ok (.aload_n 0, 1) := by decide +kernel
theorem dX8_clearsRing_1 : decode cX8_clearsRing 1 = .ok (.aload_n 0, 1) := by decide +kernel
theorem dX8_clearsRing_2 : decode cX8_clearsRing 2 = .ok (.getfield 28, 3) := by decide +kernel
theorem dX8_clearsRing_5 : decode cX8_clearsRing 5 = .ok (.iconst 0, 1) := by decide +kernel
theorem dX8_clearsRing_6 : decode cX8_clearsRing 6 = .ok (.iaload, 1) := by decide +kernel
theorem dX8_clearsRing_7 : decode cX8_clearsRing 7 = .ok (.aload_n 0, 1) := by decide +kernel
theorem dX8_clearsRing_8 : decode cX8_clearsRing 8 = .ok (.getfield 28, 3) := by decide +kernel
theorem dX8_clearsRing_11 : decode cX8_clearsRing 11 = .ok (.iconst 1, 1) := by decide +kernel
theorem dX8_clearsRing_12 : decode cX8_clearsRing 12 = .ok (.iaload, 1) := by decide +kernel
theorem dX8_clearsRing_13 : decode cX8_clearsRing 13 = .ok (.invokevirtual 46, 3) := by decide +kernel
theorem dX8_clearsRing_16 : decode cX8_clearsRing 16 = .ok (.istore_n 1, 1) := by decide +kernel
theorem dX8_clearsRing_17 : decode cX8_clearsRing 17 = .ok (.iconst 1, 1) := by decide +kernel
theorem dX8_clearsRing_18 : decode cX8_clearsRing 18 = .ok (.istore_n 2, 1) := by decide +kernel
theorem dX8_clearsRing_19 : decode cX8_clearsRing 19 = .ok (.iload_n 2, 1) := by decide +kernel
theorem dX8_clearsRing_20 : decode cX8_clearsRing 20 = .ok (.aload_n 0, 1) := by decide +kernel
theorem dX8_clearsRing_21 : decode cX8_clearsRing 21 = .ok (.getfield 143, 3) := by decide +kernel
theorem dX8_clearsRing_24 : decode cX8_clearsRing 24 = .ok (.if_icmp .ge 44, 3) := by decide +kernel
theorem dX8_clearsRing_27 : decode cX8_clearsRing 27 = .ok (.aload_n 0, 1) := by decide +kernel
theorem dX8_clearsRing_28 : decode cX8_clearsRing 28 = .ok (.aload_n 0, 1) := by decide +kernel
theorem dX8_clearsRing_29 : decode cX8_clearsRing 29 = .ok (.getfield 28, 3) := by decide +kernel
theorem dX8_clearsRing_32 : decode cX8_clearsRing 32 = .ok (.iload_n 2, 1) := by decide +kernel
theorem dX8_clearsRing_33 : decode cX8_clearsRing 33 = .ok (.iaload, 1) := by decide +kernel
theorem dX8_clearsRing_34 : decode cX8_clearsRing 34 = .ok (.aload_n 0, 1) := by decide +kernel
theorem dX8_clearsRing_35 : decode cX8_clearsRing 35 = .ok (.getfield 28, 3) := by decide +kernel
theorem dX8_clearsRing_38 : decode cX8_clearsRing 38 = .ok (.iload_n 2, 1) := by decide +kernel
theorem dX8_clearsRing_39 : decode cX8_clearsRing 39 = .ok (.iconst 1, 1) := by decide +kernel
theorem dX8_clearsRing_40 : decode cX8_clearsRing 40 = .ok (.iadd, 1) := by decide +kernel
theorem dX8_clearsRing_41 : decode cX8_clearsRing 41 = .ok (.aload_n 0, 1) := by decide +kernel
theorem dX8_clearsRing_42 : decode cX8_clearsRing 42 = .ok (.getfield 143, 3) := by decide +kernel
theorem dX8_clearsRing_45 : decode cX8_clearsRing 45 = .ok (.irem, 1) := by decide +kernel
theorem dX8_clearsRing_46 : decode cX8_clearsRing 46 = .ok (.iaload, 1) := by decide +kernel
theorem dX8_clearsRing_47 : decode cX8_clearsRing 47 = .ok (.invokevirtual 46, 3) := by decide +kernel
theorem dX8_clearsRing_50 : decode cX8_clearsRing 50 = .ok (.istore_n 3, 1) := by decide +kernel
theorem dX8_clearsRing_51 : decode cX8_clearsRing 51 = .ok (.iload_n 3, 1) := by decide +kernel
theorem dX8_clearsRing_52 : decode cX8_clearsRing 52 = .ok (.iload_n 1, 1) := by decide +kernel
theorem dX8_clearsRing_53 : decode cX8_clearsRing 53 = .ok (.if_icmp .ge 7, 3) := by decide +kernel
theorem dX8_clearsRing_56 : decode cX8_clearsRing 56 = .ok (.iload_n 3, 1) := by decide +kernel
theorem dX8_clearsRing_57 : decode cX8_clearsRing 57 = .ok (.goto 4, 3) := by decide +kernel
theorem dX8_clearsRing_60 : decode cX8_clearsRing 60 = .ok (.iload_n 1, 1) := by decide +kernel
theorem dX8_clearsRing_61 : decode cX8_clearsRing 61 = .ok (.istore_n 1, 1) := by decide +kernel
theorem dX8_clearsRing_62 : decode cX8_clearsRing 62 = .ok (.iinc 2 1, 3) := by decide +kernel
theorem dX8_clearsRing_65 : decode cX8_clearsRing 65 = .ok (.goto (-46), 3) := by decide +kernel
theorem dX8_clearsRing_68 : decode cX8_clearsRing 68 = .ok (.iconst 0, 1) := by decide +kernel
theorem dX8_clearsRing_69 : decode cX8_clearsRing 69 = .ok (.istore_n 2, 1) := by decide +kernel
theorem dX8_clearsRing_70 : decode cX8_clearsRing 70 = .ok (.iload_n 2, 1) := by decide +kernel
theorem dX8_clearsRing_71 : decode cX8_clearsRing 71 = .ok (.aload_n 0, 1) := by decide +kernel
theorem dX8_clearsRing_72 : decode cX8_clearsRing 72 = .ok (.getfield 143, 3) := by decide +kernel
theorem dX8_clearsRing_75 : decode cX8_clearsRing 75 = .ok (.if_icmp .ge 34, 3) := by decide +kernel
theorem dX8_clearsRing_78 : decode cX8_clearsRing 78 = .ok (.aload_n 0, 1) := by decide +kernel
theorem dX8_clearsRing_79 : decode cX8_clearsRing 79 = .ok (.aload_n 0, 1) := by decide +kernel
theorem dX8_clearsRing_80 : decode cX8_clearsRing 80 = .ok (.getfield 28, 3) := by decide +kernel
theorem dX8_clearsRing_83 : decode cX8_clearsRing 83 = .ok (.iload_n 2, 1) := by decide +kernel
theorem dX8_clearsRing_84 : decode cX8_clearsRing 84 = .ok (.iaload, 1) := by decide +kernel
theorem dX8_clearsRing_85 : decode cX8_clearsRing 85 = .ok (.aload_n 0, 1) := by decide +kernel
theorem dX8_clearsRing_86 : decode cX8_clearsRing 86 = .ok (.getfield 28, 3) := by decide +kernel
theorem dX8_clearsRing_89 : decode cX8_clearsRing 89 = .ok (.iload_n 2, 1) := by decide +kernel
theorem dX8_clearsRing_90 : decode cX8_clearsRing 90 = .ok (.iconst 1, 1) := by decide +kernel
theorem dX8_clearsRing_91 : decode cX8_clearsRing 91 = .ok (.iadd, 1) := by decide +kernel
theorem dX8_clearsRing_92 : decode cX8_clearsRing 92 = .ok (.aload_n 0, 1) := by decide +kernel
theorem dX8_clearsRing_93 : decode cX8_clearsRing 93 = .ok (.getfield 143, 3) := by decide +kernel
theorem dX8_clearsRing_96 : decode cX8_clearsRing 96 = .ok (.irem, 1) := by decide +kernel
theorem dX8_clearsRing_97 : decode cX8_clearsRing 97 = .ok (.iaload, 1) := by decide +kernel
theorem dX8_clearsRing_98 : decode cX8_clearsRing 98 = .ok (.iload_n 1, 1) := by decide +kernel
theorem dX8_clearsRing_99 : decode cX8_clearsRing 99 = .ok (.ineg, 1) := by decide +kernel
theorem dX8_clearsRing_100 : decode cX8_clearsRing 100 = .ok (.invokevirtual 79, 3) := by decide +kernel
theorem dX8_clearsRing_103 : decode cX8_clearsRing 103 = .ok (.iinc 2 1, 3) := by decide +kernel
theorem dX8_clearsRing_106 : decode cX8_clearsRing 106 = .ok (.goto (-36), 3) := by decide +kernel
theorem dX8_clearsRing_109 : decode cX8_clearsRing 109 = .ok (.iload_n 1, 1) := by decide +kernel
theorem dX8_clearsRing_110 : decode cX8_clearsRing 110 = .ok (.ireturn, 1) := by decide +kernel
theorem dX8_clears_0 : decode cX8_clears 0 = .ok (.iconst 0, 1) := by decide +kernel
theorem dX8_clears_1 : decode cX8_clears 1 = .ok (.istore_n 2, 1) := by decide +kernel
theorem dX8_clears_2 : decode cX8_clears 2 = .ok (.aload_n 0, 1) := by decide +kernel
theorem dX8_clears_3 : decode cX8_clears 3 = .ok (.iload_n 1, 1) := by decide +kernel
theorem dX8_clears_4 : decode cX8_clears 4 = .ok (.iconst 2, 1) := by decide +kernel
theorem dX8_clears_5 : decode cX8_clears 5 = .ok (.invokevirtual 150, 3) := by decide +kernel
theorem dX8_clears_8 : decode cX8_clears 8 = .ok (.ifCond .ne 21, 3) := by decide +kernel
theorem dX8_clears_11 : decode cX8_clears 11 = .ok (.aload_n 0, 1) := by decide +kernel
theorem dX8_clears_12 : decode cX8_clears 12 = .ok (.iload_n 1, 1) := by decide +kernel
theorem dX8_clears_13 : decode cX8_clears 13 = .ok (.iconst 3, 1) := by decide +kernel
theorem dX8_clears_14 : decode cX8_clears 14 = .ok (.invokevirtual 150, 3) := by decide +kernel
theorem dX8_clears_17 : decode cX8_clears 17 = .ok (.ifCond .ne 12, 3) := by decide +kernel
theorem dX8_clears_20 : decode cX8_clears 20 = .ok (.aload_n 0, 1) := by decide +kernel
theorem dX8_clears_21 : decode cX8_clears 21 = .ok (.iload_n 1, 1) := by decide +kernel
theorem dX8_clears_22 : decode cX8_clears 22 = .ok (.iconst 4, 1) := by decide +kernel
theorem dX8_clears_23 : decode cX8_clears 23 = .ok (.invokevirtual 150, 3) := by decide +kernel
theorem dX8_clears_26 : decode cX8_clears 26 = .ok (.ifCond .eq 13, 3) := by decide +kernel
theorem dX8_clears_29 : decode cX8_clears 29 = .ok (.iload_n 2, 1) := by decide +kernel
theorem dX8_clears_30 : decode cX8_clears 30 = .ok (.aload_n 0, 1) := by decide +kernel
theorem dX8_clears_31 : decode cX8_clears 31 = .ok (.invokevirtual 153, 3) := by decide +kernel
theorem dX8_clears_34 : decode cX8_clears 34 = .ok (.iadd, 1) := by decide +kernel
theorem dX8_clears_35 : decode cX8_clears 35 = .ok (.istore_n 2, 1) := by decide +kernel
theorem dX8_clears_36 : decode cX8_clears 36 = .ok (.goto (-34), 3) := by decide +kernel
theorem dX8_clears_39 : decode cX8_clears 39 = .ok (.iload_n 2, 1) := by decide +kernel
theorem dX8_clears_40 : decode cX8_clears 40 = .ok (.ireturn, 1) := by decide +kernel
theorem dX8_clear_0 : decode cX8_clear 0 = .ok (.aload_n 0, 1) := by decide +kernel
theorem dX8_clear_1 : decode cX8_clear 1 = .ok (.iload_n 1, 1) := by decide +kernel
theorem dX8_clear_2 : decode cX8_clear 2 = .ok (.invokevirtual 156, 3) := by decide +kernel
theorem dX8_clear_5 : decode cX8_clear 5 = .ok (.ifCond .ne 5, 3) := by decide +kernel
theorem dX8_clear_8 : decode cX8_clear 8 = .ok (.iconst (-1), 1) := by decide +kernel
theorem dX8_clear_9 : decode cX8_clear 9 = .ok (.ireturn, 1) := by decide +kernel
theorem dX8_clear_10 : decode cX8_clear 10 = .ok (.aload_n 0, 1) := by decide +kernel
theorem dX8_clear_11 : decode cX8_clear 11 = .ok (.invokevirtual 128, 3) := by decide +kernel
theorem dX8_clear_14 : decode cX8_clear 14 = .ok (.aload_n 0, 1) := by decide +kernel
theorem dX8_clear_15 : decode cX8_clear 15 = .ok (.iload_n 1, 1) := by decide +kernel
theorem dX8_clear_16 : decode cX8_clear 16 = .ok (.invokevirtual 159, 3) := by decide +kernel
theorem dX8_clear_19 : decode cX8_clear 19 = .ok (.ireturn, 1) := by decide +kernel
theorem dX8_of_0 : decode cX8_of 0 = .ok (.aload_n 0, 1) := by decide +kernel
theorem dX8_of_1 : decode cX8_of 1 = .ok (.iload_n 1, 1) := by decide +kernel
theorem dX8_of_2 : decode cX8_of 2 = .ok (.invokevirtual 156, 3) := by decide +kernel
theorem dX8_of_5 : decode cX8_of 5 = .ok (.ifCond .ne 5, 3) := by decide +kernel
theorem dX8_of_8 : decode cX8_of 8 = .ok (.iconst (-1), 1) := by decide +kernel
theorem dX8_of_9 : decode cX8_of 9 = .ok (.ireturn, 1) := by decide +kernel
theorem dX8_of_10 : decode cX8_of 10 = .ok (.iload_n 2, 1) := by decide +kernel
theorem dX8_of_11 : decode cX8_of 11 = .ok (.tableswitch 109 0 8 #[49, 56, 63, 69, 75, 81, 88, 95, 102], 49) := by decide +kernel
theorem dX8_of_60 : decode cX8_of 60 = .ok (.aload_n 0, 1) := by decide +kernel
theorem dX8_of_61 : decode cX8_of 61 = .ok (.iload_n 1, 1) := by decide +kernel
theorem dX8_of_62 : decode cX8_of 62 = .ok (.iconst 0, 1) := by decide +kernel
theorem dX8_of_63 : decode cX8_of 63 = .ok (.invokevirtual 54, 3) := by decide +kernel
theorem dX8_of_66 : decode cX8_of 66 = .ok (.ireturn, 1) := by decide +kernel
theorem dX8_of_67 : decode cX8_of 67 = .ok (.aload_n 0, 1) := by decide +kernel
theorem dX8_of_68 : decode cX8_of 68 = .ok (.iload_n 1, 1) := by decide +kernel
theorem dX8_of_69 : decode cX8_of 69 = .ok (.iconst 1, 1) := by decide +kernel
theorem dX8_of_70 : decode cX8_of 70 = .ok (.invokevirtual 54, 3) := by decide +kernel
theorem dX8_of_73 : decode cX8_of 73 = .ok (.ireturn, 1) := by decide +kernel
theorem dX8_of_74 : decode cX8_of 74 = .ok (.aload_n 0, 1) := by decide +kernel
theorem dX8_of_75 : decode cX8_of 75 = .ok (.iload_n 1, 1) := by decide +kernel
theorem dX8_of_76 : decode cX8_of 76 = .ok (.invokevirtual 162, 3) := by decide +kernel
theorem dX8_of_79 : decode cX8_of 79 = .ok (.ireturn, 1) := by decide +kernel
theorem dX8_of_80 : decode cX8_of 80 = .ok (.aload_n 0, 1) := by decide +kernel
theorem dX8_of_81 : decode cX8_of 81 = .ok (.iload_n 1, 1) := by decide +kernel
theorem dX8_of_82 : decode cX8_of 82 = .ok (.invokevirtual 61, 3) := by decide +kernel
theorem dX8_of_85 : decode cX8_of 85 = .ok (.ireturn, 1) := by decide +kernel
theorem dX8_of_86 : decode cX8_of 86 = .ok (.aload_n 0, 1) := by decide +kernel
theorem dX8_of_87 : decode cX8_of 87 = .ok (.iload_n 1, 1) := by decide +kernel
theorem dX8_of_88 : decode cX8_of 88 = .ok (.invokevirtual 165, 3) := by decide +kernel
theorem dX8_of_91 : decode cX8_of 91 = .ok (.ireturn, 1) := by decide +kernel
theorem dX8_of_92 : decode cX8_of 92 = .ok (.aload_n 0, 1) := by decide +kernel
theorem dX8_of_93 : decode cX8_of 93 = .ok (.iload_n 1, 1) := by decide +kernel
theorem dX8_of_94 : decode cX8_of 94 = .ok (.iconst 2, 1) := by decide +kernel
theorem dX8_of_95 : decode cX8_of 95 = .ok (.invokevirtual 54, 3) := by decide +kernel
theorem dX8_of_98 : decode cX8_of 98 = .ok (.ireturn, 1) := by decide +kernel
theorem dX8_of_99 : decode cX8_of 99 = .ok (.aload_n 0, 1) := by decide +kernel
theorem dX8_of_100 : decode cX8_of 100 = .ok (.iload_n 1, 1) := by decide +kernel
theorem dX8_of_101 : decode cX8_of 101 = .ok (.iconst 3, 1) := by decide +kernel
theorem dX8_of_102 : decode cX8_of 102 = .ok (.invokevirtual 54, 3) := by decide +kernel
theorem dX8_of_105 : decode cX8_of 105 = .ok (.ireturn, 1) := by decide +kernel
theorem dX8_of_106 : decode cX8_of 106 = .ok (.aload_n 0, 1) := by decide +kernel
theorem dX8_of_107 : decode cX8_of 107 = .ok (.iload_n 1, 1) := by decide +kernel
theorem dX8_of_108 : decode cX8_of 108 = .ok (.iconst 4, 1) := by decide +kernel
theorem dX8_of_109 : decode cX8_of 109 = .ok (.invokevirtual 54, 3) := by decide +kernel
theorem dX8_of_112 : decode cX8_of 112 = .ok (.ireturn, 1) := by decide +kernel
theorem dX8_of_113 : decode cX8_of 113 = .ok (.aload_n 0, 1) := by decide +kernel
theorem dX8_of_114 : decode cX8_of 114 = .ok (.iload_n 1, 1) := by decide +kernel
theorem dX8_of_115 : decode cX8_of 115 = .ok (.iconst 5, 1) := by decide +kernel
theorem dX8_of_116 : decode cX8_of 116 = .ok (.invokevirtual 54, 3) := by decide +kernel
theorem dX8_of_119 : decode cX8_of 119 = .ok (.ireturn, 1) := by decide +kernel
theorem dX8_of_120 : decode cX8_of 120 = .ok (.bipush (-2), 2) := by decide +kernel
theorem dX8_of_122 : decode cX8_of 122 = .ok (.ireturn, 1) := by decide +kernel
theorem dX8_ofSquare_0 : decode cX8_ofSquare 0 = .ok (.iload_n 1, 1) := by decide +kernel
theorem dX8_ofSquare_1 : decode cX8_ofSquare 1 = .ok (.invokestatic 168, 3) := by decide +kernel
theorem dX8_ofSquare_4 : decode cX8_ofSquare 4 = .ok (.ifCond .ne 5, 3) := by decide +kernel
theorem dX8_ofSquare_7 : decode cX8_ofSquare 7 = .ok (.iconst (-1), 1) := by decide +kernel
theorem dX8_ofSquare_8 : decode cX8_ofSquare 8 = .ok (.ireturn, 1) := by decide +kernel
theorem dX8_ofSquare_9 : decode cX8_ofSquare 9 = .ok (.iload_n 2, 1) := by decide +kernel
theorem dX8_ofSquare_10 : decode cX8_ofSquare 10 = .ok (.tableswitch 71 0 4 #[34, 39, 49, 59, 65], 34) := by decide +kernel
theorem dX8_ofSquare_44 : decode cX8_ofSquare 44 = .ok (.iload_n 1, 1) := by decide +kernel
theorem dX8_ofSquare_45 : decode cX8_ofSquare 45 = .ok (.invokestatic 57, 3) := by decide +kernel
theorem dX8_ofSquare_48 : decode cX8_ofSquare 48 = .ok (.ireturn, 1) := by decide +kernel
theorem dX8_ofSquare_49 : decode cX8_ofSquare 49 = .ok (.aload_n 0, 1) := by decide +kernel
theorem dX8_ofSquare_50 : decode cX8_ofSquare 50 = .ok (.getfield 7, 3) := by decide +kernel
theorem dX8_ofSquare_53 : decode cX8_ofSquare 53 = .ok (.bipush 11, 2) := by decide +kernel
theorem dX8_ofSquare_55 : decode cX8_ofSquare 55 = .ok (.iload_n 1, 1) := by decide +kernel
theorem dX8_ofSquare_56 : decode cX8_ofSquare 56 = .ok (.iadd, 1) := by decide +kernel
theorem dX8_ofSquare_57 : decode cX8_ofSquare 57 = .ok (.iaload, 1) := by decide +kernel
theorem dX8_ofSquare_58 : decode cX8_ofSquare 58 = .ok (.ireturn, 1) := by decide +kernel
theorem dX8_ofSquare_59 : decode cX8_ofSquare 59 = .ok (.aload_n 0, 1) := by decide +kernel
theorem dX8_ofSquare_60 : decode cX8_ofSquare 60 = .ok (.getfield 7, 3) := by decide +kernel
theorem dX8_ofSquare_63 : decode cX8_ofSquare 63 = .ok (.bipush 31, 2) := by decide +kernel
theorem dX8_ofSquare_65 : decode cX8_ofSquare 65 = .ok (.iload_n 1, 1) := by decide +kernel
theorem dX8_ofSquare_66 : decode cX8_ofSquare 66 = .ok (.iadd, 1) := by decide +kernel
theorem dX8_ofSquare_67 : decode cX8_ofSquare 67 = .ok (.iaload, 1) := by decide +kernel
theorem dX8_ofSquare_68 : decode cX8_ofSquare 68 = .ok (.ireturn, 1) := by decide +kernel
theorem dX8_ofSquare_69 : decode cX8_ofSquare 69 = .ok (.aload_n 0, 1) := by decide +kernel
theorem dX8_ofSquare_70 : decode cX8_ofSquare 70 = .ok (.iload_n 1, 1) := by decide +kernel
theorem dX8_ofSquare_71 : decode cX8_ofSquare 71 = .ok (.invokevirtual 94, 3) := by decide +kernel
theorem dX8_ofSquare_74 : decode cX8_ofSquare 74 = .ok (.ireturn, 1) := by decide +kernel
theorem dX8_ofSquare_75 : decode cX8_ofSquare 75 = .ok (.aload_n 0, 1) := by decide +kernel
theorem dX8_ofSquare_76 : decode cX8_ofSquare 76 = .ok (.iload_n 1, 1) := by decide +kernel
theorem dX8_ofSquare_77 : decode cX8_ofSquare 77 = .ok (.invokevirtual 171, 3) := by decide +kernel
theorem dX8_ofSquare_80 : decode cX8_ofSquare 80 = .ok (.ireturn, 1) := by decide +kernel
theorem dX8_ofSquare_81 : decode cX8_ofSquare 81 = .ok (.bipush (-2), 2) := by decide +kernel
theorem dX8_ofSquare_83 : decode cX8_ofSquare 83 = .ok (.ireturn, 1) := by decide +kernel
theorem dX8_owes_0 : decode cX8_owes 0 = .ok (.aload_n 0, 1) := by decide +kernel
theorem dX8_owes_1 : decode cX8_owes 1 = .ok (.iload_n 1, 1) := by decide +kernel
theorem dX8_owes_2 : decode cX8_owes 2 = .ok (.invokevirtual 156, 3) := by decide +kernel
theorem dX8_owes_5 : decode cX8_owes 5 = .ok (.ifCond .eq 11, 3) := by decide +kernel
theorem dX8_owes_8 : decode cX8_owes 8 = .ok (.aload_n 0, 1) := by decide +kernel
theorem dX8_owes_9 : decode cX8_owes 9 = .ok (.iload_n 2, 1) := by decide +kernel
theorem dX8_owes_10 : decode cX8_owes 10 = .ok (.invokevirtual 156, 3) := by decide +kernel
theorem dX8_owes_13 : decode cX8_owes 13 = .ok (.ifCond .ne 5, 3) := by decide +kernel
theorem dX8_owes_16 : decode cX8_owes 16 = .ok (.iconst (-1), 1) := by decide +kernel
theorem dX8_owes_17 : decode cX8_owes 17 = .ok (.ireturn, 1) := by decide +kernel
theorem dX8_owes_18 : decode cX8_owes 18 = .ok (.iload_n 3, 1) := by decide +kernel
theorem dX8_owes_19 : decode cX8_owes 19 = .ok (.iconst 0, 1) := by decide +kernel
theorem dX8_owes_20 : decode cX8_owes 20 = .ok (.iconst 1, 1) := by decide +kernel
theorem dX8_owes_21 : decode cX8_owes 21 = .ok (.invokestatic 42, 3) := by decide +kernel
theorem dX8_owes_24 : decode cX8_owes 24 = .ok (.ifCond .eq 8, 3) := by decide +kernel
theorem dX8_owes_27 : decode cX8_owes 27 = .ok (.iload_n 1, 1) := by decide +kernel
theorem dX8_owes_28 : decode cX8_owes 28 = .ok (.iload_n 2, 1) := by decide +kernel
theorem dX8_owes_29 : decode cX8_owes 29 = .ok (.if_icmp .ne 6, 3) := by decide +kernel
theorem dX8_owes_32 : decode cX8_owes 32 = .ok (.bipush (-2), 2) := by decide +kernel
theorem dX8_owes_34 : decode cX8_owes 34 = .ok (.ireturn, 1) := by decide +kernel
theorem dX8_owes_35 : decode cX8_owes 35 = .ok (.aload_n 0, 1) := by decide +kernel
theorem dX8_owes_36 : decode cX8_owes 36 = .ok (.iload_n 1, 1) := by decide +kernel
theorem dX8_owes_37 : decode cX8_owes 37 = .ok (.iload_n 2, 1) := by decide +kernel
theorem dX8_owes_38 : decode cX8_owes 38 = .ok (.invokevirtual 46, 3) := by decide +kernel
theorem dX8_owes_41 : decode cX8_owes 41 = .ok (.istore 4, 2) := by decide +kernel
theorem dX8_owes_43 : decode cX8_owes 43 = .ok (.iload_n 3, 1) := by decide +kernel
theorem dX8_owes_44 : decode cX8_owes 44 = .ok (.ifCond .ne 8, 3) := by decide +kernel
theorem dX8_owes_47 : decode cX8_owes 47 = .ok (.iload 4, 2) := by decide +kernel
theorem dX8_owes_49 : decode cX8_owes 49 = .ok (.goto 19, 3) := by decide +kernel
theorem dX8_owes_52 : decode cX8_owes 52 = .ok (.iload 4, 2) := by decide +kernel
theorem dX8_owes_54 : decode cX8_owes 54 = .ok (.ifCond .ne 8, 3) := by decide +kernel
theorem dX8_owes_57 : decode cX8_owes 57 = .ok (.bipush (-6), 2) := by decide +kernel
theorem dX8_owes_59 : decode cX8_owes 59 = .ok (.goto 9, 3) := by decide +kernel
theorem dX8_owes_62 : decode cX8_owes 62 = .ok (.aload_n 0, 1) := by decide +kernel
theorem dX8_owes_63 : decode cX8_owes 63 = .ok (.iload_n 1, 1) := by decide +kernel
theorem dX8_owes_64 : decode cX8_owes 64 = .ok (.iload_n 2, 1) := by decide +kernel
theorem dX8_owes_65 : decode cX8_owes 65 = .ok (.invokevirtual 65, 3) := by decide +kernel
theorem dX8_owes_68 : decode cX8_owes 68 = .ok (.ireturn, 1) := by decide +kernel
theorem dX8_count_0 : decode cX8_count 0 = .ok (.iload_n 1, 1) := by decide +kernel
theorem dX8_count_1 : decode cX8_count 1 = .ok (.bipush 9, 2) := by decide +kernel
theorem dX8_count_3 : decode cX8_count 3 = .ok (.bipush 13, 2) := by decide +kernel
theorem dX8_count_5 : decode cX8_count 5 = .ok (.invokestatic 42, 3) := by decide +kernel
theorem dX8_count_8 : decode cX8_count 8 = .ok (.ifCond .eq 13, 3) := by decide +kernel
theorem dX8_count_11 : decode cX8_count 11 = .ok (.aload_n 0, 1) := by decide +kernel
theorem dX8_count_12 : decode cX8_count 12 = .ok (.getfield 7, 3) := by decide +kernel
theorem dX8_count_15 : decode cX8_count 15 = .ok (.iload_n 1, 1) := by decide +kernel
theorem dX8_count_16 : decode cX8_count 16 = .ok (.bipush 9, 2) := by decide +kernel
theorem dX8_count_18 : decode cX8_count 18 = .ok (.isub, 1) := by decide +kernel
theorem dX8_count_19 : decode cX8_count 19 = .ok (.iaload, 1) := by decide +kernel
theorem dX8_count_20 : decode cX8_count 20 = .ok (.ireturn, 1) := by decide +kernel
theorem dX8_count_21 : decode cX8_count 21 = .ok (.iload_n 1, 1) := by decide +kernel
theorem dX8_count_22 : decode cX8_count 22 = .ok (.tableswitch 181 0 16 #[82, 89, 97, 120, 125, 131, 136, 144, 152, 181, 181, 181, 181, 181, 160, 171, 176], 82) := by decide +kernel
theorem dX8_count_104 : decode cX8_count 104 = .ok (.aload_n 0, 1) := by decide +kernel
theorem dX8_count_105 : decode cX8_count 105 = .ok (.getfield 7, 3) := by decide +kernel
theorem dX8_count_108 : decode cX8_count 108 = .ok (.iconst 5, 1) := by decide +kernel
theorem dX8_count_109 : decode cX8_count 109 = .ok (.iaload, 1) := by decide +kernel
theorem dX8_count_110 : decode cX8_count 110 = .ok (.ireturn, 1) := by decide +kernel
theorem dX8_count_111 : decode cX8_count 111 = .ok (.aload_n 0, 1) := by decide +kernel
theorem dX8_count_112 : decode cX8_count 112 = .ok (.getfield 7, 3) := by decide +kernel
theorem dX8_count_115 : decode cX8_count 115 = .ok (.bipush 6, 2) := by decide +kernel
theorem dX8_count_117 : decode cX8_count 117 = .ok (.iaload, 1) := by decide +kernel
theorem dX8_count_118 : decode cX8_count 118 = .ok (.ireturn, 1) := by decide +kernel
theorem dX8_count_119 : decode cX8_count 119 = .ok (.aload_n 0, 1) := by decide +kernel
theorem dX8_count_120 : decode cX8_count 120 = .ok (.getfield 7, 3) := by decide +kernel
theorem dX8_count_123 : decode cX8_count 123 = .ok (.bipush 6, 2) := by decide +kernel
theorem dX8_count_125 : decode cX8_count 125 = .ok (.iaload, 1) := by decide +kernel
theorem dX8_count_126 : decode cX8_count 126 = .ok (.ifCond .ne 8, 3) := by decide +kernel
theorem dX8_count_129 : decode cX8_count 129 = .ok (.bipush (-6), 2) := by decide +kernel
theorem dX8_count_131 : decode cX8_count 131 = .ok (.goto 10, 3) := by decide +kernel
theorem dX8_count_134 : decode cX8_count 134 = .ok (.aload_n 0, 1) := by decide +kernel
theorem dX8_count_135 : decode cX8_count 135 = .ok (.getfield 7, 3) := by decide +kernel
theorem dX8_count_138 : decode cX8_count 138 = .ok (.bipush 7, 2) := by decide +kernel
theorem dX8_count_140 : decode cX8_count 140 = .ok (.iaload, 1) := by decide +kernel
theorem dX8_count_141 : decode cX8_count 141 = .ok (.ireturn, 1) := by decide +kernel
theorem dX8_count_142 : decode cX8_count 142 = .ok (.aload_n 0, 1) := by decide +kernel
theorem dX8_count_143 : decode cX8_count 143 = .ok (.invokevirtual 174, 3) := by decide +kernel
theorem dX8_count_146 : decode cX8_count 146 = .ok (.ireturn, 1) := by decide +kernel
theorem dX8_count_147 : decode cX8_count 147 = .ok (.aload_n 0, 1) := by decide +kernel
theorem dX8_count_148 : decode cX8_count 148 = .ok (.iconst 0, 1) := by decide +kernel
theorem dX8_count_149 : decode cX8_count 149 = .ok (.invokevirtual 119, 3) := by decide +kernel
theorem dX8_count_152 : decode cX8_count 152 = .ok (.ireturn, 1) := by decide +kernel
theorem dX8_count_153 : decode cX8_count 153 = .ok (.aload_n 0, 1) := by decide +kernel
theorem dX8_count_154 : decode cX8_count 154 = .ok (.invokevirtual 177, 3) := by decide +kernel
theorem dX8_count_157 : decode cX8_count 157 = .ok (.ireturn, 1) := by decide +kernel
theorem dX8_count_158 : decode cX8_count 158 = .ok (.aload_n 0, 1) := by decide +kernel
theorem dX8_count_159 : decode cX8_count 159 = .ok (.getfield 7, 3) := by decide +kernel
theorem dX8_count_162 : decode cX8_count 162 = .ok (.bipush 9, 2) := by decide +kernel
theorem dX8_count_164 : decode cX8_count 164 = .ok (.iaload, 1) := by decide +kernel
theorem dX8_count_165 : decode cX8_count 165 = .ok (.ireturn, 1) := by decide +kernel
theorem dX8_count_166 : decode cX8_count 166 = .ok (.aload_n 0, 1) := by decide +kernel
theorem dX8_count_167 : decode cX8_count 167 = .ok (.getfield 7, 3) := by decide +kernel
theorem dX8_count_170 : decode cX8_count 170 = .ok (.bipush 10, 2) := by decide +kernel
theorem dX8_count_172 : decode cX8_count 172 = .ok (.iaload, 1) := by decide +kernel
theorem dX8_count_173 : decode cX8_count 173 = .ok (.ireturn, 1) := by decide +kernel
theorem dX8_count_174 : decode cX8_count 174 = .ok (.aload_n 0, 1) := by decide +kernel
theorem dX8_count_175 : decode cX8_count 175 = .ok (.getfield 7, 3) := by decide +kernel
theorem dX8_count_178 : decode cX8_count 178 = .ok (.bipush 8, 2) := by decide +kernel
theorem dX8_count_180 : decode cX8_count 180 = .ok (.iaload, 1) := by decide +kernel
theorem dX8_count_181 : decode cX8_count 181 = .ok (.ireturn, 1) := by decide +kernel
theorem dX8_count_182 : decode cX8_count 182 = .ok (.aload_n 0, 1) := by decide +kernel
theorem dX8_count_183 : decode cX8_count 183 = .ok (.bipush (-6), 2) := by decide +kernel
theorem dX8_count_185 : decode cX8_count 185 = .ok (.invokevirtual 180, 3) := by decide +kernel
theorem dX8_count_188 : decode cX8_count 188 = .ok (.aload_n 0, 1) := by decide +kernel
theorem dX8_count_189 : decode cX8_count 189 = .ok (.getfield 183, 3) := by decide +kernel
theorem dX8_count_192 : decode cX8_count 192 = .ok (.ireturn, 1) := by decide +kernel
theorem dX8_count_193 : decode cX8_count 193 = .ok (.aload_n 0, 1) := by decide +kernel
theorem dX8_count_194 : decode cX8_count 194 = .ok (.getfield 186, 3) := by decide +kernel
theorem dX8_count_197 : decode cX8_count 197 = .ok (.ireturn, 1) := by decide +kernel
theorem dX8_count_198 : decode cX8_count 198 = .ok (.aload_n 0, 1) := by decide +kernel
theorem dX8_count_199 : decode cX8_count 199 = .ok (.getfield 34, 3) := by decide +kernel
theorem dX8_count_202 : decode cX8_count 202 = .ok (.ireturn, 1) := by decide +kernel
theorem dX8_count_203 : decode cX8_count 203 = .ok (.bipush (-2), 2) := by decide +kernel
theorem dX8_count_205 : decode cX8_count 205 = .ok (.ireturn, 1) := by decide +kernel
theorem dX8_writesSign_0 : decode cX8_writesSign 0 = .ok (.aload_n 0, 1) := by decide +kernel
theorem dX8_writesSign_1 : decode cX8_writesSign 1 = .ok (.aload_n 0, 1) := by decide +kernel
theorem dX8_writesSign_2 : decode cX8_writesSign 2 = .ok (.getfield 183, 3) := by decide +kernel
theorem dX8_writesSign_5 : decode cX8_writesSign 5 = .ok (.aload_n 0, 1) := by decide +kernel
theorem dX8_writesSign_6 : decode cX8_writesSign 6 = .ok (.getfield 189, 3) := by decide +kernel
theorem dX8_writesSign_9 : decode cX8_writesSign 9 = .ok (.if_icmp .ne 7, 3) := by decide +kernel
theorem dX8_writesSign_12 : decode cX8_writesSign 12 = .ok (.iload_n 1, 1) := by decide +kernel
theorem dX8_writesSign_13 : decode cX8_writesSign 13 = .ok (.goto 7, 3) := by decide +kernel
theorem dX8_writesSign_16 : decode cX8_writesSign 16 = .ok (.aload_n 0, 1) := by decide +kernel
theorem dX8_writesSign_17 : decode cX8_writesSign 17 = .ok (.getfield 192, 3) := by decide +kernel
theorem dX8_writesSign_20 : decode cX8_writesSign 20 = .ok (.putfield 192, 3) := by decide +kernel
theorem dX8_writesSign_23 : decode cX8_writesSign 23 = .ok (.aload_n 0, 1) := by decide +kernel
theorem dX8_writesSign_24 : decode cX8_writesSign 24 = .ok (.dup, 1) := by decide +kernel
theorem dX8_writesSign_25 : decode cX8_writesSign 25 = .ok (.getfield 183, 3) := by decide +kernel
theorem dX8_writesSign_28 : decode cX8_writesSign 28 = .ok (.iconst 1, 1) := by decide +kernel
theorem dX8_writesSign_29 : decode cX8_writesSign 29 = .ok (.iadd, 1) := by decide +kernel
theorem dX8_writesSign_30 : decode cX8_writesSign 30 = .ok (.putfield 183, 3) := by decide +kernel
theorem dX8_writesSign_33 : decode cX8_writesSign 33 = .ok (.return_, 1) := by decide +kernel
theorem dX8_writesSquare_0 : decode cX8_writesSquare 0 = .ok (.aload_n 0, 1) := by decide +kernel
theorem dX8_writesSquare_1 : decode cX8_writesSquare 1 = .ok (.iload_n 1, 1) := by decide +kernel
theorem dX8_writesSquare_2 : decode cX8_writesSquare 2 = .ok (.invokestatic 57, 3) := by decide +kernel
theorem dX8_writesSquare_5 : decode cX8_writesSquare 5 = .ok (.ifCond .ne 8, 3) := by decide +kernel
theorem dX8_writesSquare_8 : decode cX8_writesSquare 8 = .ok (.bipush 111, 2) := by decide +kernel
theorem dX8_writesSquare_10 : decode cX8_writesSquare 10 = .ok (.goto 18, 3) := by decide +kernel
theorem dX8_writesSquare_13 : decode cX8_writesSquare 13 = .ok (.iload_n 1, 1) := by decide +kernel
theorem dX8_writesSquare_14 : decode cX8_writesSquare 14 = .ok (.invokestatic 57, 3) := by decide +kernel
theorem dX8_writesSquare_17 : decode cX8_writesSquare 17 = .ok (.iconst 1, 1) := by decide +kernel
theorem dX8_writesSquare_18 : decode cX8_writesSquare 18 = .ok (.if_icmp .ne 8, 3) := by decide +kernel
theorem dX8_writesSquare_21 : decode cX8_writesSquare 21 = .ok (.bipush 45, 2) := by decide +kernel
theorem dX8_writesSquare_23 : decode cX8_writesSquare 23 = .ok (.goto 5, 3) := by decide +kernel
theorem dX8_writesSquare_26 : decode cX8_writesSquare 26 = .ok (.bipush 61, 2) := by decide +kernel
theorem dX8_writesSquare_28 : decode cX8_writesSquare 28 = .ok (.invokevirtual 195, 3) := by decide +kernel
theorem dX8_writesSquare_31 : decode cX8_writesSquare 31 = .ok (.aload_n 0, 1) := by decide +kernel
theorem dX8_writesSquare_32 : decode cX8_writesSquare 32 = .ok (.getfield 7, 3) := by decide +kernel
theorem dX8_writesSquare_35 : decode cX8_writesSquare 35 = .ok (.bipush 11, 2) := by decide +kernel
theorem dX8_writesSquare_37 : decode cX8_writesSquare 37 = .ok (.iload_n 1, 1) := by decide +kernel
theorem dX8_writesSquare_38 : decode cX8_writesSquare 38 = .ok (.iadd, 1) := by decide +kernel
theorem dX8_writesSquare_39 : decode cX8_writesSquare 39 = .ok (.iaload, 1) := by decide +kernel
theorem dX8_writesSquare_40 : decode cX8_writesSquare 40 = .ok (.bipush (-6), 2) := by decide +kernel
theorem dX8_writesSquare_42 : decode cX8_writesSquare 42 = .ok (.if_icmp .eq 19, 3) := by decide +kernel
theorem dX8_writesSquare_45 : decode cX8_writesSquare 45 = .ok (.aload_n 0, 1) := by decide +kernel
theorem dX8_writesSquare_46 : decode cX8_writesSquare 46 = .ok (.bipush 97, 2) := by decide +kernel
theorem dX8_writesSquare_48 : decode cX8_writesSquare 48 = .ok (.aload_n 0, 1) := by decide +kernel
theorem dX8_writesSquare_49 : decode cX8_writesSquare 49 = .ok (.getfield 7, 3) := by decide +kernel
theorem dX8_writesSquare_52 : decode cX8_writesSquare 52 = .ok (.bipush 11, 2) := by decide +kernel
theorem dX8_writesSquare_54 : decode cX8_writesSquare 54 = .ok (.iload_n 1, 1) := by decide +kernel
theorem dX8_writesSquare_55 : decode cX8_writesSquare 55 = .ok (.iadd, 1) := by decide +kernel
theorem dX8_writesSquare_56 : decode cX8_writesSquare 56 = .ok (.iaload, 1) := by decide +kernel
theorem dX8_writesSquare_57 : decode cX8_writesSquare 57 = .ok (.iadd, 1) := by decide +kernel
theorem dX8_writesSquare_58 : decode cX8_writesSquare 58 = .ok (.invokevirtual 195, 3) := by decide +kernel
theorem dX8_writesSquare_61 : decode cX8_writesSquare 61 = .ok (.aload_n 0, 1) := by decide +kernel
theorem dX8_writesSquare_62 : decode cX8_writesSquare 62 = .ok (.getfield 7, 3) := by decide +kernel
theorem dX8_writesSquare_65 : decode cX8_writesSquare 65 = .ok (.bipush 31, 2) := by decide +kernel
theorem dX8_writesSquare_67 : decode cX8_writesSquare 67 = .ok (.iload_n 1, 1) := by decide +kernel
theorem dX8_writesSquare_68 : decode cX8_writesSquare 68 = .ok (.iadd, 1) := by decide +kernel
theorem dX8_writesSquare_69 : decode cX8_writesSquare 69 = .ok (.iaload, 1) := by decide +kernel
theorem dX8_writesSquare_70 : decode cX8_writesSquare 70 = .ok (.bipush (-6), 2) := by decide +kernel
theorem dX8_writesSquare_72 : decode cX8_writesSquare 72 = .ok (.if_icmp .eq 19, 3) := by decide +kernel
theorem dX8_writesSquare_75 : decode cX8_writesSquare 75 = .ok (.aload_n 0, 1) := by decide +kernel
theorem dX8_writesSquare_76 : decode cX8_writesSquare 76 = .ok (.bipush 97, 2) := by decide +kernel
theorem dX8_writesSquare_78 : decode cX8_writesSquare 78 = .ok (.aload_n 0, 1) := by decide +kernel
theorem dX8_writesSquare_79 : decode cX8_writesSquare 79 = .ok (.getfield 7, 3) := by decide +kernel
theorem dX8_writesSquare_82 : decode cX8_writesSquare 82 = .ok (.bipush 31, 2) := by decide +kernel
theorem dX8_writesSquare_84 : decode cX8_writesSquare 84 = .ok (.iload_n 1, 1) := by decide +kernel
theorem dX8_writesSquare_85 : decode cX8_writesSquare 85 = .ok (.iadd, 1) := by decide +kernel
theorem dX8_writesSquare_86 : decode cX8_writesSquare 86 = .ok (.iaload, 1) := by decide +kernel
theorem dX8_writesSquare_87 : decode cX8_writesSquare 87 = .ok (.iadd, 1) := by decide +kernel
theorem dX8_writesSquare_88 : decode cX8_writesSquare 88 = .ok (.invokevirtual 195, 3) := by decide +kernel
theorem dX8_writesSquare_91 : decode cX8_writesSquare 91 = .ok (.iconst 0, 1) := by decide +kernel
theorem dX8_writesSquare_92 : decode cX8_writesSquare 92 = .ok (.istore_n 2, 1) := by decide +kernel
theorem dX8_writesSquare_93 : decode cX8_writesSquare 93 = .ok (.iload_n 2, 1) := by decide +kernel
theorem dX8_writesSquare_94 : decode cX8_writesSquare 94 = .ok (.aload_n 0, 1) := by decide +kernel
theorem dX8_writesSquare_95 : decode cX8_writesSquare 95 = .ok (.getfield 7, 3) := by decide +kernel
theorem dX8_writesSquare_98 : decode cX8_writesSquare 98 = .ok (.bipush 6, 2) := by decide +kernel
theorem dX8_writesSquare_100 : decode cX8_writesSquare 100 = .ok (.iaload, 1) := by decide +kernel
theorem dX8_writesSquare_101 : decode cX8_writesSquare 101 = .ok (.if_icmp .ge 27, 3) := by decide +kernel
theorem dX8_writesSquare_104 : decode cX8_writesSquare 104 = .ok (.aload_n 0, 1) := by decide +kernel
theorem dX8_writesSquare_105 : decode cX8_writesSquare 105 = .ok (.iload_n 2, 1) := by decide +kernel
theorem dX8_writesSquare_106 : decode cX8_writesSquare 106 = .ok (.iconst 1, 1) := by decide +kernel
theorem dX8_writesSquare_107 : decode cX8_writesSquare 107 = .ok (.invokevirtual 54, 3) := by decide +kernel
theorem dX8_writesSquare_110 : decode cX8_writesSquare 110 = .ok (.iload_n 1, 1) := by decide +kernel
theorem dX8_writesSquare_111 : decode cX8_writesSquare 111 = .ok (.if_icmp .ne 11, 3) := by decide +kernel
theorem dX8_writesSquare_114 : decode cX8_writesSquare 114 = .ok (.aload_n 0, 1) := by decide +kernel
theorem dX8_writesSquare_115 : decode cX8_writesSquare 115 = .ok (.bipush 65, 2) := by decide +kernel
theorem dX8_writesSquare_117 : decode cX8_writesSquare 117 = .ok (.iload_n 2, 1) := by decide +kernel
theorem dX8_writesSquare_118 : decode cX8_writesSquare 118 = .ok (.iadd, 1) := by decide +kernel
theorem dX8_writesSquare_119 : decode cX8_writesSquare 119 = .ok (.invokevirtual 195, 3) := by decide +kernel
theorem dX8_writesSquare_122 : decode cX8_writesSquare 122 = .ok (.iinc 2 1, 3) := by decide +kernel
theorem dX8_writesSquare_125 : decode cX8_writesSquare 125 = .ok (.goto (-32), 3) := by decide +kernel
theorem dX8_writesSquare_128 : decode cX8_writesSquare 128 = .ok (.return_, 1) := by decide +kernel
theorem dX8_writes_0 : decode cX8_writes 0 = .ok (.aload_n 0, 1) := by decide +kernel
theorem dX8_writes_1 : decode cX8_writes 1 = .ok (.iconst 0, 1) := by decide +kernel
theorem dX8_writes_2 : decode cX8_writes 2 = .ok (.putfield 183, 3) := by decide +kernel
theorem dX8_writes_5 : decode cX8_writes 5 = .ok (.aload_n 0, 1) := by decide +kernel
theorem dX8_writes_6 : decode cX8_writes 6 = .ok (.iload_n 1, 1) := by decide +kernel
theorem dX8_writes_7 : decode cX8_writes 7 = .ok (.putfield 189, 3) := by decide +kernel
theorem dX8_writes_10 : decode cX8_writes 10 = .ok (.aload_n 0, 1) := by decide +kernel
theorem dX8_writes_11 : decode cX8_writes 11 = .ok (.iconst (-1), 1) := by decide +kernel
theorem dX8_writes_12 : decode cX8_writes 12 = .ok (.putfield 192, 3) := by decide +kernel
theorem dX8_writes_15 : decode cX8_writes 15 = .ok (.iconst 0, 1) := by decide +kernel
theorem dX8_writes_16 : decode cX8_writes 16 = .ok (.istore_n 2, 1) := by decide +kernel
theorem dX8_writes_17 : decode cX8_writes 17 = .ok (.iload_n 2, 1) := by decide +kernel
theorem dX8_writes_18 : decode cX8_writes 18 = .ok (.bipush 20, 2) := by decide +kernel
theorem dX8_writes_20 : decode cX8_writes 20 = .ok (.if_icmp .ge 14, 3) := by decide +kernel
theorem dX8_writes_23 : decode cX8_writes 23 = .ok (.aload_n 0, 1) := by decide +kernel
theorem dX8_writes_24 : decode cX8_writes 24 = .ok (.iload_n 2, 1) := by decide +kernel
theorem dX8_writes_25 : decode cX8_writes 25 = .ok (.invokevirtual 198, 3) := by decide +kernel
theorem dX8_writes_28 : decode cX8_writes 28 = .ok (.iinc 2 1, 3) := by decide +kernel
theorem dX8_writes_31 : decode cX8_writes 31 = .ok (.goto (-14), 3) := by decide +kernel
theorem dX8_writes_34 : decode cX8_writes 34 = .ok (.return_, 1) := by decide +kernel
theorem dX8_sign_0 : decode cX8_sign 0 = .ok (.aload_n 0, 1) := by decide +kernel
theorem dX8_sign_1 : decode cX8_sign 1 = .ok (.iload_n 1, 1) := by decide +kernel
theorem dX8_sign_2 : decode cX8_sign 2 = .ok (.invokevirtual 180, 3) := by decide +kernel
theorem dX8_sign_5 : decode cX8_sign 5 = .ok (.aload_n 0, 1) := by decide +kernel
theorem dX8_sign_6 : decode cX8_sign 6 = .ok (.getfield 192, 3) := by decide +kernel
theorem dX8_sign_9 : decode cX8_sign 9 = .ok (.ireturn, 1) := by decide +kernel
theorem dX8_chain_0 : decode cX8_chain 0 = .ok (.aload_n 0, 1) := by decide +kernel
theorem dX8_chain_1 : decode cX8_chain 1 = .ok (.iload_n 1, 1) := by decide +kernel
theorem dX8_chain_2 : decode cX8_chain 2 = .ok (.invokevirtual 156, 3) := by decide +kernel
theorem dX8_chain_5 : decode cX8_chain 5 = .ok (.ifCond .eq 11, 3) := by decide +kernel
theorem dX8_chain_8 : decode cX8_chain 8 = .ok (.aload_n 0, 1) := by decide +kernel
theorem dX8_chain_9 : decode cX8_chain 9 = .ok (.iload_n 2, 1) := by decide +kernel
theorem dX8_chain_10 : decode cX8_chain 10 = .ok (.invokevirtual 156, 3) := by decide +kernel
theorem dX8_chain_13 : decode cX8_chain 13 = .ok (.ifCond .ne 5, 3) := by decide +kernel
theorem dX8_chain_16 : decode cX8_chain 16 = .ok (.iconst (-1), 1) := by decide +kernel
theorem dX8_chain_17 : decode cX8_chain 17 = .ok (.ireturn, 1) := by decide +kernel
theorem dX8_chain_18 : decode cX8_chain 18 = .ok (.iconst 0, 1) := by decide +kernel
theorem dX8_chain_19 : decode cX8_chain 19 = .ok (.istore_n 3, 1) := by decide +kernel
theorem dX8_chain_20 : decode cX8_chain 20 = .ok (.iload_n 3, 1) := by decide +kernel
theorem dX8_chain_21 : decode cX8_chain 21 = .ok (.iconst 4, 1) := by decide +kernel
theorem dX8_chain_22 : decode cX8_chain 22 = .ok (.if_icmp .ge 41, 3) := by decide +kernel
theorem dX8_chain_25 : decode cX8_chain 25 = .ok (.aload_n 0, 1) := by decide +kernel
theorem dX8_chain_26 : decode cX8_chain 26 = .ok (.getfield 31, 3) := by decide +kernel
theorem dX8_chain_29 : decode cX8_chain 29 = .ok (.iload_n 3, 1) := by decide +kernel
theorem dX8_chain_30 : decode cX8_chain 30 = .ok (.iload_n 3, 1) := by decide +kernel
theorem dX8_chain_31 : decode cX8_chain 31 = .ok (.aload_n 0, 1) := by decide +kernel
theorem dX8_chain_32 : decode cX8_chain 32 = .ok (.getfield 7, 3) := by decide +kernel
theorem dX8_chain_35 : decode cX8_chain 35 = .ok (.bipush 6, 2) := by decide +kernel
theorem dX8_chain_37 : decode cX8_chain 37 = .ok (.iaload, 1) := by decide +kernel
theorem dX8_chain_38 : decode cX8_chain 38 = .ok (.if_icmp .ge 16, 3) := by decide +kernel
theorem dX8_chain_41 : decode cX8_chain 41 = .ok (.aload_n 0, 1) := by decide +kernel
theorem dX8_chain_42 : decode cX8_chain 42 = .ok (.iload_n 1, 1) := by decide +kernel
theorem dX8_chain_43 : decode cX8_chain 43 = .ok (.iload_n 3, 1) := by decide +kernel
theorem dX8_chain_44 : decode cX8_chain 44 = .ok (.invokevirtual 46, 3) := by decide +kernel
theorem dX8_chain_47 : decode cX8_chain 47 = .ok (.ifCond .le 7, 3) := by decide +kernel
theorem dX8_chain_50 : decode cX8_chain 50 = .ok (.iconst 1, 1) := by decide +kernel
theorem dX8_chain_51 : decode cX8_chain 51 = .ok (.goto 5, 3) := by decide +kernel
theorem dX8_chain_54 : decode cX8_chain 54 = .ok (.bipush (-6), 2) := by decide +kernel
theorem dX8_chain_56 : decode cX8_chain 56 = .ok (.iastore, 1) := by decide +kernel
theorem dX8_chain_57 : decode cX8_chain 57 = .ok (.iinc 3 1, 3) := by decide +kernel
theorem dX8_chain_60 : decode cX8_chain 60 = .ok (.goto (-40), 3) := by decide +kernel
theorem dX8_chain_63 : decode cX8_chain 63 = .ok (.iconst 0, 1) := by decide +kernel
theorem dX8_chain_64 : decode cX8_chain 64 = .ok (.istore_n 3, 1) := by decide +kernel
theorem dX8_chain_65 : decode cX8_chain 65 = .ok (.iload_n 3, 1) := by decide +kernel
theorem dX8_chain_66 : decode cX8_chain 66 = .ok (.iconst 4, 1) := by decide +kernel
theorem dX8_chain_67 : decode cX8_chain 67 = .ok (.if_icmp .ge 129, 3) := by decide +kernel
theorem dX8_chain_70 : decode cX8_chain 70 = .ok (.iconst 0, 1) := by decide +kernel
theorem dX8_chain_71 : decode cX8_chain 71 = .ok (.istore 4, 2) := by decide +kernel
theorem dX8_chain_73 : decode cX8_chain 73 = .ok (.iload 4, 2) := by decide +kernel
theorem dX8_chain_75 : decode cX8_chain 75 = .ok (.iconst 4, 1) := by decide +kernel
theorem dX8_chain_76 : decode cX8_chain 76 = .ok (.if_icmp .ge 114, 3) := by decide +kernel
theorem dX8_chain_79 : decode cX8_chain 79 = .ok (.iconst 0, 1) := by decide +kernel
theorem dX8_chain_80 : decode cX8_chain 80 = .ok (.istore 5, 2) := by decide +kernel
theorem dX8_chain_82 : decode cX8_chain 82 = .ok (.iload 5, 2) := by decide +kernel
theorem dX8_chain_84 : decode cX8_chain 84 = .ok (.iconst 4, 1) := by decide +kernel
theorem dX8_chain_85 : decode cX8_chain 85 = .ok (.if_icmp .ge 99, 3) := by decide +kernel
theorem dX8_chain_88 : decode cX8_chain 88 = .ok (.aload_n 0, 1) := by decide +kernel
theorem dX8_chain_89 : decode cX8_chain 89 = .ok (.getfield 31, 3) := by decide +kernel
theorem dX8_chain_92 : decode cX8_chain 92 = .ok (.iload 4, 2) := by decide +kernel
theorem dX8_chain_94 : decode cX8_chain 94 = .ok (.iaload, 1) := by decide +kernel
theorem dX8_chain_95 : decode cX8_chain 95 = .ok (.ifCond .le 89, 3) := by decide +kernel
theorem dX8_chain_98 : decode cX8_chain 98 = .ok (.aload_n 0, 1) := by decide +kernel
theorem dX8_chain_99 : decode cX8_chain 99 = .ok (.iload 4, 2) := by decide +kernel
theorem dX8_chain_101 : decode cX8_chain 101 = .ok (.iload 5, 2) := by decide +kernel
theorem dX8_chain_103 : decode cX8_chain 103 = .ok (.invokevirtual 46, 3) := by decide +kernel
theorem dX8_chain_106 : decode cX8_chain 106 = .ok (.ifCond .le 38, 3) := by decide +kernel
theorem dX8_chain_109 : decode cX8_chain 109 = .ok (.aload_n 0, 1) := by decide +kernel
theorem dX8_chain_110 : decode cX8_chain 110 = .ok (.getfield 31, 3) := by decide +kernel
theorem dX8_chain_113 : decode cX8_chain 113 = .ok (.iload 5, 2) := by decide +kernel
theorem dX8_chain_115 : decode cX8_chain 115 = .ok (.iaload, 1) := by decide +kernel
theorem dX8_chain_116 : decode cX8_chain 116 = .ok (.bipush (-6), 2) := by decide +kernel
theorem dX8_chain_118 : decode cX8_chain 118 = .ok (.if_icmp .eq 22, 3) := by decide +kernel
theorem dX8_chain_121 : decode cX8_chain 121 = .ok (.aload_n 0, 1) := by decide +kernel
theorem dX8_chain_122 : decode cX8_chain 122 = .ok (.getfield 31, 3) := by decide +kernel
theorem dX8_chain_125 : decode cX8_chain 125 = .ok (.iload 4, 2) := by decide +kernel
theorem dX8_chain_127 : decode cX8_chain 127 = .ok (.iaload, 1) := by decide +kernel
theorem dX8_chain_128 : decode cX8_chain 128 = .ok (.iconst 1, 1) := by decide +kernel
theorem dX8_chain_129 : decode cX8_chain 129 = .ok (.iadd, 1) := by decide +kernel
theorem dX8_chain_130 : decode cX8_chain 130 = .ok (.aload_n 0, 1) := by decide +kernel
theorem dX8_chain_131 : decode cX8_chain 131 = .ok (.getfield 31, 3) := by decide +kernel
theorem dX8_chain_134 : decode cX8_chain 134 = .ok (.iload 5, 2) := by decide +kernel
theorem dX8_chain_136 : decode cX8_chain 136 = .ok (.iaload, 1) := by decide +kernel
theorem dX8_chain_137 : decode cX8_chain 137 = .ok (.if_icmp .ge 7, 3) := by decide +kernel
theorem dX8_chain_140 : decode cX8_chain 140 = .ok (.iconst 1, 1) := by decide +kernel
theorem dX8_chain_141 : decode cX8_chain 141 = .ok (.goto 4, 3) := by decide +kernel
theorem dX8_chain_144 : decode cX8_chain 144 = .ok (.iconst 0, 1) := by decide +kernel
theorem dX8_chain_145 : decode cX8_chain 145 = .ok (.istore 6, 2) := by decide +kernel
theorem dX8_chain_147 : decode cX8_chain 147 = .ok (.aload_n 0, 1) := by decide +kernel
theorem dX8_chain_148 : decode cX8_chain 148 = .ok (.getfield 31, 3) := by decide +kernel
theorem dX8_chain_151 : decode cX8_chain 151 = .ok (.iload 5, 2) := by decide +kernel
theorem dX8_chain_153 : decode cX8_chain 153 = .ok (.iload 6, 2) := by decide +kernel
theorem dX8_chain_155 : decode cX8_chain 155 = .ok (.ifCond .eq 15, 3) := by decide +kernel
theorem dX8_chain_158 : decode cX8_chain 158 = .ok (.aload_n 0, 1) := by decide +kernel
theorem dX8_chain_159 : decode cX8_chain 159 = .ok (.getfield 31, 3) := by decide +kernel
theorem dX8_chain_162 : decode cX8_chain 162 = .ok (.iload 4, 2) := by decide +kernel
theorem dX8_chain_164 : decode cX8_chain 164 = .ok (.iaload, 1) := by decide +kernel
theorem dX8_chain_165 : decode cX8_chain 165 = .ok (.iconst 1, 1) := by decide +kernel
theorem dX8_chain_166 : decode cX8_chain 166 = .ok (.iadd, 1) := by decide +kernel
theorem dX8_chain_167 : decode cX8_chain 167 = .ok (.goto 10, 3) := by decide +kernel
theorem dX8_chain_170 : decode cX8_chain 170 = .ok (.aload_n 0, 1) := by decide +kernel
theorem dX8_chain_171 : decode cX8_chain 171 = .ok (.getfield 31, 3) := by decide +kernel
theorem dX8_chain_174 : decode cX8_chain 174 = .ok (.iload 5, 2) := by decide +kernel
theorem dX8_chain_176 : decode cX8_chain 176 = .ok (.iaload, 1) := by decide +kernel
theorem dX8_chain_177 : decode cX8_chain 177 = .ok (.iastore, 1) := by decide +kernel
theorem dX8_chain_178 : decode cX8_chain 178 = .ok (.iinc 5 1, 3) := by decide +kernel
theorem dX8_chain_181 : decode cX8_chain 181 = .ok (.goto (-99), 3) := by decide +kernel
theorem dX8_chain_184 : decode cX8_chain 184 = .ok (.iinc 4 1, 3) := by decide +kernel
theorem dX8_chain_187 : decode cX8_chain 187 = .ok (.goto (-114), 3) := by decide +kernel
theorem dX8_chain_190 : decode cX8_chain 190 = .ok (.iinc 3 1, 3) := by decide +kernel
theorem dX8_chain_193 : decode cX8_chain 193 = .ok (.goto (-128), 3) := by decide +kernel
theorem dX8_chain_196 : decode cX8_chain 196 = .ok (.aload_n 0, 1) := by decide +kernel
theorem dX8_chain_197 : decode cX8_chain 197 = .ok (.getfield 31, 3) := by decide +kernel
theorem dX8_chain_200 : decode cX8_chain 200 = .ok (.iload_n 2, 1) := by decide +kernel
theorem dX8_chain_201 : decode cX8_chain 201 = .ok (.iaload, 1) := by decide +kernel
theorem dX8_chain_202 : decode cX8_chain 202 = .ok (.ireturn, 1) := by decide +kernel
theorem dX8_emptyIn_0 : decode cX8_emptyIn 0 = .ok (.aload_n 0, 1) := by decide +kernel
theorem dX8_emptyIn_1 : decode cX8_emptyIn 1 = .ok (.iload_n 1, 1) := by decide +kernel
theorem dX8_emptyIn_2 : decode cX8_emptyIn 2 = .ok (.invokevirtual 156, 3) := by decide +kernel
theorem dX8_emptyIn_5 : decode cX8_emptyIn 5 = .ok (.ifCond .ne 5, 3) := by decide +kernel
theorem dX8_emptyIn_8 : decode cX8_emptyIn 8 = .ok (.iconst (-1), 1) := by decide +kernel
theorem dX8_emptyIn_9 : decode cX8_emptyIn 9 = .ok (.ireturn, 1) := by decide +kernel
theorem dX8_emptyIn_10 : decode cX8_emptyIn 10 = .ok (.aload_n 0, 1) := by decide +kernel
theorem dX8_emptyIn_11 : decode cX8_emptyIn 11 = .ok (.getfield 7, 3) := by decide +kernel
theorem dX8_emptyIn_14 : decode cX8_emptyIn 14 = .ok (.iconst 0, 1) := by decide +kernel
theorem dX8_emptyIn_15 : decode cX8_emptyIn 15 = .ok (.aload_n 0, 1) := by decide +kernel
theorem dX8_emptyIn_16 : decode cX8_emptyIn 16 = .ok (.getfield 13, 3) := by decide +kernel
theorem dX8_emptyIn_19 : decode cX8_emptyIn 19 = .ok (.iconst 0, 1) := by decide +kernel
theorem dX8_emptyIn_20 : decode cX8_emptyIn 20 = .ok (.invokestatic 38, 3) := by decide +kernel
theorem dX8_emptyIn_23 : decode cX8_emptyIn 23 = .ok (.iconst 0, 1) := by decide +kernel
theorem dX8_emptyIn_24 : decode cX8_emptyIn 24 = .ok (.istore_n 2, 1) := by decide +kernel
theorem dX8_emptyIn_25 : decode cX8_emptyIn 25 = .ok (.aload_n 0, 1) := by decide +kernel
theorem dX8_emptyIn_26 : decode cX8_emptyIn 26 = .ok (.iload_n 1, 1) := by decide +kernel
theorem dX8_emptyIn_27 : decode cX8_emptyIn 27 = .ok (.iconst 0, 1) := by decide +kernel
theorem dX8_emptyIn_28 : decode cX8_emptyIn 28 = .ok (.invokevirtual 54, 3) := by decide +kernel
theorem dX8_emptyIn_31 : decode cX8_emptyIn 31 = .ok (.ifCond .le 20, 3) := by decide +kernel
theorem dX8_emptyIn_34 : decode cX8_emptyIn 34 = .ok (.iload_n 2, 1) := by decide +kernel
theorem dX8_emptyIn_35 : decode cX8_emptyIn 35 = .ok (.sipush 400, 3) := by decide +kernel
theorem dX8_emptyIn_38 : decode cX8_emptyIn 38 = .ok (.if_icmp .ge 13, 3) := by decide +kernel
theorem dX8_emptyIn_41 : decode cX8_emptyIn 41 = .ok (.aload_n 0, 1) := by decide +kernel
theorem dX8_emptyIn_42 : decode cX8_emptyIn 42 = .ok (.invokevirtual 122, 3) := by decide +kernel
theorem dX8_emptyIn_45 : decode cX8_emptyIn 45 = .ok (.iinc 2 1, 3) := by decide +kernel
theorem dX8_emptyIn_48 : decode cX8_emptyIn 48 = .ok (.goto (-23), 3) := by decide +kernel
theorem dX8_emptyIn_51 : decode cX8_emptyIn 51 = .ok (.aload_n 0, 1) := by decide +kernel
theorem dX8_emptyIn_52 : decode cX8_emptyIn 52 = .ok (.iload_n 1, 1) := by decide +kernel
theorem dX8_emptyIn_53 : decode cX8_emptyIn 53 = .ok (.iconst 0, 1) := by decide +kernel
theorem dX8_emptyIn_54 : decode cX8_emptyIn 54 = .ok (.invokevirtual 54, 3) := by decide +kernel
theorem dX8_emptyIn_57 : decode cX8_emptyIn 57 = .ok (.ifCond .ne 7, 3) := by decide +kernel
theorem dX8_emptyIn_60 : decode cX8_emptyIn 60 = .ok (.iload_n 2, 1) := by decide +kernel
theorem dX8_emptyIn_61 : decode cX8_emptyIn 61 = .ok (.goto 5, 3) := by decide +kernel
theorem dX8_emptyIn_64 : decode cX8_emptyIn 64 = .ok (.bipush (-6), 2) := by decide +kernel
theorem dX8_emptyIn_66 : decode cX8_emptyIn 66 = .ok (.istore_n 3, 1) := by decide +kernel
end
section
theorem dX8_emptyIn_67 : decode cX8_emptyIn 67 = .ok (.aload_n 0, 1) := by decide +kernel
theorem dX8_emptyIn_68 : decode cX8_emptyIn 68 = .ok (.getfield 13, 3) := by decide +kernel
theorem dX8_emptyIn_71 : decode cX8_emptyIn 71 = .ok (.iconst 0, 1) := by decide +kernel
theorem dX8_emptyIn_72 : decode cX8_emptyIn 72 = .ok (.aload_n 0, 1) := by decide +kernel
theorem dX8_emptyIn_73 : decode cX8_emptyIn 73 = .ok (.getfield 7, 3) := by decide +kernel
theorem dX8_emptyIn_76 : decode cX8_emptyIn 76 = .ok (.iconst 0, 1) := by decide +kernel
theorem dX8_emptyIn_77 : decode cX8_emptyIn 77 = .ok (.invokestatic 38, 3) := by decide +kernel
theorem dX8_emptyIn_80 : decode cX8_emptyIn 80 = .ok (.iload_n 3, 1) := by decide +kernel
theorem dX8_emptyIn_81 : decode cX8_emptyIn 81 = .ok (.ireturn, 1) := by decide +kernel
theorem dX8_purseIn_0 : decode cX8_purseIn 0 = .ok (.aload_n 0, 1) := by decide +kernel
theorem dX8_purseIn_1 : decode cX8_purseIn 1 = .ok (.iload_n 1, 1) := by decide +kernel
theorem dX8_purseIn_2 : decode cX8_purseIn 2 = .ok (.invokevirtual 156, 3) := by decide +kernel
theorem dX8_purseIn_5 : decode cX8_purseIn 5 = .ok (.ifCond .ne 5, 3) := by decide +kernel
theorem dX8_purseIn_8 : decode cX8_purseIn 8 = .ok (.iconst (-1), 1) := by decide +kernel
theorem dX8_purseIn_9 : decode cX8_purseIn 9 = .ok (.ireturn, 1) := by decide +kernel
theorem dX8_purseIn_10 : decode cX8_purseIn 10 = .ok (.iload_n 2, 1) := by decide +kernel
theorem dX8_purseIn_11 : decode cX8_purseIn 11 = .ok (.iconst 1, 1) := by decide +kernel
theorem dX8_purseIn_12 : decode cX8_purseIn 12 = .ok (.bipush 99, 2) := by decide +kernel
theorem dX8_purseIn_14 : decode cX8_purseIn 14 = .ok (.invokestatic 42, 3) := by decide +kernel
theorem dX8_purseIn_17 : decode cX8_purseIn 17 = .ok (.ifCond .ne 6, 3) := by decide +kernel
theorem dX8_purseIn_20 : decode cX8_purseIn 20 = .ok (.bipush (-2), 2) := by decide +kernel
theorem dX8_purseIn_22 : decode cX8_purseIn 22 = .ok (.ireturn, 1) := by decide +kernel
theorem dX8_purseIn_23 : decode cX8_purseIn 23 = .ok (.aload_n 0, 1) := by decide +kernel
theorem dX8_purseIn_24 : decode cX8_purseIn 24 = .ok (.getfield 7, 3) := by decide +kernel
theorem dX8_purseIn_27 : decode cX8_purseIn 27 = .ok (.iconst 0, 1) := by decide +kernel
theorem dX8_purseIn_28 : decode cX8_purseIn 28 = .ok (.aload_n 0, 1) := by decide +kernel
theorem dX8_purseIn_29 : decode cX8_purseIn 29 = .ok (.getfield 13, 3) := by decide +kernel
theorem dX8_purseIn_32 : decode cX8_purseIn 32 = .ok (.iconst 0, 1) := by decide +kernel
theorem dX8_purseIn_33 : decode cX8_purseIn 33 = .ok (.invokestatic 38, 3) := by decide +kernel
theorem dX8_purseIn_36 : decode cX8_purseIn 36 = .ok (.aload_n 0, 1) := by decide +kernel
theorem dX8_purseIn_37 : decode cX8_purseIn 37 = .ok (.iload_n 2, 1) := by decide +kernel
theorem dX8_purseIn_38 : decode cX8_purseIn 38 = .ok (.invokevirtual 140, 3) := by decide +kernel
theorem dX8_purseIn_41 : decode cX8_purseIn 41 = .ok (.pop, 1) := by decide +kernel
theorem dX8_purseIn_42 : decode cX8_purseIn 42 = .ok (.aload_n 0, 1) := by decide +kernel
theorem dX8_purseIn_43 : decode cX8_purseIn 43 = .ok (.iload_n 1, 1) := by decide +kernel
theorem dX8_purseIn_44 : decode cX8_purseIn 44 = .ok (.iconst 0, 1) := by decide +kernel
theorem dX8_purseIn_45 : decode cX8_purseIn 45 = .ok (.invokevirtual 54, 3) := by decide +kernel
theorem dX8_purseIn_48 : decode cX8_purseIn 48 = .ok (.istore_n 3, 1) := by decide +kernel
theorem dX8_purseIn_49 : decode cX8_purseIn 49 = .ok (.aload_n 0, 1) := by decide +kernel
theorem dX8_purseIn_50 : decode cX8_purseIn 50 = .ok (.getfield 13, 3) := by decide +kernel
theorem dX8_purseIn_53 : decode cX8_purseIn 53 = .ok (.iconst 0, 1) := by decide +kernel
theorem dX8_purseIn_54 : decode cX8_purseIn 54 = .ok (.aload_n 0, 1) := by decide +kernel
theorem dX8_purseIn_55 : decode cX8_purseIn 55 = .ok (.getfield 7, 3) := by decide +kernel
theorem dX8_purseIn_58 : decode cX8_purseIn 58 = .ok (.iconst 0, 1) := by decide +kernel
theorem dX8_purseIn_59 : decode cX8_purseIn 59 = .ok (.invokestatic 38, 3) := by decide +kernel
theorem dX8_purseIn_62 : decode cX8_purseIn 62 = .ok (.iload_n 3, 1) := by decide +kernel
theorem dX8_purseIn_63 : decode cX8_purseIn 63 = .ok (.ireturn, 1) := by decide +kernel
theorem dX8_bestSeed_0 : decode cX8_bestSeed 0 = .ok (.aload_n 0, 1) := by decide +kernel
theorem dX8_bestSeed_1 : decode cX8_bestSeed 1 = .ok (.iload_n 1, 1) := by decide +kernel
theorem dX8_bestSeed_2 : decode cX8_bestSeed 2 = .ok (.invokevirtual 156, 3) := by decide +kernel
theorem dX8_bestSeed_5 : decode cX8_bestSeed 5 = .ok (.ifCond .ne 5, 3) := by decide +kernel
theorem dX8_bestSeed_8 : decode cX8_bestSeed 8 = .ok (.iconst (-1), 1) := by decide +kernel
theorem dX8_bestSeed_9 : decode cX8_bestSeed 9 = .ok (.ireturn, 1) := by decide +kernel
theorem dX8_bestSeed_10 : decode cX8_bestSeed 10 = .ok (.iload_n 2, 1) := by decide +kernel
theorem dX8_bestSeed_11 : decode cX8_bestSeed 11 = .ok (.iconst 1, 1) := by decide +kernel
theorem dX8_bestSeed_12 : decode cX8_bestSeed 12 = .ok (.bipush 60, 2) := by decide +kernel
theorem dX8_bestSeed_14 : decode cX8_bestSeed 14 = .ok (.invokestatic 42, 3) := by decide +kernel
theorem dX8_bestSeed_17 : decode cX8_bestSeed 17 = .ok (.ifCond .ne 6, 3) := by decide +kernel
theorem dX8_bestSeed_20 : decode cX8_bestSeed 20 = .ok (.bipush (-2), 2) := by decide +kernel
theorem dX8_bestSeed_22 : decode cX8_bestSeed 22 = .ok (.ireturn, 1) := by decide +kernel
theorem dX8_bestSeed_23 : decode cX8_bestSeed 23 = .ok (.aload_n 0, 1) := by decide +kernel
theorem dX8_bestSeed_24 : decode cX8_bestSeed 24 = .ok (.getfield 7, 3) := by decide +kernel
theorem dX8_bestSeed_27 : decode cX8_bestSeed 27 = .ok (.iconst 0, 1) := by decide +kernel
theorem dX8_bestSeed_28 : decode cX8_bestSeed 28 = .ok (.aload_n 0, 1) := by decide +kernel
theorem dX8_bestSeed_29 : decode cX8_bestSeed 29 = .ok (.getfield 13, 3) := by decide +kernel
theorem dX8_bestSeed_32 : decode cX8_bestSeed 32 = .ok (.iconst 0, 1) := by decide +kernel
theorem dX8_bestSeed_33 : decode cX8_bestSeed 33 = .ok (.invokestatic 38, 3) := by decide +kernel
theorem dX8_bestSeed_36 : decode cX8_bestSeed 36 = .ok (.bipush (-6), 2) := by decide +kernel
theorem dX8_bestSeed_38 : decode cX8_bestSeed 38 = .ok (.istore_n 3, 1) := by decide +kernel
theorem dX8_bestSeed_39 : decode cX8_bestSeed 39 = .ok (.iconst 0, 1) := by decide +kernel
theorem dX8_bestSeed_40 : decode cX8_bestSeed 40 = .ok (.istore 4, 2) := by decide +kernel
theorem dX8_bestSeed_42 : decode cX8_bestSeed 42 = .ok (.iconst 0, 1) := by decide +kernel
theorem dX8_bestSeed_43 : decode cX8_bestSeed 43 = .ok (.istore 5, 2) := by decide +kernel
theorem dX8_bestSeed_45 : decode cX8_bestSeed 45 = .ok (.iload 5, 2) := by decide +kernel
theorem dX8_bestSeed_47 : decode cX8_bestSeed 47 = .ok (.bipush 50, 2) := by decide +kernel
theorem dX8_bestSeed_49 : decode cX8_bestSeed 49 = .ok (.if_icmp .ge 103, 3) := by decide +kernel
theorem dX8_bestSeed_52 : decode cX8_bestSeed 52 = .ok (.aload_n 0, 1) := by decide +kernel
theorem dX8_bestSeed_53 : decode cX8_bestSeed 53 = .ok (.getfield 7, 3) := by decide +kernel
theorem dX8_bestSeed_56 : decode cX8_bestSeed 56 = .ok (.bipush 8, 2) := by decide +kernel
theorem dX8_bestSeed_58 : decode cX8_bestSeed 58 = .ok (.iload 5, 2) := by decide +kernel
theorem dX8_bestSeed_60 : decode cX8_bestSeed 60 = .ok (.iastore, 1) := by decide +kernel
theorem dX8_bestSeed_61 : decode cX8_bestSeed 61 = .ok (.aload_n 0, 1) := by decide +kernel
theorem dX8_bestSeed_62 : decode cX8_bestSeed 62 = .ok (.iload_n 2, 1) := by decide +kernel
theorem dX8_bestSeed_63 : decode cX8_bestSeed 63 = .ok (.invokevirtual 140, 3) := by decide +kernel
theorem dX8_bestSeed_66 : decode cX8_bestSeed 66 = .ok (.pop, 1) := by decide +kernel
theorem dX8_bestSeed_67 : decode cX8_bestSeed 67 = .ok (.aload_n 0, 1) := by decide +kernel
theorem dX8_bestSeed_68 : decode cX8_bestSeed 68 = .ok (.iload_n 1, 1) := by decide +kernel
theorem dX8_bestSeed_69 : decode cX8_bestSeed 69 = .ok (.iconst 0, 1) := by decide +kernel
theorem dX8_bestSeed_70 : decode cX8_bestSeed 70 = .ok (.invokevirtual 54, 3) := by decide +kernel
theorem dX8_bestSeed_73 : decode cX8_bestSeed 73 = .ok (.aload_n 0, 1) := by decide +kernel
theorem dX8_bestSeed_74 : decode cX8_bestSeed 74 = .ok (.iload_n 1, 1) := by decide +kernel
theorem dX8_bestSeed_75 : decode cX8_bestSeed 75 = .ok (.invokevirtual 165, 3) := by decide +kernel
theorem dX8_bestSeed_78 : decode cX8_bestSeed 78 = .ok (.iadd, 1) := by decide +kernel
theorem dX8_bestSeed_79 : decode cX8_bestSeed 79 = .ok (.aload_n 0, 1) := by decide +kernel
theorem dX8_bestSeed_80 : decode cX8_bestSeed 80 = .ok (.iload_n 1, 1) := by decide +kernel
theorem dX8_bestSeed_81 : decode cX8_bestSeed 81 = .ok (.invokevirtual 61, 3) := by decide +kernel
theorem dX8_bestSeed_84 : decode cX8_bestSeed 84 = .ok (.isub, 1) := by decide +kernel
theorem dX8_bestSeed_85 : decode cX8_bestSeed 85 = .ok (.istore 6, 2) := by decide +kernel
theorem dX8_bestSeed_87 : decode cX8_bestSeed 87 = .ok (.aload_n 0, 1) := by decide +kernel
theorem dX8_bestSeed_88 : decode cX8_bestSeed 88 = .ok (.getfield 13, 3) := by decide +kernel
theorem dX8_bestSeed_91 : decode cX8_bestSeed 91 = .ok (.iconst 0, 1) := by decide +kernel
theorem dX8_bestSeed_92 : decode cX8_bestSeed 92 = .ok (.aload_n 0, 1) := by decide +kernel
theorem dX8_bestSeed_93 : decode cX8_bestSeed 93 = .ok (.getfield 7, 3) := by decide +kernel
theorem dX8_bestSeed_96 : decode cX8_bestSeed 96 = .ok (.iconst 0, 1) := by decide +kernel
theorem dX8_bestSeed_97 : decode cX8_bestSeed 97 = .ok (.invokestatic 38, 3) := by decide +kernel
theorem dX8_bestSeed_100 : decode cX8_bestSeed 100 = .ok (.iload_n 3, 1) := by decide +kernel
theorem dX8_bestSeed_101 : decode cX8_bestSeed 101 = .ok (.bipush (-6), 2) := by decide +kernel
theorem dX8_bestSeed_103 : decode cX8_bestSeed 103 = .ok (.if_icmp .eq 10, 3) := by decide +kernel
theorem dX8_bestSeed_106 : decode cX8_bestSeed 106 = .ok (.iload 6, 2) := by decide +kernel
theorem dX8_bestSeed_108 : decode cX8_bestSeed 108 = .ok (.iload 4, 2) := by decide +kernel
theorem dX8_bestSeed_110 : decode cX8_bestSeed 110 = .ok (.if_icmp .le 7, 3) := by decide +kernel
theorem dX8_bestSeed_113 : decode cX8_bestSeed 113 = .ok (.iconst 1, 1) := by decide +kernel
theorem dX8_bestSeed_114 : decode cX8_bestSeed 114 = .ok (.goto 4, 3) := by decide +kernel
theorem dX8_bestSeed_117 : decode cX8_bestSeed 117 = .ok (.iconst 0, 1) := by decide +kernel
theorem dX8_bestSeed_118 : decode cX8_bestSeed 118 = .ok (.istore 7, 2) := by decide +kernel
theorem dX8_bestSeed_120 : decode cX8_bestSeed 120 = .ok (.iload 7, 2) := by decide +kernel
theorem dX8_bestSeed_122 : decode cX8_bestSeed 122 = .ok (.ifCond .eq 8, 3) := by decide +kernel
theorem dX8_bestSeed_125 : decode cX8_bestSeed 125 = .ok (.iload 5, 2) := by decide +kernel
theorem dX8_bestSeed_127 : decode cX8_bestSeed 127 = .ok (.goto 4, 3) := by decide +kernel
theorem dX8_bestSeed_130 : decode cX8_bestSeed 130 = .ok (.iload_n 3, 1) := by decide +kernel
theorem dX8_bestSeed_131 : decode cX8_bestSeed 131 = .ok (.istore_n 3, 1) := by decide +kernel
theorem dX8_bestSeed_132 : decode cX8_bestSeed 132 = .ok (.iload 7, 2) := by decide +kernel
theorem dX8_bestSeed_134 : decode cX8_bestSeed 134 = .ok (.ifCond .eq 8, 3) := by decide +kernel
theorem dX8_bestSeed_137 : decode cX8_bestSeed 137 = .ok (.iload 6, 2) := by decide +kernel
theorem dX8_bestSeed_139 : decode cX8_bestSeed 139 = .ok (.goto 5, 3) := by decide +kernel
theorem dX8_bestSeed_142 : decode cX8_bestSeed 142 = .ok (.iload 4, 2) := by decide +kernel
theorem dX8_bestSeed_144 : decode cX8_bestSeed 144 = .ok (.istore 4, 2) := by decide +kernel
theorem dX8_bestSeed_146 : decode cX8_bestSeed 146 = .ok (.iinc 5 1, 3) := by decide +kernel
theorem dX8_bestSeed_149 : decode cX8_bestSeed 149 = .ok (.goto (-104), 3) := by decide +kernel
theorem dX8_bestSeed_152 : decode cX8_bestSeed 152 = .ok (.iload_n 3, 1) := by decide +kernel
theorem dX8_bestSeed_153 : decode cX8_bestSeed 153 = .ok (.ireturn, 1) := by decide +kernel
theorem dX8_put_0 : decode cX8_put 0 = .ok (.iconst 0, 1) := by decide +kernel
theorem dX8_put_1 : decode cX8_put 1 = .ok (.istore_n 3, 1) := by decide +kernel
theorem dX8_put_2 : decode cX8_put 2 = .ok (.lload_n 1, 1) := by decide +kernel
theorem dX8_put_3 : decode cX8_put 3 = .ok (.lstore 4, 2) := by decide +kernel
theorem dX8_put_5 : decode cX8_put 5 = .ok (.iconst 1, 1) := by decide +kernel
theorem dX8_put_6 : decode cX8_put 6 = .ok (.istore 6, 2) := by decide +kernel
theorem dX8_put_8 : decode cX8_put 8 = .ok (.iload_n 3, 1) := by decide +kernel
theorem dX8_put_9 : decode cX8_put 9 = .ok (.bipush 8, 2) := by decide +kernel
theorem dX8_put_11 : decode cX8_put 11 = .ok (.if_icmp .ge 56, 3) := by decide +kernel
theorem dX8_put_14 : decode cX8_put 14 = .ok (.lload 4, 2) := by decide +kernel
theorem dX8_put_16 : decode cX8_put 16 = .ok (.ldc2_w 201, 3) := by decide +kernel
theorem dX8_put_19 : decode cX8_put 19 = .ok (.land, 1) := by decide +kernel
theorem dX8_put_20 : decode cX8_put 20 = .ok (.lconst 0, 1) := by decide +kernel
theorem dX8_put_21 : decode cX8_put 21 = .ok (.lcmp, 1) := by decide +kernel
theorem dX8_put_22 : decode cX8_put 22 = .ok (.ifCond .eq 45, 3) := by decide +kernel
theorem dX8_put_25 : decode cX8_put 25 = .ok (.iload 6, 2) := by decide +kernel
theorem dX8_put_27 : decode cX8_put 27 = .ok (.ifCond .eq 24, 3) := by decide +kernel
theorem dX8_put_30 : decode cX8_put 30 = .ok (.lload 4, 2) := by decide +kernel
theorem dX8_put_32 : decode cX8_put 32 = .ok (.ldc2_w 201, 3) := by decide +kernel
theorem dX8_put_35 : decode cX8_put 35 = .ok (.land, 1) := by decide +kernel
theorem dX8_put_36 : decode cX8_put 36 = .ok (.l2i, 1) := by decide +kernel
theorem dX8_put_37 : decode cX8_put 37 = .ok (.bipush 33, 2) := by decide +kernel
theorem dX8_put_39 : decode cX8_put 39 = .ok (.bipush 126, 2) := by decide +kernel
theorem dX8_put_41 : decode cX8_put 41 = .ok (.invokestatic 42, 3) := by decide +kernel
theorem dX8_put_44 : decode cX8_put 44 = .ok (.ifCond .eq 7, 3) := by decide +kernel
theorem dX8_put_47 : decode cX8_put 47 = .ok (.iconst 1, 1) := by decide +kernel
theorem dX8_put_48 : decode cX8_put 48 = .ok (.goto 4, 3) := by decide +kernel
theorem dX8_put_51 : decode cX8_put 51 = .ok (.iconst 0, 1) := by decide +kernel
theorem dX8_put_52 : decode cX8_put 52 = .ok (.istore 6, 2) := by decide +kernel
theorem dX8_put_54 : decode cX8_put 54 = .ok (.lload 4, 2) := by decide +kernel
theorem dX8_put_56 : decode cX8_put 56 = .ok (.bipush 8, 2) := by decide +kernel
theorem dX8_put_58 : decode cX8_put 58 = .ok (.lushr, 1) := by decide +kernel
theorem dX8_put_59 : decode cX8_put 59 = .ok (.lstore 4, 2) := by decide +kernel
theorem dX8_put_61 : decode cX8_put 61 = .ok (.iinc 3 1, 3) := by decide +kernel
theorem dX8_put_64 : decode cX8_put 64 = .ok (.goto (-56), 3) := by decide +kernel
theorem dX8_put_67 : decode cX8_put 67 = .ok (.iload_n 3, 1) := by decide +kernel
theorem dX8_put_68 : decode cX8_put 68 = .ok (.ifCond .eq 15, 3) := by decide +kernel
theorem dX8_put_71 : decode cX8_put 71 = .ok (.iload 6, 2) := by decide +kernel
theorem dX8_put_73 : decode cX8_put 73 = .ok (.ifCond .eq 10, 3) := by decide +kernel
theorem dX8_put_76 : decode cX8_put 76 = .ok (.lload 4, 2) := by decide +kernel
theorem dX8_put_78 : decode cX8_put 78 = .ok (.lconst 0, 1) := by decide +kernel
theorem dX8_put_79 : decode cX8_put 79 = .ok (.lcmp, 1) := by decide +kernel
theorem dX8_put_80 : decode cX8_put 80 = .ok (.ifCond .eq 6, 3) := by decide +kernel
theorem dX8_put_83 : decode cX8_put 83 = .ok (.bipush (-2), 2) := by decide +kernel
theorem dX8_put_85 : decode cX8_put 85 = .ok (.ireturn, 1) := by decide +kernel
theorem dX8_put_86 : decode cX8_put 86 = .ok (.aload_n 0, 1) := by decide +kernel
theorem dX8_put_87 : decode cX8_put 87 = .ok (.getfield 186, 3) := by decide +kernel
theorem dX8_put_90 : decode cX8_put 90 = .ok (.iload_n 3, 1) := by decide +kernel
theorem dX8_put_91 : decode cX8_put 91 = .ok (.iadd, 1) := by decide +kernel
theorem dX8_put_92 : decode cX8_put 92 = .ok (.bipush 80, 2) := by decide +kernel
theorem dX8_put_94 : decode cX8_put 94 = .ok (.if_icmp .le 6, 3) := by decide +kernel
theorem dX8_put_97 : decode cX8_put 97 = .ok (.bipush (-4), 2) := by decide +kernel
theorem dX8_put_99 : decode cX8_put 99 = .ok (.ireturn, 1) := by decide +kernel
theorem dX8_put_100 : decode cX8_put 100 = .ok (.iload_n 3, 1) := by decide +kernel
theorem dX8_put_101 : decode cX8_put 101 = .ok (.iconst 1, 1) := by decide +kernel
theorem dX8_put_102 : decode cX8_put 102 = .ok (.isub, 1) := by decide +kernel
theorem dX8_put_103 : decode cX8_put 103 = .ok (.istore 7, 2) := by decide +kernel
theorem dX8_put_105 : decode cX8_put 105 = .ok (.iload 7, 2) := by decide +kernel
theorem dX8_put_107 : decode cX8_put 107 = .ok (.ifCond .lt 40, 3) := by decide +kernel
theorem dX8_put_110 : decode cX8_put 110 = .ok (.aload_n 0, 1) := by decide +kernel
theorem dX8_put_111 : decode cX8_put 111 = .ok (.getfield 25, 3) := by decide +kernel
theorem dX8_put_114 : decode cX8_put 114 = .ok (.aload_n 0, 1) := by decide +kernel
theorem dX8_put_115 : decode cX8_put 115 = .ok (.getfield 186, 3) := by decide +kernel
theorem dX8_put_118 : decode cX8_put 118 = .ok (.lload_n 1, 1) := by decide +kernel
theorem dX8_put_119 : decode cX8_put 119 = .ok (.bipush 8, 2) := by decide +kernel
theorem dX8_put_121 : decode cX8_put 121 = .ok (.iload 7, 2) := by decide +kernel
theorem dX8_put_123 : decode cX8_put 123 = .ok (.imul, 1) := by decide +kernel
theorem dX8_put_124 : decode cX8_put 124 = .ok (.lushr, 1) := by decide +kernel
theorem dX8_put_125 : decode cX8_put 125 = .ok (.ldc2_w 201, 3) := by decide +kernel
theorem dX8_put_128 : decode cX8_put 128 = .ok (.land, 1) := by decide +kernel
theorem dX8_put_129 : decode cX8_put 129 = .ok (.l2i, 1) := by decide +kernel
theorem dX8_put_130 : decode cX8_put 130 = .ok (.iastore, 1) := by decide +kernel
theorem dX8_put_131 : decode cX8_put 131 = .ok (.aload_n 0, 1) := by decide +kernel
theorem dX8_put_132 : decode cX8_put 132 = .ok (.dup, 1) := by decide +kernel
theorem dX8_put_133 : decode cX8_put 133 = .ok (.getfield 186, 3) := by decide +kernel
theorem dX8_put_136 : decode cX8_put 136 = .ok (.iconst 1, 1) := by decide +kernel
theorem dX8_put_137 : decode cX8_put 137 = .ok (.iadd, 1) := by decide +kernel
theorem dX8_put_138 : decode cX8_put 138 = .ok (.putfield 186, 3) := by decide +kernel
theorem dX8_put_141 : decode cX8_put 141 = .ok (.iinc 7 (-1), 3) := by decide +kernel
theorem dX8_put_144 : decode cX8_put 144 = .ok (.goto (-39), 3) := by decide +kernel
theorem dX8_put_147 : decode cX8_put 147 = .ok (.aload_n 0, 1) := by decide +kernel
theorem dX8_put_148 : decode cX8_put 148 = .ok (.getfield 186, 3) := by decide +kernel
theorem dX8_put_151 : decode cX8_put 151 = .ok (.ireturn, 1) := by decide +kernel
theorem dX8_wipe_0 : decode cX8_wipe 0 = .ok (.aload_n 0, 1) := by decide +kernel
theorem dX8_wipe_1 : decode cX8_wipe 1 = .ok (.getfield 186, 3) := by decide +kernel
theorem dX8_wipe_4 : decode cX8_wipe 4 = .ok (.istore_n 1, 1) := by decide +kernel
theorem dX8_wipe_5 : decode cX8_wipe 5 = .ok (.aload_n 0, 1) := by decide +kernel
theorem dX8_wipe_6 : decode cX8_wipe 6 = .ok (.iconst 0, 1) := by decide +kernel
theorem dX8_wipe_7 : decode cX8_wipe 7 = .ok (.putfield 186, 3) := by decide +kernel
theorem dX8_wipe_10 : decode cX8_wipe 10 = .ok (.iload_n 1, 1) := by decide +kernel
theorem dX8_wipe_11 : decode cX8_wipe 11 = .ok (.ireturn, 1) := by decide +kernel
theorem dX8_character_0 : decode cX8_character 0 = .ok (.iload_n 1, 1) := by decide +kernel
theorem dX8_character_1 : decode cX8_character 1 = .ok (.aload_n 0, 1) := by decide +kernel
theorem dX8_character_2 : decode cX8_character 2 = .ok (.getfield 186, 3) := by decide +kernel
theorem dX8_character_5 : decode cX8_character 5 = .ok (.if_icmp .ge 12, 3) := by decide +kernel
theorem dX8_character_8 : decode cX8_character 8 = .ok (.aload_n 0, 1) := by decide +kernel
theorem dX8_character_9 : decode cX8_character 9 = .ok (.getfield 25, 3) := by decide +kernel
theorem dX8_character_12 : decode cX8_character 12 = .ok (.iload_n 1, 1) := by decide +kernel
theorem dX8_character_13 : decode cX8_character 13 = .ok (.iaload, 1) := by decide +kernel
theorem dX8_character_14 : decode cX8_character 14 = .ok (.goto 4, 3) := by decide +kernel
theorem dX8_character_17 : decode cX8_character 17 = .ok (.iconst (-1), 1) := by decide +kernel
theorem dX8_character_18 : decode cX8_character 18 = .ok (.ireturn, 1) := by decide +kernel
theorem dX8_isNext_0 : decode cX8_isNext 0 = .ok (.aload_n 0, 1) := by decide +kernel
theorem dX8_isNext_1 : decode cX8_isNext 1 = .ok (.aload_n 0, 1) := by decide +kernel
theorem dX8_isNext_2 : decode cX8_isNext 2 = .ok (.getfield 203, 3) := by decide +kernel
theorem dX8_isNext_5 : decode cX8_isNext 5 = .ok (.invokevirtual 206, 3) := by decide +kernel
theorem dX8_isNext_8 : decode cX8_isNext 8 = .ok (.iload_n 1, 1) := by decide +kernel
theorem dX8_isNext_9 : decode cX8_isNext 9 = .ok (.if_icmp .ne 7, 3) := by decide +kernel
theorem dX8_isNext_12 : decode cX8_isNext 12 = .ok (.iconst 1, 1) := by decide +kernel
theorem dX8_isNext_13 : decode cX8_isNext 13 = .ok (.goto 4, 3) := by decide +kernel
theorem dX8_isNext_16 : decode cX8_isNext 16 = .ok (.iconst 0, 1) := by decide +kernel
theorem dX8_isNext_17 : decode cX8_isNext 17 = .ok (.istore_n 2, 1) := by decide +kernel
theorem dX8_isNext_18 : decode cX8_isNext 18 = .ok (.aload_n 0, 1) := by decide +kernel
theorem dX8_isNext_19 : decode cX8_isNext 19 = .ok (.dup, 1) := by decide +kernel
theorem dX8_isNext_20 : decode cX8_isNext 20 = .ok (.getfield 203, 3) := by decide +kernel
theorem dX8_isNext_23 : decode cX8_isNext 23 = .ok (.iload_n 2, 1) := by decide +kernel
theorem dX8_isNext_24 : decode cX8_isNext 24 = .ok (.ifCond .eq 7, 3) := by decide +kernel
theorem dX8_isNext_27 : decode cX8_isNext 27 = .ok (.iconst 1, 1) := by decide +kernel
theorem dX8_isNext_28 : decode cX8_isNext 28 = .ok (.goto 4, 3) := by decide +kernel
theorem dX8_isNext_31 : decode cX8_isNext 31 = .ok (.iconst 0, 1) := by decide +kernel
theorem dX8_isNext_32 : decode cX8_isNext 32 = .ok (.iadd, 1) := by decide +kernel
theorem dX8_isNext_33 : decode cX8_isNext 33 = .ok (.putfield 203, 3) := by decide +kernel
theorem dX8_isNext_36 : decode cX8_isNext 36 = .ok (.iload_n 2, 1) := by decide +kernel
theorem dX8_isNext_37 : decode cX8_isNext 37 = .ok (.ireturn, 1) := by decide +kernel
theorem dX8_isDigit_0 : decode cX8_isDigit 0 = .ok (.aload_n 0, 1) := by decide +kernel
theorem dX8_isDigit_1 : decode cX8_isDigit 1 = .ok (.aload_n 0, 1) := by decide +kernel
theorem dX8_isDigit_2 : decode cX8_isDigit 2 = .ok (.getfield 203, 3) := by decide +kernel
theorem dX8_isDigit_5 : decode cX8_isDigit 5 = .ok (.invokevirtual 206, 3) := by decide +kernel
theorem dX8_isDigit_8 : decode cX8_isDigit 8 = .ok (.bipush 48, 2) := by decide +kernel
theorem dX8_isDigit_10 : decode cX8_isDigit 10 = .ok (.bipush 57, 2) := by decide +kernel
theorem dX8_isDigit_12 : decode cX8_isDigit 12 = .ok (.invokestatic 42, 3) := by decide +kernel
theorem dX8_isDigit_15 : decode cX8_isDigit 15 = .ok (.ireturn, 1) := by decide +kernel
theorem dX8_takesNumber_0 : decode cX8_takesNumber 0 = .ok (.aload_n 0, 1) := by decide +kernel
theorem dX8_takesNumber_1 : decode cX8_takesNumber 1 = .ok (.invokevirtual 209, 3) := by decide +kernel
theorem dX8_takesNumber_4 : decode cX8_takesNumber 4 = .ok (.ifCond .ne 5, 3) := by decide +kernel
theorem dX8_takesNumber_7 : decode cX8_takesNumber 7 = .ok (.iconst 0, 1) := by decide +kernel
theorem dX8_takesNumber_8 : decode cX8_takesNumber 8 = .ok (.ireturn, 1) := by decide +kernel
theorem dX8_takesNumber_9 : decode cX8_takesNumber 9 = .ok (.aload_n 0, 1) := by decide +kernel
theorem dX8_takesNumber_10 : decode cX8_takesNumber 10 = .ok (.aload_n 0, 1) := by decide +kernel
theorem dX8_takesNumber_11 : decode cX8_takesNumber 11 = .ok (.aload_n 0, 1) := by decide +kernel
theorem dX8_takesNumber_12 : decode cX8_takesNumber 12 = .ok (.getfield 203, 3) := by decide +kernel
theorem dX8_takesNumber_15 : decode cX8_takesNumber 15 = .ok (.invokevirtual 206, 3) := by decide +kernel
theorem dX8_takesNumber_18 : decode cX8_takesNumber 18 = .ok (.bipush 48, 2) := by decide +kernel
theorem dX8_takesNumber_20 : decode cX8_takesNumber 20 = .ok (.isub, 1) := by decide +kernel
theorem dX8_takesNumber_21 : decode cX8_takesNumber 21 = .ok (.putfield 213, 3) := by decide +kernel
theorem dX8_takesNumber_24 : decode cX8_takesNumber 24 = .ok (.aload_n 0, 1) := by decide +kernel
theorem dX8_takesNumber_25 : decode cX8_takesNumber 25 = .ok (.dup, 1) := by decide +kernel
theorem dX8_takesNumber_26 : decode cX8_takesNumber 26 = .ok (.getfield 203, 3) := by decide +kernel
theorem dX8_takesNumber_29 : decode cX8_takesNumber 29 = .ok (.iconst 1, 1) := by decide +kernel
theorem dX8_takesNumber_30 : decode cX8_takesNumber 30 = .ok (.iadd, 1) := by decide +kernel
theorem dX8_takesNumber_31 : decode cX8_takesNumber 31 = .ok (.putfield 203, 3) := by decide +kernel
theorem dX8_takesNumber_34 : decode cX8_takesNumber 34 = .ok (.aload_n 0, 1) := by decide +kernel
theorem dX8_takesNumber_35 : decode cX8_takesNumber 35 = .ok (.getfield 213, 3) := by decide +kernel
theorem dX8_takesNumber_38 : decode cX8_takesNumber 38 = .ok (.ifCond .le 57, 3) := by decide +kernel
theorem dX8_takesNumber_41 : decode cX8_takesNumber 41 = .ok (.bipush 10, 2) := by decide +kernel
theorem dX8_takesNumber_43 : decode cX8_takesNumber 43 = .ok (.aload_n 0, 1) := by decide +kernel
theorem dX8_takesNumber_44 : decode cX8_takesNumber 44 = .ok (.getfield 213, 3) := by decide +kernel
theorem dX8_takesNumber_47 : decode cX8_takesNumber 47 = .ok (.imul, 1) := by decide +kernel
theorem dX8_takesNumber_48 : decode cX8_takesNumber 48 = .ok (.iload_n 1, 1) := by decide +kernel
theorem dX8_takesNumber_49 : decode cX8_takesNumber 49 = .ok (.if_icmp .ge 46, 3) := by decide +kernel
theorem dX8_takesNumber_52 : decode cX8_takesNumber 52 = .ok (.aload_n 0, 1) := by decide +kernel
theorem dX8_takesNumber_53 : decode cX8_takesNumber 53 = .ok (.invokevirtual 209, 3) := by decide +kernel
theorem dX8_takesNumber_56 : decode cX8_takesNumber 56 = .ok (.ifCond .eq 39, 3) := by decide +kernel
theorem dX8_takesNumber_59 : decode cX8_takesNumber 59 = .ok (.aload_n 0, 1) := by decide +kernel
theorem dX8_takesNumber_60 : decode cX8_takesNumber 60 = .ok (.bipush 10, 2) := by decide +kernel
theorem dX8_takesNumber_62 : decode cX8_takesNumber 62 = .ok (.aload_n 0, 1) := by decide +kernel
theorem dX8_takesNumber_63 : decode cX8_takesNumber 63 = .ok (.getfield 213, 3) := by decide +kernel
theorem dX8_takesNumber_66 : decode cX8_takesNumber 66 = .ok (.imul, 1) := by decide +kernel
theorem dX8_takesNumber_67 : decode cX8_takesNumber 67 = .ok (.aload_n 0, 1) := by decide +kernel
theorem dX8_takesNumber_68 : decode cX8_takesNumber 68 = .ok (.aload_n 0, 1) := by decide +kernel
theorem dX8_takesNumber_69 : decode cX8_takesNumber 69 = .ok (.getfield 203, 3) := by decide +kernel
theorem dX8_takesNumber_72 : decode cX8_takesNumber 72 = .ok (.invokevirtual 206, 3) := by decide +kernel
theorem dX8_takesNumber_75 : decode cX8_takesNumber 75 = .ok (.iadd, 1) := by decide +kernel
theorem dX8_takesNumber_76 : decode cX8_takesNumber 76 = .ok (.bipush 48, 2) := by decide +kernel
theorem dX8_takesNumber_78 : decode cX8_takesNumber 78 = .ok (.isub, 1) := by decide +kernel
theorem dX8_takesNumber_79 : decode cX8_takesNumber 79 = .ok (.putfield 213, 3) := by decide +kernel
theorem dX8_takesNumber_82 : decode cX8_takesNumber 82 = .ok (.aload_n 0, 1) := by decide +kernel
theorem dX8_takesNumber_83 : decode cX8_takesNumber 83 = .ok (.dup, 1) := by decide +kernel
theorem dX8_takesNumber_84 : decode cX8_takesNumber 84 = .ok (.getfield 203, 3) := by decide +kernel
theorem dX8_takesNumber_87 : decode cX8_takesNumber 87 = .ok (.iconst 1, 1) := by decide +kernel
theorem dX8_takesNumber_88 : decode cX8_takesNumber 88 = .ok (.iadd, 1) := by decide +kernel
theorem dX8_takesNumber_89 : decode cX8_takesNumber 89 = .ok (.putfield 203, 3) := by decide +kernel
theorem dX8_takesNumber_92 : decode cX8_takesNumber 92 = .ok (.goto (-58), 3) := by decide +kernel
theorem dX8_takesNumber_95 : decode cX8_takesNumber 95 = .ok (.iconst 1, 1) := by decide +kernel
theorem dX8_takesNumber_96 : decode cX8_takesNumber 96 = .ok (.ireturn, 1) := by decide +kernel
theorem dX8_readsOrder_0 : decode cX8_readsOrder 0 = .ok (.aload_n 0, 1) := by decide +kernel
theorem dX8_readsOrder_1 : decode cX8_readsOrder 1 = .ok (.aload_n 0, 1) := by decide +kernel
theorem dX8_readsOrder_2 : decode cX8_readsOrder 2 = .ok (.aload_n 0, 1) := by decide +kernel
theorem dX8_readsOrder_3 : decode cX8_readsOrder 3 = .ok (.getfield 203, 3) := by decide +kernel
theorem dX8_readsOrder_6 : decode cX8_readsOrder 6 = .ok (.invokevirtual 206, 3) := by decide +kernel
theorem dX8_readsOrder_9 : decode cX8_readsOrder 9 = .ok (.putfield 216, 3) := by decide +kernel
theorem dX8_readsOrder_12 : decode cX8_readsOrder 12 = .ok (.aload_n 0, 1) := by decide +kernel
theorem dX8_readsOrder_13 : decode cX8_readsOrder 13 = .ok (.dup, 1) := by decide +kernel
theorem dX8_readsOrder_14 : decode cX8_readsOrder 14 = .ok (.getfield 203, 3) := by decide +kernel
theorem dX8_readsOrder_17 : decode cX8_readsOrder 17 = .ok (.iconst 1, 1) := by decide +kernel
theorem dX8_readsOrder_18 : decode cX8_readsOrder 18 = .ok (.iadd, 1) := by decide +kernel
theorem dX8_readsOrder_19 : decode cX8_readsOrder 19 = .ok (.putfield 203, 3) := by decide +kernel
theorem dX8_readsOrder_22 : decode cX8_readsOrder 22 = .ok (.aload_n 0, 1) := by decide +kernel
theorem dX8_readsOrder_23 : decode cX8_readsOrder 23 = .ok (.getfield 216, 3) := by decide +kernel
theorem dX8_readsOrder_26 : decode cX8_readsOrder 26 = .ok (.lookupswitch 57 #[(99, 50), (112, 42), (116, 42), (120, 42)], 42) := by decide +kernel
theorem dX8_readsOrder_68 : decode cX8_readsOrder 68 = .ok (.aload_n 0, 1) := by decide +kernel
theorem dX8_readsOrder_69 : decode cX8_readsOrder 69 = .ok (.sipush 10000, 3) := by decide +kernel
theorem dX8_readsOrder_72 : decode cX8_readsOrder 72 = .ok (.invokevirtual 219, 3) := by decide +kernel
theorem dX8_readsOrder_75 : decode cX8_readsOrder 75 = .ok (.ireturn, 1) := by decide +kernel
theorem dX8_readsOrder_76 : decode cX8_readsOrder 76 = .ok (.aload_n 0, 1) := by decide +kernel
theorem dX8_readsOrder_77 : decode cX8_readsOrder 77 = .ok (.bipush 10, 2) := by decide +kernel
theorem dX8_readsOrder_79 : decode cX8_readsOrder 79 = .ok (.invokevirtual 219, 3) := by decide +kernel
theorem dX8_readsOrder_82 : decode cX8_readsOrder 82 = .ok (.ireturn, 1) := by decide +kernel
theorem dX8_readsOrder_83 : decode cX8_readsOrder 83 = .ok (.aload_n 0, 1) := by decide +kernel
theorem dX8_readsOrder_84 : decode cX8_readsOrder 84 = .ok (.dup, 1) := by decide +kernel
theorem dX8_readsOrder_85 : decode cX8_readsOrder 85 = .ok (.getfield 203, 3) := by decide +kernel
theorem dX8_readsOrder_88 : decode cX8_readsOrder 88 = .ok (.iconst 1, 1) := by decide +kernel
theorem dX8_readsOrder_89 : decode cX8_readsOrder 89 = .ok (.isub, 1) := by decide +kernel
theorem dX8_readsOrder_90 : decode cX8_readsOrder 90 = .ok (.putfield 203, 3) := by decide +kernel
theorem dX8_readsOrder_93 : decode cX8_readsOrder 93 = .ok (.iconst 0, 1) := by decide +kernel
theorem dX8_readsOrder_94 : decode cX8_readsOrder 94 = .ok (.ireturn, 1) := by decide +kernel
theorem dX8_findFault_0 : decode cX8_findFault 0 = .ok (.aload_n 0, 1) := by decide +kernel
theorem dX8_findFault_1 : decode cX8_findFault 1 = .ok (.iconst 0, 1) := by decide +kernel
theorem dX8_findFault_2 : decode cX8_findFault 2 = .ok (.putfield 203, 3) := by decide +kernel
theorem dX8_findFault_5 : decode cX8_findFault 5 = .ok (.aload_n 0, 1) := by decide +kernel
theorem dX8_findFault_6 : decode cX8_findFault 6 = .ok (.invokevirtual 222, 3) := by decide +kernel
theorem dX8_findFault_9 : decode cX8_findFault 9 = .ok (.ifCond .ne 8, 3) := by decide +kernel
theorem dX8_findFault_12 : decode cX8_findFault 12 = .ok (.aload_n 0, 1) := by decide +kernel
theorem dX8_findFault_13 : decode cX8_findFault 13 = .ok (.getfield 203, 3) := by decide +kernel
theorem dX8_findFault_16 : decode cX8_findFault 16 = .ok (.ireturn, 1) := by decide +kernel
theorem dX8_findFault_17 : decode cX8_findFault 17 = .ok (.aload_n 0, 1) := by decide +kernel
theorem dX8_findFault_18 : decode cX8_findFault 18 = .ok (.getfield 203, 3) := by decide +kernel
theorem dX8_findFault_21 : decode cX8_findFault 21 = .ok (.aload_n 0, 1) := by decide +kernel
theorem dX8_findFault_22 : decode cX8_findFault 22 = .ok (.getfield 186, 3) := by decide +kernel
theorem dX8_findFault_25 : decode cX8_findFault 25 = .ok (.if_icmp .ne 6, 3) := by decide +kernel
theorem dX8_findFault_28 : decode cX8_findFault 28 = .ok (.bipush (-6), 2) := by decide +kernel
theorem dX8_findFault_30 : decode cX8_findFault 30 = .ok (.ireturn, 1) := by decide +kernel
theorem dX8_findFault_31 : decode cX8_findFault 31 = .ok (.aload_n 0, 1) := by decide +kernel
theorem dX8_findFault_32 : decode cX8_findFault 32 = .ok (.bipush 59, 2) := by decide +kernel
theorem dX8_findFault_34 : decode cX8_findFault 34 = .ok (.invokevirtual 225, 3) := by decide +kernel
theorem dX8_findFault_37 : decode cX8_findFault 37 = .ok (.ifCond .ne (-32), 3) := by decide +kernel
theorem dX8_findFault_40 : decode cX8_findFault 40 = .ok (.aload_n 0, 1) := by decide +kernel
theorem dX8_findFault_41 : decode cX8_findFault 41 = .ok (.getfield 203, 3) := by decide +kernel
theorem dX8_findFault_44 : decode cX8_findFault 44 = .ok (.ireturn, 1) := by decide +kernel
theorem dX8_fault_0 : decode cX8_fault 0 = .ok (.aload_n 0, 1) := by decide +kernel
theorem dX8_fault_1 : decode cX8_fault 1 = .ok (.invokevirtual 228, 3) := by decide +kernel
theorem dX8_fault_4 : decode cX8_fault 4 = .ok (.ireturn, 1) := by decide +kernel
theorem dX8_whyNotDone_0 : decode cX8_whyNotDone 0 = .ok (.aload_n 0, 1) := by decide +kernel
theorem dX8_whyNotDone_1 : decode cX8_whyNotDone 1 = .ok (.getfield 216, 3) := by decide +kernel
theorem dX8_whyNotDone_4 : decode cX8_whyNotDone 4 = .ok (.lookupswitch 71 #[(99, 54), (112, 36), (116, 45)], 36) := by decide +kernel
theorem dX8_whyNotDone_40 : decode cX8_whyNotDone 40 = .ok (.aload_n 0, 1) := by decide +kernel
theorem dX8_whyNotDone_41 : decode cX8_whyNotDone 41 = .ok (.aload_n 0, 1) := by decide +kernel
theorem dX8_whyNotDone_42 : decode cX8_whyNotDone 42 = .ok (.getfield 213, 3) := by decide +kernel
theorem dX8_whyNotDone_45 : decode cX8_whyNotDone 45 = .ok (.invokevirtual 131, 3) := by decide +kernel
theorem dX8_whyNotDone_48 : decode cX8_whyNotDone 48 = .ok (.ireturn, 1) := by decide +kernel
theorem dX8_whyNotDone_49 : decode cX8_whyNotDone 49 = .ok (.aload_n 0, 1) := by decide +kernel
theorem dX8_whyNotDone_50 : decode cX8_whyNotDone 50 = .ok (.aload_n 0, 1) := by decide +kernel
theorem dX8_whyNotDone_51 : decode cX8_whyNotDone 51 = .ok (.getfield 213, 3) := by decide +kernel
theorem dX8_whyNotDone_54 : decode cX8_whyNotDone 54 = .ok (.invokevirtual 137, 3) := by decide +kernel
theorem dX8_whyNotDone_57 : decode cX8_whyNotDone 57 = .ok (.ireturn, 1) := by decide +kernel
theorem dX8_whyNotDone_58 : decode cX8_whyNotDone 58 = .ok (.aload_n 0, 1) := by decide +kernel
theorem dX8_whyNotDone_59 : decode cX8_whyNotDone 59 = .ok (.aload_n 0, 1) := by decide +kernel
theorem dX8_whyNotDone_60 : decode cX8_whyNotDone 60 = .ok (.getfield 213, 3) := by decide +kernel
theorem dX8_whyNotDone_63 : decode cX8_whyNotDone 63 = .ok (.invokevirtual 156, 3) := by decide +kernel
theorem dX8_whyNotDone_66 : decode cX8_whyNotDone 66 = .ok (.ifCond .eq 7, 3) := by decide +kernel
theorem dX8_whyNotDone_69 : decode cX8_whyNotDone 69 = .ok (.iconst 0, 1) := by decide +kernel
theorem dX8_whyNotDone_70 : decode cX8_whyNotDone 70 = .ok (.goto 4, 3) := by decide +kernel
theorem dX8_whyNotDone_73 : decode cX8_whyNotDone 73 = .ok (.iconst (-1), 1) := by decide +kernel
theorem dX8_whyNotDone_74 : decode cX8_whyNotDone 74 = .ok (.ireturn, 1) := by decide +kernel
theorem dX8_whyNotDone_75 : decode cX8_whyNotDone 75 = .ok (.iconst 0, 1) := by decide +kernel
theorem dX8_whyNotDone_76 : decode cX8_whyNotDone 76 = .ok (.ireturn, 1) := by decide +kernel
theorem dX8_does_0 : decode cX8_does 0 = .ok (.aload_n 0, 1) := by decide +kernel
theorem dX8_does_1 : decode cX8_does 1 = .ok (.getfield 216, 3) := by decide +kernel
theorem dX8_does_4 : decode cX8_does 4 = .ok (.lookupswitch 72 #[(99, 60), (112, 36), (116, 48)], 36) := by decide +kernel
theorem dX8_does_40 : decode cX8_does 40 = .ok (.aload_n 0, 1) := by decide +kernel
theorem dX8_does_41 : decode cX8_does 41 = .ok (.aload_n 0, 1) := by decide +kernel
theorem dX8_does_42 : decode cX8_does 42 = .ok (.getfield 213, 3) := by decide +kernel
theorem dX8_does_45 : decode cX8_does 45 = .ok (.invokevirtual 134, 3) := by decide +kernel
theorem dX8_does_48 : decode cX8_does 48 = .ok (.pop, 1) := by decide +kernel
theorem dX8_does_49 : decode cX8_does 49 = .ok (.goto 38, 3) := by decide +kernel
theorem dX8_does_52 : decode cX8_does 52 = .ok (.aload_n 0, 1) := by decide +kernel
theorem dX8_does_53 : decode cX8_does 53 = .ok (.aload_n 0, 1) := by decide +kernel
theorem dX8_does_54 : decode cX8_does 54 = .ok (.getfield 213, 3) := by decide +kernel
theorem dX8_does_57 : decode cX8_does 57 = .ok (.invokevirtual 140, 3) := by decide +kernel
theorem dX8_does_60 : decode cX8_does 60 = .ok (.pop, 1) := by decide +kernel
theorem dX8_does_61 : decode cX8_does 61 = .ok (.goto 26, 3) := by decide +kernel
theorem dX8_does_64 : decode cX8_does 64 = .ok (.aload_n 0, 1) := by decide +kernel
theorem dX8_does_65 : decode cX8_does 65 = .ok (.aload_n 0, 1) := by decide +kernel
theorem dX8_does_66 : decode cX8_does 66 = .ok (.getfield 213, 3) := by decide +kernel
theorem dX8_does_69 : decode cX8_does 69 = .ok (.invokevirtual 159, 3) := by decide +kernel
theorem dX8_does_72 : decode cX8_does 72 = .ok (.pop, 1) := by decide +kernel
theorem dX8_does_73 : decode cX8_does 73 = .ok (.goto 14, 3) := by decide +kernel
theorem dX8_does_76 : decode cX8_does 76 = .ok (.aload_n 0, 1) := by decide +kernel
theorem dX8_does_77 : decode cX8_does 77 = .ok (.getfield 7, 3) := by decide +kernel
theorem dX8_does_80 : decode cX8_does 80 = .ok (.bipush 8, 2) := by decide +kernel
theorem dX8_does_82 : decode cX8_does 82 = .ok (.aload_n 0, 1) := by decide +kernel
theorem dX8_does_83 : decode cX8_does 83 = .ok (.getfield 213, 3) := by decide +kernel
theorem dX8_does_86 : decode cX8_does 86 = .ok (.iastore, 1) := by decide +kernel
theorem dX8_does_87 : decode cX8_does 87 = .ok (.return_, 1) := by decide +kernel
theorem dX8_carryOut_0 : decode cX8_carryOut 0 = .ok (.aload_n 0, 1) := by decide +kernel
theorem dX8_carryOut_1 : decode cX8_carryOut 1 = .ok (.invokevirtual 228, 3) := by decide +kernel
theorem dX8_carryOut_4 : decode cX8_carryOut 4 = .ok (.bipush (-6), 2) := by decide +kernel
theorem dX8_carryOut_6 : decode cX8_carryOut 6 = .ok (.if_icmp .eq 6, 3) := by decide +kernel
theorem dX8_carryOut_9 : decode cX8_carryOut 9 = .ok (.bipush (-3), 2) := by decide +kernel
theorem dX8_carryOut_11 : decode cX8_carryOut 11 = .ok (.ireturn, 1) := by decide +kernel
theorem dX8_carryOut_12 : decode cX8_carryOut 12 = .ok (.aload_n 0, 1) := by decide +kernel
theorem dX8_carryOut_13 : decode cX8_carryOut 13 = .ok (.invokevirtual 128, 3) := by decide +kernel
theorem dX8_carryOut_16 : decode cX8_carryOut 16 = .ok (.iconst 0, 1) := by decide +kernel
theorem dX8_carryOut_17 : decode cX8_carryOut 17 = .ok (.istore_n 1, 1) := by decide +kernel
theorem dX8_carryOut_18 : decode cX8_carryOut 18 = .ok (.aload_n 0, 1) := by decide +kernel
theorem dX8_carryOut_19 : decode cX8_carryOut 19 = .ok (.iconst 0, 1) := by decide +kernel
theorem dX8_carryOut_20 : decode cX8_carryOut 20 = .ok (.putfield 203, 3) := by decide +kernel
theorem dX8_carryOut_23 : decode cX8_carryOut 23 = .ok (.iconst 1, 1) := by decide +kernel
theorem dX8_carryOut_24 : decode cX8_carryOut 24 = .ok (.istore_n 2, 1) := by decide +kernel
theorem dX8_carryOut_25 : decode cX8_carryOut 25 = .ok (.iload_n 2, 1) := by decide +kernel
theorem dX8_carryOut_26 : decode cX8_carryOut 26 = .ok (.ifCond .eq 53, 3) := by decide +kernel
theorem dX8_carryOut_29 : decode cX8_carryOut 29 = .ok (.aload_n 0, 1) := by decide +kernel
theorem dX8_carryOut_30 : decode cX8_carryOut 30 = .ok (.getfield 203, 3) := by decide +kernel
theorem dX8_carryOut_33 : decode cX8_carryOut 33 = .ok (.aload_n 0, 1) := by decide +kernel
theorem dX8_carryOut_34 : decode cX8_carryOut 34 = .ok (.getfield 186, 3) := by decide +kernel
theorem dX8_carryOut_37 : decode cX8_carryOut 37 = .ok (.if_icmp .ge 42, 3) := by decide +kernel
theorem dX8_carryOut_40 : decode cX8_carryOut 40 = .ok (.aload_n 0, 1) := by decide +kernel
theorem dX8_carryOut_41 : decode cX8_carryOut 41 = .ok (.invokevirtual 222, 3) := by decide +kernel
theorem dX8_carryOut_44 : decode cX8_carryOut 44 = .ok (.pop, 1) := by decide +kernel
theorem dX8_carryOut_45 : decode cX8_carryOut 45 = .ok (.aload_n 0, 1) := by decide +kernel
theorem dX8_carryOut_46 : decode cX8_carryOut 46 = .ok (.bipush 59, 2) := by decide +kernel
theorem dX8_carryOut_48 : decode cX8_carryOut 48 = .ok (.invokevirtual 225, 3) := by decide +kernel
theorem dX8_carryOut_51 : decode cX8_carryOut 51 = .ok (.pop, 1) := by decide +kernel
theorem dX8_carryOut_52 : decode cX8_carryOut 52 = .ok (.aload_n 0, 1) := by decide +kernel
theorem dX8_carryOut_53 : decode cX8_carryOut 53 = .ok (.invokevirtual 231, 3) := by decide +kernel
theorem dX8_carryOut_56 : decode cX8_carryOut 56 = .ok (.ifCond .ne 7, 3) := by decide +kernel
theorem dX8_carryOut_59 : decode cX8_carryOut 59 = .ok (.iconst 1, 1) := by decide +kernel
theorem dX8_carryOut_60 : decode cX8_carryOut 60 = .ok (.goto 4, 3) := by decide +kernel
theorem dX8_carryOut_63 : decode cX8_carryOut 63 = .ok (.iconst 0, 1) := by decide +kernel
theorem dX8_carryOut_64 : decode cX8_carryOut 64 = .ok (.istore_n 2, 1) := by decide +kernel
theorem dX8_carryOut_65 : decode cX8_carryOut 65 = .ok (.iload_n 2, 1) := by decide +kernel
theorem dX8_carryOut_66 : decode cX8_carryOut 66 = .ok (.ifCond .eq (-41), 3) := by decide +kernel
theorem dX8_carryOut_69 : decode cX8_carryOut 69 = .ok (.aload_n 0, 1) := by decide +kernel
theorem dX8_carryOut_70 : decode cX8_carryOut 70 = .ok (.invokevirtual 234, 3) := by decide +kernel
theorem dX8_carryOut_73 : decode cX8_carryOut 73 = .ok (.iinc 1 1, 3) := by decide +kernel
theorem dX8_carryOut_76 : decode cX8_carryOut 76 = .ok (.goto (-51), 3) := by decide +kernel
theorem dX8_carryOut_79 : decode cX8_carryOut 79 = .ok (.aload_n 0, 1) := by decide +kernel
theorem dX8_carryOut_80 : decode cX8_carryOut 80 = .ok (.iconst 0, 1) := by decide +kernel
theorem dX8_carryOut_81 : decode cX8_carryOut 81 = .ok (.putfield 186, 3) := by decide +kernel
theorem dX8_carryOut_84 : decode cX8_carryOut 84 = .ok (.iload_n 1, 1) := by decide +kernel
theorem dX8_carryOut_85 : decode cX8_carryOut 85 = .ok (.ireturn, 1) := by decide +kernel
theorem dX8_undo_0 : decode cX8_undo 0 = .ok (.aload_n 0, 1) := by decide +kernel
theorem dX8_undo_1 : decode cX8_undo 1 = .ok (.getfield 34, 3) := by decide +kernel
theorem dX8_undo_4 : decode cX8_undo 4 = .ok (.ifCond .ne 6, 3) := by decide +kernel
theorem dX8_undo_7 : decode cX8_undo 7 = .ok (.bipush (-5), 2) := by decide +kernel
theorem dX8_undo_9 : decode cX8_undo 9 = .ok (.ireturn, 1) := by decide +kernel
theorem dX8_undo_10 : decode cX8_undo 10 = .ok (.aload_n 0, 1) := by decide +kernel
theorem dX8_undo_11 : decode cX8_undo 11 = .ok (.dup, 1) := by decide +kernel
theorem dX8_undo_12 : decode cX8_undo 12 = .ok (.getfield 34, 3) := by decide +kernel
theorem dX8_undo_15 : decode cX8_undo 15 = .ok (.iconst 1, 1) := by decide +kernel
theorem dX8_undo_16 : decode cX8_undo 16 = .ok (.isub, 1) := by decide +kernel
theorem dX8_undo_17 : decode cX8_undo 17 = .ok (.putfield 34, 3) := by decide +kernel
theorem dX8_undo_20 : decode cX8_undo 20 = .ok (.aload_n 0, 1) := by decide +kernel
theorem dX8_undo_21 : decode cX8_undo 21 = .ok (.getfield 16, 3) := by decide +kernel
theorem dX8_undo_24 : decode cX8_undo 24 = .ok (.aload_n 0, 1) := by decide +kernel
theorem dX8_undo_25 : decode cX8_undo 25 = .ok (.getfield 34, 3) := by decide +kernel
theorem dX8_undo_28 : decode cX8_undo 28 = .ok (.bipush 107, 2) := by decide +kernel
theorem dX8_undo_30 : decode cX8_undo 30 = .ok (.imul, 1) := by decide +kernel
theorem dX8_undo_31 : decode cX8_undo 31 = .ok (.aload_n 0, 1) := by decide +kernel
theorem dX8_undo_32 : decode cX8_undo 32 = .ok (.getfield 7, 3) := by decide +kernel
theorem dX8_undo_35 : decode cX8_undo 35 = .ok (.iconst 0, 1) := by decide +kernel
theorem dX8_undo_36 : decode cX8_undo 36 = .ok (.invokestatic 38, 3) := by decide +kernel
theorem dX8_undo_39 : decode cX8_undo 39 = .ok (.aload_n 0, 1) := by decide +kernel
theorem dX8_undo_40 : decode cX8_undo 40 = .ok (.getfield 34, 3) := by decide +kernel
theorem dX8_undo_43 : decode cX8_undo 43 = .ok (.ireturn, 1) := by decide +kernel
theorem dX8_save_0 : decode cX8_save 0 = .ok (.iload_n 1, 1) := by decide +kernel
theorem dX8_save_1 : decode cX8_save 1 = .ok (.iconst 0, 1) := by decide +kernel
theorem dX8_save_2 : decode cX8_save 2 = .ok (.iconst 1, 1) := by decide +kernel
theorem dX8_save_3 : decode cX8_save 3 = .ok (.invokestatic 42, 3) := by decide +kernel
theorem dX8_save_6 : decode cX8_save 6 = .ok (.ifCond .ne 6, 3) := by decide +kernel
theorem dX8_save_9 : decode cX8_save 9 = .ok (.bipush (-2), 2) := by decide +kernel
theorem dX8_save_11 : decode cX8_save 11 = .ok (.ireturn, 1) := by decide +kernel
theorem dX8_save_12 : decode cX8_save 12 = .ok (.aload_n 0, 1) := by decide +kernel
theorem dX8_save_13 : decode cX8_save 13 = .ok (.getfield 7, 3) := by decide +kernel
theorem dX8_save_16 : decode cX8_save 16 = .ok (.iconst 0, 1) := by decide +kernel
theorem dX8_save_17 : decode cX8_save 17 = .ok (.aload_n 0, 1) := by decide +kernel
theorem dX8_save_18 : decode cX8_save 18 = .ok (.getfield 19, 3) := by decide +kernel
theorem dX8_save_21 : decode cX8_save 21 = .ok (.bipush 107, 2) := by decide +kernel
theorem dX8_save_23 : decode cX8_save 23 = .ok (.iload_n 1, 1) := by decide +kernel
theorem dX8_save_24 : decode cX8_save 24 = .ok (.imul, 1) := by decide +kernel
theorem dX8_save_25 : decode cX8_save 25 = .ok (.invokestatic 38, 3) := by decide +kernel
theorem dX8_save_28 : decode cX8_save 28 = .ok (.aload_n 0, 1) := by decide +kernel
theorem dX8_save_29 : decode cX8_save 29 = .ok (.getfield 22, 3) := by decide +kernel
theorem dX8_save_32 : decode cX8_save 32 = .ok (.iload_n 1, 1) := by decide +kernel
theorem dX8_save_33 : decode cX8_save 33 = .ok (.iconst 1, 1) := by decide +kernel
theorem dX8_save_34 : decode cX8_save 34 = .ok (.iastore, 1) := by decide +kernel
theorem dX8_save_35 : decode cX8_save 35 = .ok (.aload_n 0, 1) := by decide +kernel
theorem dX8_save_36 : decode cX8_save 36 = .ok (.getfield 7, 3) := by decide +kernel
theorem dX8_save_39 : decode cX8_save 39 = .ok (.bipush 6, 2) := by decide +kernel
theorem dX8_save_41 : decode cX8_save 41 = .ok (.iaload, 1) := by decide +kernel
theorem dX8_save_42 : decode cX8_save 42 = .ok (.ireturn, 1) := by decide +kernel
theorem dX8_restore_0 : decode cX8_restore 0 = .ok (.iload_n 1, 1) := by decide +kernel
theorem dX8_restore_1 : decode cX8_restore 1 = .ok (.iconst 0, 1) := by decide +kernel
theorem dX8_restore_2 : decode cX8_restore 2 = .ok (.iconst 1, 1) := by decide +kernel
theorem dX8_restore_3 : decode cX8_restore 3 = .ok (.invokestatic 42, 3) := by decide +kernel
theorem dX8_restore_6 : decode cX8_restore 6 = .ok (.ifCond .ne 6, 3) := by decide +kernel
theorem dX8_restore_9 : decode cX8_restore 9 = .ok (.bipush (-2), 2) := by decide +kernel
theorem dX8_restore_11 : decode cX8_restore 11 = .ok (.ireturn, 1) := by decide +kernel
theorem dX8_restore_12 : decode cX8_restore 12 = .ok (.aload_n 0, 1) := by decide +kernel
theorem dX8_restore_13 : decode cX8_restore 13 = .ok (.getfield 22, 3) := by decide +kernel
theorem dX8_restore_16 : decode cX8_restore 16 = .ok (.iload_n 1, 1) := by decide +kernel
theorem dX8_restore_17 : decode cX8_restore 17 = .ok (.iaload, 1) := by decide +kernel
theorem dX8_restore_18 : decode cX8_restore 18 = .ok (.ifCond .ne 6, 3) := by decide +kernel
theorem dX8_restore_21 : decode cX8_restore 21 = .ok (.bipush (-5), 2) := by decide +kernel
theorem dX8_restore_23 : decode cX8_restore 23 = .ok (.ireturn, 1) := by decide +kernel
theorem dX8_restore_24 : decode cX8_restore 24 = .ok (.aload_n 0, 1) := by decide +kernel
theorem dX8_restore_25 : decode cX8_restore 25 = .ok (.invokevirtual 128, 3) := by decide +kernel
theorem dX8_restore_28 : decode cX8_restore 28 = .ok (.aload_n 0, 1) := by decide +kernel
theorem dX8_restore_29 : decode cX8_restore 29 = .ok (.getfield 19, 3) := by decide +kernel
theorem dX8_restore_32 : decode cX8_restore 32 = .ok (.bipush 107, 2) := by decide +kernel
theorem dX8_restore_34 : decode cX8_restore 34 = .ok (.iload_n 1, 1) := by decide +kernel
theorem dX8_restore_35 : decode cX8_restore 35 = .ok (.imul, 1) := by decide +kernel
theorem dX8_restore_36 : decode cX8_restore 36 = .ok (.aload_n 0, 1) := by decide +kernel
theorem dX8_restore_37 : decode cX8_restore 37 = .ok (.getfield 7, 3) := by decide +kernel
theorem dX8_restore_40 : decode cX8_restore 40 = .ok (.iconst 0, 1) := by decide +kernel
theorem dX8_restore_41 : decode cX8_restore 41 = .ok (.invokestatic 38, 3) := by decide +kernel
theorem dX8_restore_44 : decode cX8_restore 44 = .ok (.aload_n 0, 1) := by decide +kernel
theorem dX8_restore_45 : decode cX8_restore 45 = .ok (.getfield 7, 3) := by decide +kernel
theorem dX8_restore_48 : decode cX8_restore 48 = .ok (.bipush 6, 2) := by decide +kernel
theorem dX8_restore_50 : decode cX8_restore 50 = .ok (.iaload, 1) := by decide +kernel
theorem dX8_restore_51 : decode cX8_restore 51 = .ok (.ireturn, 1) := by decide +kernel
end
section
/-! ## own words: programs that may fail, states as functions, and rows for calls between worlds -/
def fo_bd {α β : Type} (x : Option α) (k : α → Option β) : Option β := match x with
  | none => none
  | some v => k v
theorem fo_bd_some {α β : Type} {x : Option α} {k : α → Option β} {q : β} (h : fo_bd x k = some q) : ∃ v, x = some v ∧ k v = some q := by
  cases x with
  | none => cases h
  | some v => exact ⟨v, rfl, h⟩
def fo_ck {β : Type} (i : Int32) (n : Nat) (k : Option β) : Option β := if i < 0 ∨ n ≤ i.toNatClampNeg then none else k
theorem fo_ck_some {β : Type} {i : Int32} {n : Nat} {k : Option β} {q : β} (h : fo_ck i n k = some q) : vp_in i n ∧ k = some q := by
  unfold fo_ck at h
  by_cases hc : i < 0 ∨ n ≤ i.toNatClampNeg
  · rw [if_pos hc] at h; cases h
  · rw [if_neg hc] at h; exact ⟨hc, h⟩
def fo_nz {β : Type} (y : Int32) (k : Option β) : Option β := if y = 0 then none else k
theorem fo_nz_some {β : Type} {y : Int32} {k : Option β} {q : β} (h : fo_nz y k = some q) : ¬ y = 0 ∧ k = some q := by
  unfold fo_nz at h
  by_cases hc : y = 0
  · rw [if_pos hc] at h; cases h
  · rw [if_neg hc] at h; exact ⟨hc, h⟩
theorem fo_it {β : Type} {c : Prop} [Decidable c] {a b : Option β} {q : β} (h : (if c then a else b) = some q) (hc : c) : a = some q := by
  rw [if_pos hc] at h; exact h
theorem fo_if {β : Type} {c : Prop} [Decidable c] {a b : Option β} {q : β} (h : (if c then a else b) = some q) (hc : ¬ c) : b = some q := by
  rw [if_neg hc] at h; exact h
def fo_fu : Nat := 1000
def fo_zz {β : Type} (v : Int32) (k : Option β) : Option β := if v = 0 ∨ v = 1 then k else none
theorem fo_zz_some {β : Type} {v : Int32} {k : Option β} {q : β} (h : fo_zz v k = some q) : (v = 0 ∨ v = 1) ∧ k = some q := by
  unfold fo_zz at h
  by_cases hc : v = 0 ∨ v = 1
  · rw [if_pos hc] at h; exact ⟨hc, h⟩
  · rw [if_neg hc] at h; cases h
theorem nar_b {v : Int32} (h : v = 0 ∨ v = 1) : narrow .boolean (.int v) = .int v := by
  rcases h with rfl | rfl <;> rfl
/-! words: one list for all methods -/
def bg_L : List Cond := lw_tbl.filter goodWord
theorem bg_tbl {w : Cond} (h : w ∈ bg_L) : w ∈ lw_tbl := (List.mem_filter.mp h).1
theorem bg_at {w : Cond} (i : Nat) (h : lw_tbl[i]? = some w) (hg : goodWord w = true) : w ∈ bg_L := List.mem_filter.mpr ⟨List.mem_of_getElem? h, hg⟩
theorem bg_sub {ws : List Cond} (ps : List Nat) (h : ws = ps.filterMap (fun i => lw_tbl[i]?)) (hg : ws.all goodWord = true) : ∀ w ∈ ws, w ∈ bg_L := by
  intro w hw
  have h2 := hw
  rw [h] at hw
  obtain ⟨i, -, hi⟩ := List.mem_filterMap.mp hw
  exact bg_at i hi (List.all_eq_true.mp hg w h2)
theorem bg_good {w : Cond} (h : w ∈ bg_L) : w ∈ bg_L ∧ ((w.onTables && w.keeps) = true ∨ ∃ ty, w = .arrayClass ty) := ⟨h, good_of_word (List.mem_filter.mp h).2⟩
theorem gb_V {own : String} {idx : Nat} {C : String} {y : MethodName} {k : Cond} (h1 : Cond.methodLink own idx y ∈ bg_L) (h2 : Cond.instanceMethod y ∈ bg_L) (h3 : Cond.selects C y y ∈ bg_L) (h4 : Cond.initialized C ∈ bg_L) (h5 : k ∈ bg_L) : GoodIn bg_L (wsV own idx C y (k :: bg_L)) := by
  intro w hw
  refine bg_good ?_
  unfold wsV at hw
  rcases List.mem_append.mp hw with h | h
  · rcases List.mem_cons.mp h with rfl | h
    · exact h1
    · rcases List.mem_cons.mp h with rfl | h
      · exact h2
      · rcases List.mem_cons.mp h with rfl | h
        · exact h3
        · rcases List.mem_cons.mp h with rfl | h
          · exact h4
          · exact absurd h List.not_mem_nil
  · rcases List.mem_cons.mp h with rfl | h
    · exact h5
    · exact h
theorem gb_S {own : String} {idx : Nat} {y : MethodName} {k : Cond} (h1 : Cond.methodLink own idx y ∈ bg_L) (h2 : Cond.static y ∈ bg_L) (h4 : Cond.initialized y.cls ∈ bg_L) (h5 : k ∈ bg_L) : GoodIn bg_L (va_wsS own idx y (k :: bg_L)) := by
  intro w hw
  refine bg_good ?_
  unfold va_wsS at hw
  rcases List.mem_append.mp hw with h | h
  · rcases List.mem_cons.mp h with rfl | h
    · exact h1
    · rcases List.mem_cons.mp h with rfl | h
      · exact h2
      · rcases List.mem_cons.mp h with rfl | h
        · exact h4
        · exact absurd h List.not_mem_nil
  · rcases List.mem_cons.mp h with rfl | h
    · exact h5
    · exact h
/-- a state of rows: row k is S k -/
abbrev ms_T : Type := Nat → Nat → Int32
def ms_set (S : ms_T) (k : Nat) (f : Nat → Int32) : ms_T := fun j => if j = k then f else S j
def ms_sub (S : ms_T) (d n : Nat) (q : ms_T) : ms_T := fun k => if d ≤ k ∧ k < d + n then q (k - d) else S k
def ms_from (S : ms_T) (d : Nat) : ms_T := fun k => S (k + d)
/-- a world some of whose cells are others now -/
def ws_sets : va_W → List Nat → va_W → va_W
  | ws, i :: is, x :: xs => ws_sets (ws.set i x) is xs
  | ws, _, _ => ws
theorem ws_sets_get : ∀ (is : List Nat) (xs ws : va_W) (k : Nat) (q : Nat × va_E), is.length = xs.length → (ws_sets ws is xs)[k]? = some q → (k ∉ is ∧ ws[k]? = some q) ∨ ∃ j : Nat, is[j]? = some k ∧ xs[j]? = some q
  | [], xs, ws, k, q, _, h => Or.inl ⟨List.not_mem_nil, by unfold ws_sets at h; exact h⟩
  | i :: is, [], ws, k, q, hl, h => by simp at hl
  | i :: is, x :: xs, ws, k, q, hl, h => by
    have h2 : (ws_sets (ws.set i x) is xs)[k]? = some q := h
    rcases ws_sets_get is xs (ws.set i x) k q (by simpa using hl) h2 with ⟨h3, h4⟩ | ⟨j, h3, h4⟩
    · by_cases hk : k = i
      · subst hk
        have hlt : k < (ws.set k x).length := (List.getElem?_eq_some_iff.mp h4).1
        rw [List.length_set] at hlt
        rw [List.getElem?_set_self hlt] at h4
        exact Or.inr ⟨0, rfl, h4⟩
      · rw [List.getElem?_set_ne (Ne.symm hk)] at h4
        exact Or.inl ⟨fun hm => (List.mem_cons.mp hm).elim hk h3, h4⟩
    · exact Or.inr ⟨j + 1, h3, h4⟩
/-- behind a call: the callee's cells are set into the caller's world -/
theorem ws_join {A0 : Nat → Prop} {D : va_G} {cl : List vw_C} {ws wc w1 : va_W} {H H1 : Heap} (hP : va_P D cl ws H) (hD : va_D A0 ws) (isC : List Nat) (hC : isC.map (fun i => ws[i]?) = wc.map some) (hl : w1.length = wc.length)
    (hk : ∀ q : Nat, q < H.size → ¬ va_A wc H.size q → H1[q]? = H[q]?) (hF : ∀ q, va_A wc H.size q → A0 q) (hP1 : va_P D cl w1 H1) (hD1 : va_D (va_A wc H.size) w1) : va_P D cl (ws_sets ws isC w1) H1 ∧ va_D A0 (ws_sets ws isC w1) := by
  have hlen : isC.length = w1.length := by
    have := congrArg List.length hC
    rw [List.length_map, List.length_map] at this
    omega
  have get := fun (k : Nat) (q : Nat × va_E) (h : (ws_sets ws isC w1)[k]? = some q) => ws_sets_get isC w1 ws k q hlen h
  have apart : ∀ (k : Nat) (q : Nat × va_E), k ∉ isC → ws[k]? = some q → q.1 < H.size ∧ ¬ va_A wc H.size q.1 := by
    intro k q hn hq
    have hlt := (hP k q hq).lt
    refine ⟨hlt, fun h => ?_⟩
    rcases h with ⟨k2, e, h⟩ | h
    · have h1 : (isC.map (fun i => ws[i]?))[k2]? = some (some (q.1, e)) := by rw [hC, List.getElem?_map, h]; rfl
      rw [List.getElem?_map] at h1
      cases hi : isC[k2]? with
      | none => rw [hi] at h1; cases h1
      | some i =>
        rw [hi] at h1
        have h4 : ws[i]? = some (q.1, e) := Option.some.inj h1
        have hij := hD.1 k i q (q.1, e) hq h4 rfl
        subst hij
        exact hn (List.mem_of_getElem? hi)
    · omega
  refine ⟨fun k q hq => ?_, fun i j x y hx hy hxy => ?_, fun k q hq => ?_⟩
  · rcases get k q hq with ⟨hn, hw⟩ | ⟨j, h1, h2⟩
    · obtain ⟨g1, g2⟩ := apart k q hn hw
      exact (hP k q hw).kept (hk q.1 g1 g2)
    · exact hP1 j q h2
  · rcases get i x hx with ⟨hn, hw⟩ | ⟨a, h1, h2⟩ <;> rcases get j y hy with ⟨hn', hw'⟩ | ⟨b, h3, h4⟩
    · exact hD.1 i j x y hw hw' hxy
    · exact absurd (hD1.2 b y h4) (by rw [← hxy]; exact (apart i x hn hw).2)
    · exact absurd (hD1.2 a x h2) (by rw [hxy]; exact (apart j y hn' hw').2)
    · have hab := hD1.1 a b x y h2 h4 hxy
      subst hab
      rw [h1] at h3
      exact Option.some.inj h3
  · rcases get k q hq with ⟨hn, hw⟩ | ⟨j, h1, h2⟩
    · exact hD.2 k q hw
    · exact hF q.1 (hD1.2 j q h2)
/-- what a method needs of the machine: exec, its code, its answer's type, its words, its class, no locks, its locals -/
def cx_M (p : Program) (s : State) (m : MethodId) (args : Array Value) (meth : Method) (c : Code) (R : String) (cc : ByteArray) (ret : Option FieldType) (nL : Nat) : Prop :=
  p.tables.exec = Jvm.exec ∧ c.code = cc ∧ meth.sig.returnType = ret ∧ (∀ w ∈ bg_L, w.before args s = true) ∧ s.vm.findClass R = some m.cls ∧ meth.locks = false ∧ c.maxLocals = nL
/-- a world at a heap: what is there, apart, what was written -/
def gd_W (D : va_G) (A : Nat → Prop) (s : State) (ws : va_W) (H : Heap) (locs : List Loc) : Prop := va_P D vwCl ws H ∧ va_D A ws ∧ va_S A s.heap H locs
def pc_W (D : va_G) (tys : List (ClassId × FieldType)) (w0 : va_W) (sz : Nat) : State → Prop := fun U => U.heap.size = sz ∧ va_P D vwCl w0 U.heap ∧ va_K D vwCl tys U ∧ va_D (fun _ => True) w0
def qc_W (D : va_G) (tys : List (ClassId × FieldType)) (A : Nat → Prop) (w1 : va_W) : Unit → State → Prop := fun _ t => va_P D vwCl w1 t.heap ∧ va_K D vwCl tys t ∧ va_D A w1
abbrev qi_W (D : va_G) (tys : List (ClassId × FieldType)) (A : Nat → Prop) (r : Int32) (w1 : va_W) : Array Value → State → Outcome → State → Prop := va_Qi (fun (r' : Int32) (_ : Unit) => r' = r) (qc_W D tys A w1) A
abbrev qv_W (D : va_G) (tys : List (ClassId × FieldType)) (A : Nat → Prop) (w1 : va_W) : Array Value → State → Outcome → State → Prop := va_Qv (fun (_ : Unit) => True) (qc_W D tys A w1) A
/-- a contract: with the values vs, in the world w0, the method answers r and leaves the world w1 -/
def mi_M (l : Launch) (y : MethodName) (ws : List Cond) (rm : Room) (D : va_G) (tys : List (ClassId × FieldType)) (vs : List Value) (w0 : va_W) (r : Int32) (w1 : va_W) : Prop :=
  ∀ sz : Nat, Met l y ws rm (va_Pc vs (pc_W D tys w0 sz)) (qi_W D tys (va_A w0 sz) r w1) 0 0 (va_A w0 sz)
def mv_M (l : Launch) (y : MethodName) (ws : List Cond) (rm : Room) (D : va_G) (tys : List (ClassId × FieldType)) (vs : List Value) (w0 w1 : va_W) : Prop :=
  ∀ sz : Nat, Met l y ws rm (va_Pc vs (pc_W D tys w0 sz)) (qv_W D tys (va_A w0 sz) w1) 0 0 (va_A w0 sz)
theorem pc_W_blind {D : va_G} {tys : List (ClassId × FieldType)} {vs : List Value} {w0 : va_W} {sz : Nat} : FrameBlind (va_Pc vs (pc_W D tys w0 sz)) :=
  fun a U g mk q => by
    obtain ⟨q0, q1, qP, qK, qD⟩ := q
    exact ⟨q0, q1, qP, va_K.moved (u := U) (U := U.calling g mk a) (Vm.Alike.refl U.vm) qK, qD⟩
section CALLS
variable {p : Program} {l : Launch} {e : Env} {R : Room} {s : State} {m : MethodId} {args : Array Value} {below : List Frame} {meth : Method} {c : Code} {H : Heap} {locs : List Loc} {cells slots : Nat} {Q : State → Prop}
variable {cc : ByteArray} {pc nL : Nat} {ls : Array Slot} {rest st0 : List Value} {D : va_G} {A : Nat → Prop} {tys tysC : List (ClassId × FieldType)} {ws wc w1 : va_W} {Ts wsy : List Cond} {own : String}
variable {y : MethodName} {bytes : ByteArray} {maxL n index : Nat} {ret : Option FieldType} {rm : Room} {r : Int32} {As : List Value}
theorem ws_free (hD : va_D A ws) (hS : va_S A s.heap H locs) (hA : ∀ q, s.heap.size ≤ q → A q) (isC : List Nat) (hC : isC.map (fun i => ws[i]?) = wc.map some) : ∀ q, va_A wc H.size q → A q := va_free hD hS hA isC hC
theorem ws_P (hP : va_P D vwCl ws H) (isC : List Nat) (hC : isC.map (fun i => ws[i]?) = wc.map some) : va_P D vwCl wc H := by
  intro k q hk
  have h1 : (isC.map (fun i => ws[i]?))[k]? = some (some q) := by rw [hC, List.getElem?_map, hk]; rfl
  rw [List.getElem?_map] at h1
  cases hi : isC[k]? with
  | none => rw [hi] at h1; cases h1
  | some i => rw [hi] at h1; exact hP i q (Option.some.inj h1)
/-- an instance method with an int answer, called -/
theorem gc_iV (S : CallFix p m c cc nL s args Ts own) {b : Addr} {C : String} (hM : mi_M l y wsy rm D tysC (.ref b :: As) wc r w1) (cw : CallW R s args own C index y bytes maxL ret wsy rm 0 0 n)
    (hK : va_K D vwCl tys s) (isK : List Nat) (hKs : isK.filterMap (fun i => tys[i]?) = tysC) (hA : ∀ q, s.heap.size ≤ q → A q) (hG : gd_W D A s ws H locs) (isC : List Nat) (hn : va_nd isC = true) (hC : isC.map (fun i => ws[i]?) = wc.map some) (hl : w1.length = wc.length)
    {ci q0 : Nat} {fs : List Value} {T : u_T} {N : Nat} (hcl : vwCl[ci]? = some (C, T, N)) (hb0 : wc[q0]? = some (b, .inr (ci, fs))) (hAs : As.length = n) (hsize : ls.size = nL) (hst : st0 = As.reverse ++ .ref b :: rest) (hW : (rest.map fun v => v.category).sum ≤ 8) (hdg : decode cc pc = .ok (.invokevirtual index, 3)) (hf : cells ≤ R.cells ∧ slots ≤ R.slots)
    (kk : ∀ (H1 : Heap) (locs1 : List Loc), gd_W D A s (ws_sets ws isC w1) H1 locs1 → W p l e R s m args below meth c H1 locs1 cells slots Q (F0 m (pc + 3) ls (.int r :: rest))) : W p l e R s m args below meth c H locs cells slots Q (F0 m pc ls st0) := by
  obtain ⟨hP, hD, hS⟩ := hG
  have hPc := ws_P hP isC hC
  have hDc := hD.sub isC hn hC
  have hKc := hK.sub isK hKs
  have hFc := ws_free hD hS hA isC hC
  refine va_calli (va_runV (As := As) (rest := rest) S (hM H.size) cw ⟨pc_W_blind, va_recv hKc hPc hcl hb0, fun U hU hW => ⟨rfl, by rw [hU], by rw [hU]; exact hPc, va_K.moved hW.alike hKc, hDc.weaken (fun _ _ _ _ => trivial)⟩⟩ rfl hAs hsize hst (lv_room hW) hdg hf) hS (fun q _ h => hFc q h) hFc (fun r' u t H1 locs1 ht hvm hw hB hz1 hk1 hS1 => ?_)
  obtain ⟨hP1, hK1, hD1⟩ := hB
  rw [ht] at hP1
  have hw : r' = r := hw
  subst hw
  exact kk H1 locs1 ⟨(ws_join hP hD isC hC hl hk1 hFc hP1 hD1).1, (ws_join hP hD isC hC hl hk1 hFc hP1 hD1).2, hS1⟩
theorem gc_vV (S : CallFix p m c cc nL s args Ts own) {b : Addr} {C : String} (hM : mv_M l y wsy rm D tysC (.ref b :: As) wc w1) (cw : CallW R s args own C index y bytes maxL ret wsy rm 0 0 n)
    (hK : va_K D vwCl tys s) (isK : List Nat) (hKs : isK.filterMap (fun i => tys[i]?) = tysC) (hA : ∀ q, s.heap.size ≤ q → A q) (hG : gd_W D A s ws H locs) (isC : List Nat) (hn : va_nd isC = true) (hC : isC.map (fun i => ws[i]?) = wc.map some) (hl : w1.length = wc.length)
    {ci q0 : Nat} {fs : List Value} {T : u_T} {N : Nat} (hcl : vwCl[ci]? = some (C, T, N)) (hb0 : wc[q0]? = some (b, .inr (ci, fs))) (hAs : As.length = n) (hsize : ls.size = nL) (hst : st0 = As.reverse ++ .ref b :: rest) (hW : (rest.map fun v => v.category).sum ≤ 8) (hdg : decode cc pc = .ok (.invokevirtual index, 3)) (hf : cells ≤ R.cells ∧ slots ≤ R.slots)
    (kk : ∀ (H1 : Heap) (locs1 : List Loc), gd_W D A s (ws_sets ws isC w1) H1 locs1 → W p l e R s m args below meth c H1 locs1 cells slots Q (F0 m (pc + 3) ls rest)) : W p l e R s m args below meth c H locs cells slots Q (F0 m pc ls st0) := by
  obtain ⟨hP, hD, hS⟩ := hG
  have hPc := ws_P hP isC hC
  have hDc := hD.sub isC hn hC
  have hKc := hK.sub isK hKs
  have hFc := ws_free hD hS hA isC hC
  refine va_callv (va_runV (As := As) (rest := rest) S (hM H.size) cw ⟨pc_W_blind, va_recv hKc hPc hcl hb0, fun U hU hW => ⟨rfl, by rw [hU], by rw [hU]; exact hPc, va_K.moved hW.alike hKc, hDc.weaken (fun _ _ _ _ => trivial)⟩⟩ rfl hAs hsize hst (lv_room hW) hdg hf) hS (fun q _ h => hFc q h) hFc (fun u t H1 locs1 ht hvm hw hB hz1 hk1 hS1 => ?_)
  obtain ⟨hP1, hK1, hD1⟩ := hB
  rw [ht] at hP1
  exact kk H1 locs1 ⟨(ws_join hP hD isC hC hl hk1 hFc hP1 hD1).1, (ws_join hP hD isC hC hl hk1 hFc hP1 hD1).2, hS1⟩
/-- a static method -/
theorem gc_iS (S : CallFix p m c cc nL s args Ts own) (hM : mi_M l y wsy rm D tysC As wc r w1) (cw : CallB R s args own index y bytes maxL ret wsy rm 0 0 n ∧ (Cond.static y).before args s = true)
    (hK : va_K D vwCl tys s) (isK : List Nat) (hKs : isK.filterMap (fun i => tys[i]?) = tysC) (hA : ∀ q, s.heap.size ≤ q → A q) (hG : gd_W D A s ws H locs) (isC : List Nat) (hn : va_nd isC = true) (hC : isC.map (fun i => ws[i]?) = wc.map some) (hl : w1.length = wc.length)
    (hAs : As.length = n) (hsize : ls.size = nL) (hst : st0 = As.reverse ++ rest) (hW : (rest.map fun v => v.category).sum ≤ 8) (hdg : decode cc pc = .ok (.invokestatic index, 3)) (hf : cells ≤ R.cells ∧ slots ≤ R.slots)
    (kk : ∀ (H1 : Heap) (locs1 : List Loc), gd_W D A s (ws_sets ws isC w1) H1 locs1 → W p l e R s m args below meth c H1 locs1 cells slots Q (F0 m (pc + 3) ls (.int r :: rest))) : W p l e R s m args below meth c H locs cells slots Q (F0 m pc ls st0) := by
  obtain ⟨hP, hD, hS⟩ := hG
  have hPc := ws_P hP isC hC
  have hDc := hD.sub isC hn hC
  have hKc := hK.sub isK hKs
  have hFc := ws_free hD hS hA isC hC
  refine va_calli (va_runS (As := As) (rest := rest) S (hM H.size) cw ⟨pc_W_blind, fun U hU hW => ⟨rfl, by rw [hU], by rw [hU]; exact hPc, va_K.moved hW.alike hKc, hDc.weaken (fun _ _ _ _ => trivial)⟩⟩ rfl hAs hsize hst (lv_room hW) hdg hf) hS (fun q _ h => hFc q h) hFc (fun r' u t H1 locs1 ht hvm hw hB hz1 hk1 hS1 => ?_)
  obtain ⟨hP1, hK1, hD1⟩ := hB
  rw [ht] at hP1
  have hw : r' = r := hw
  subst hw
  exact kk H1 locs1 ⟨(ws_join hP hD isC hC hl hk1 hFc hP1 hD1).1, (ws_join hP hD isC hC hl hk1 hFc hP1 hD1).2, hS1⟩
theorem gc_vS (S : CallFix p m c cc nL s args Ts own) (hM : mv_M l y wsy rm D tysC As wc w1) (cw : CallB R s args own index y bytes maxL ret wsy rm 0 0 n ∧ (Cond.static y).before args s = true)
    (hK : va_K D vwCl tys s) (isK : List Nat) (hKs : isK.filterMap (fun i => tys[i]?) = tysC) (hA : ∀ q, s.heap.size ≤ q → A q) (hG : gd_W D A s ws H locs) (isC : List Nat) (hn : va_nd isC = true) (hC : isC.map (fun i => ws[i]?) = wc.map some) (hl : w1.length = wc.length)
    (hAs : As.length = n) (hsize : ls.size = nL) (hst : st0 = As.reverse ++ rest) (hW : (rest.map fun v => v.category).sum ≤ 8) (hdg : decode cc pc = .ok (.invokestatic index, 3)) (hf : cells ≤ R.cells ∧ slots ≤ R.slots)
    (kk : ∀ (H1 : Heap) (locs1 : List Loc), gd_W D A s (ws_sets ws isC w1) H1 locs1 → W p l e R s m args below meth c H1 locs1 cells slots Q (F0 m (pc + 3) ls rest)) : W p l e R s m args below meth c H locs cells slots Q (F0 m pc ls st0) := by
  obtain ⟨hP, hD, hS⟩ := hG
  have hPc := ws_P hP isC hC
  have hDc := hD.sub isC hn hC
  have hKc := hK.sub isK hKs
  have hFc := ws_free hD hS hA isC hC
  refine va_callv (va_runS (As := As) (rest := rest) S (hM H.size) cw ⟨pc_W_blind, fun U hU hW => ⟨rfl, by rw [hU], by rw [hU]; exact hPc, va_K.moved hW.alike hKc, hDc.weaken (fun _ _ _ _ => trivial)⟩⟩ rfl hAs hsize hst (lv_room hW) hdg hf) hS (fun q _ h => hFc q h) hFc (fun u t H1 locs1 ht hvm hw hB hz1 hk1 hS1 => ?_)
  obtain ⟨hP1, hK1, hD1⟩ := hB
  rw [ht] at hP1
  exact kk H1 locs1 ⟨(ws_join hP hD isC hC hl hk1 hFc hP1 hD1).1, (ws_join hP hD isC hC hl hk1 hFc hP1 hD1).2, hS1⟩
/-- ends -/
theorem gr_i (hx : p.tables.exec = Jvm.exec) (hb : c.code = cc) (hr : meth.sig.returnType = some .int) (hlocks : meth.locks = false) (hK : va_K D vwCl tys s) (hG : gd_W D A s w1 H locs) {v : Int32} (hv : v = r) (hdg : decode cc pc = .ok (.ireturn, 1)) : W p l e R s m args below meth c H locs cells slots (MQ below (qi_W D tys A r w1) args s cells slots A) (F0 m pc ls [.int v]) := by
  obtain ⟨hP, hD, hS⟩ := hG
  exact W.iret (v := v) hx hb hr (fun t ht hW => ⟨⟨v, (), rfl, hv, by rw [ht]; exact hP, va_K.moved hW.alike hK, hD⟩, hS.F ht⟩) hS.2.2 hdg
theorem gr_z {ty : FieldType} (hx : p.tables.exec = Jvm.exec) (hb : c.code = cc) (hr : meth.sig.returnType = some ty) (hlocks : meth.locks = false) (hK : va_K D vwCl tys s) (hG : gd_W D A s w1 H locs) {v : Int32} (hv : v = r) (hn : narrow ty (.int v) = .int v) (hdg : decode cc pc = .ok (.ireturn, 1)) : W p l e R s m args below meth c H locs cells slots (MQ below (qi_W D tys A r w1) args s cells slots A) (F0 m pc ls [.int v]) := by
  obtain ⟨hP, hD, hS⟩ := hG
  exact W.zret (v := v) hx hb hr hn (fun t ht hW => ⟨⟨v, (), rfl, hv, by rw [ht]; exact hP, va_K.moved hW.alike hK, hD⟩, hS.F ht⟩) hS.2.2 hdg
theorem gr_v (hx : p.tables.exec = Jvm.exec) (hb : c.code = cc) (hr : meth.sig.returnType = none) (hlocks : meth.locks = false) (hK : va_K D vwCl tys s) (hG : gd_W D A s w1 H locs) (hdg : decode cc pc = .ok (.return_, 1)) : W p l e R s m args below meth c H locs cells slots (MQ below (qv_W D tys A w1) args s cells slots A) (F0 m pc ls []) := by
  obtain ⟨hP, hD, hS⟩ := hG
  exact W.vret hx hb hr (fun t ht hW => ⟨⟨(), rfl, trivial, by rw [ht]; exact hP, va_K.moved hW.alike hK, hD⟩, hS.F ht⟩) hS.2.2 hdg
end CALLS
end
section
theorem wq_1 : Cond.selects RX0 yX0_payDebts yX0_payDebts ∈ bg_L := bg_at 1 (by decide +kernel) rfl
theorem wq_2 : Cond.selects RX0 yX0_payWhatThereIs yX0_payWhatThereIs ∈ bg_L := bg_at 2 (by decide +kernel) rfl
theorem wq_3 : Cond.selects RX0 yX0_move yX0_move ∈ bg_L := bg_at 3 (by decide +kernel) rfl
theorem wq_4 : Cond.selects RX0 yX0_throwDie yX0_throwDie ∈ bg_L := bg_at 4 (by decide +kernel) rfl
theorem wq_5 : Cond.selects RX0 yX0_tryToClaim yX0_tryToClaim ∈ bg_L := bg_at 5 (by decide +kernel) rfl
theorem wq_6 : Cond.selects RX0 yX0_payToll yX0_payToll ∈ bg_L := bg_at 6 (by decide +kernel) rfl
theorem wq_7 : Cond.selects RX0 yX0_loseSquares yX0_loseSquares ∈ bg_L := bg_at 7 (by decide +kernel) rfl
theorem wq_8 : Cond.selects RX1 yX1_nextOnRing yX1_nextOnRing ∈ bg_L := bg_at 8 (by decide +kernel) rfl
theorem wq_9 : Cond.selects RX0 yX0_playersOn yX0_playersOn ∈ bg_L := bg_at 9 (by decide +kernel) rfl
theorem wq_11 : Cond.selects RX8 yX8_record yX8_record ∈ bg_L := bg_at 11 (by decide +kernel) rfl
theorem wq_12 : Cond.selects RX8 yX8_whyNoPlayer yX8_whyNoPlayer ∈ bg_L := bg_at 12 (by decide +kernel) rfl
theorem wq_13 : Cond.selects RX8 yX8_comes yX8_comes ∈ bg_L := bg_at 13 (by decide +kernel) rfl
theorem wq_14 : Cond.selects RX8 yX8_whyNoTurns yX8_whyNoTurns ∈ bg_L := bg_at 14 (by decide +kernel) rfl
theorem wq_15 : Cond.selects RX8 yX8_doTurns yX8_doTurns ∈ bg_L := bg_at 15 (by decide +kernel) rfl
theorem wq_16 : Cond.selects RX8 yX8_sumOf yX8_sumOf ∈ bg_L := bg_at 16 (by decide +kernel) rfl
theorem wq_17 : Cond.selects RX8 yX8_playerPart yX8_playerPart ∈ bg_L := bg_at 17 (by decide +kernel) rfl
theorem wq_18 : Cond.selects RX8 yX8_turn yX8_turn ∈ bg_L := bg_at 18 (by decide +kernel) rfl
theorem wq_19 : Cond.selects RX8 yX8_paysDebts yX8_paysDebts ∈ bg_L := bg_at 19 (by decide +kernel) rfl
theorem wq_20 : Cond.selects RX8 yX8_oldest yX8_oldest ∈ bg_L := bg_at 20 (by decide +kernel) rfl
theorem wq_21 : Cond.selects RX8 yX8_debtOf yX8_debtOf ∈ bg_L := bg_at 21 (by decide +kernel) rfl
theorem wq_22 : Cond.selects RX8 yX8_ageOf yX8_ageOf ∈ bg_L := bg_at 22 (by decide +kernel) rfl
theorem wq_23 : Cond.selects RX8 yX8_pays yX8_pays ∈ bg_L := bg_at 23 (by decide +kernel) rfl
theorem wq_24 : Cond.selects RX8 yX8_adds yX8_adds ∈ bg_L := bg_at 24 (by decide +kernel) rfl
theorem wq_25 : Cond.selects RX8 yX8_addsDebt yX8_addsDebt ∈ bg_L := bg_at 25 (by decide +kernel) rfl
theorem wq_26 : Cond.selects RX8 yX8_goes yX8_goes ∈ bg_L := bg_at 26 (by decide +kernel) rfl
theorem wq_27 : Cond.selects RX8 yX8_die yX8_die ∈ bg_L := bg_at 27 (by decide +kernel) rfl
theorem wq_28 : Cond.selects RX8 yX8_arrives yX8_arrives ∈ bg_L := bg_at 28 (by decide +kernel) rfl
theorem wq_29 : Cond.selects RX8 yX8_owns yX8_owns ∈ bg_L := bg_at 29 (by decide +kernel) rfl
theorem wq_30 : Cond.selects RX8 yX8_canBeClaimed yX8_canBeClaimed ∈ bg_L := bg_at 30 (by decide +kernel) rfl
theorem wq_31 : Cond.selects RX8 yX8_claims yX8_claims ∈ bg_L := bg_at 31 (by decide +kernel) rfl
theorem wq_32 : Cond.selects RX8 yX8_tollOf yX8_tollOf ∈ bg_L := bg_at 32 (by decide +kernel) rfl
theorem wq_33 : Cond.selects RX8 yX8_paysToll yX8_paysToll ∈ bg_L := bg_at 33 (by decide +kernel) rfl
theorem wq_34 : Cond.selects RX8 yX8_growsOlder yX8_growsOlder ∈ bg_L := bg_at 34 (by decide +kernel) rfl
theorem wq_35 : Cond.selects RX8 yX8_lowestOf yX8_lowestOf ∈ bg_L := bg_at 35 (by decide +kernel) rfl
theorem wq_36 : Cond.selects RX8 yX8_hands yX8_hands ∈ bg_L := bg_at 36 (by decide +kernel) rfl
theorem wq_37 : Cond.selects RX8 yX8_isPlayer yX8_isPlayer ∈ bg_L := bg_at 37 (by decide +kernel) rfl
theorem wq_38 : Cond.selects RX8 yX8_clears yX8_clears ∈ bg_L := bg_at 38 (by decide +kernel) rfl
theorem wq_39 : Cond.selects RX8 yX8_findRing yX8_findRing ∈ bg_L := bg_at 39 (by decide +kernel) rfl
theorem wq_40 : Cond.selects RX8 yX8_takesRing yX8_takesRing ∈ bg_L := bg_at 40 (by decide +kernel) rfl
theorem wq_41 : Cond.selects RX8 yX8_clearsRing yX8_clearsRing ∈ bg_L := bg_at 41 (by decide +kernel) rfl
theorem wq_42 : Cond.selects RX8 yX8_ownedBy yX8_ownedBy ∈ bg_L := bg_at 42 (by decide +kernel) rfl
theorem wq_43 : Cond.selects RX8 yX8_owedBy yX8_owedBy ∈ bg_L := bg_at 43 (by decide +kernel) rfl
theorem wq_44 : Cond.selects RX8 yX8_owedTo yX8_owedTo ∈ bg_L := bg_at 44 (by decide +kernel) rfl
theorem wq_45 : Cond.selects RX8 yX8_standingAt yX8_standingAt ∈ bg_L := bg_at 45 (by decide +kernel) rfl
theorem wq_46 : Cond.selects RX8 yX8_debtsMany yX8_debtsMany ∈ bg_L := bg_at 46 (by decide +kernel) rfl
theorem wq_47 : Cond.selects RX8 yX8_sumOfDebts yX8_sumOfDebts ∈ bg_L := bg_at 47 (by decide +kernel) rfl
theorem wq_48 : Cond.selects RX8 yX8_writes yX8_writes ∈ bg_L := bg_at 48 (by decide +kernel) rfl
theorem wq_49 : Cond.selects RX8 yX8_writesSquare yX8_writesSquare ∈ bg_L := bg_at 49 (by decide +kernel) rfl
theorem wq_50 : Cond.selects RX8 yX8_writesSign yX8_writesSign ∈ bg_L := bg_at 50 (by decide +kernel) rfl
theorem wq_51 : Cond.selects RX8 yX8_findFault yX8_findFault ∈ bg_L := bg_at 51 (by decide +kernel) rfl
theorem wq_52 : Cond.selects RX8 yX8_readsOrder yX8_readsOrder ∈ bg_L := bg_at 52 (by decide +kernel) rfl
theorem wq_53 : Cond.selects RX8 yX8_character yX8_character ∈ bg_L := bg_at 53 (by decide +kernel) rfl
theorem wq_54 : Cond.selects RX8 yX8_takesNumber yX8_takesNumber ∈ bg_L := bg_at 54 (by decide +kernel) rfl
theorem wq_55 : Cond.selects RX8 yX8_isDigit yX8_isDigit ∈ bg_L := bg_at 55 (by decide +kernel) rfl
theorem wq_56 : Cond.selects RX8 yX8_isNext yX8_isNext ∈ bg_L := bg_at 56 (by decide +kernel) rfl
theorem wq_57 : Cond.selects RX8 yX8_whyNotDone yX8_whyNotDone ∈ bg_L := bg_at 57 (by decide +kernel) rfl
theorem wq_58 : Cond.selects RX8 yX8_does yX8_does ∈ bg_L := bg_at 58 (by decide +kernel) rfl
theorem wq_61 : Cond.initialized RX0 ∈ bg_L := bg_at 61 (by decide +kernel) rfl
theorem wq_62 : Cond.initialized RX5 ∈ bg_L := bg_at 62 (by decide +kernel) rfl
theorem wq_63 : Cond.initialized RX6 ∈ bg_L := bg_at 63 (by decide +kernel) rfl
theorem wq_64 : Cond.initialized "java/lang/Math" ∈ bg_L := bg_at 64 (by decide +kernel) rfl
theorem wq_65 : Cond.initialized RX1 ∈ bg_L := bg_at 65 (by decide +kernel) rfl
theorem wq_67 : Cond.initialized RX3 ∈ bg_L := bg_at 67 (by decide +kernel) rfl
theorem wq_68 : Cond.initialized RX8 ∈ bg_L := bg_at 68 (by decide +kernel) rfl
theorem wq_69 : Cond.initialized RX4 ∈ bg_L := bg_at 69 (by decide +kernel) rfl
theorem wq_99 : Cond.fieldLink RX6 13 "DiceRoads$Row" "cells" "[I" ∈ bg_L := bg_at 99 (by decide +kernel) rfl
theorem wq_100 : Cond.fieldLink RX6 19 "DiceRoads$Row" "empty" "I" ∈ bg_L := bg_at 100 (by decide +kernel) rfl
theorem wq_107 : Cond.fieldLink RX5 14 "DiceRoads$Roads" "first" "LDiceRoads$Row;" ∈ bg_L := bg_at 107 (by decide +kernel) rfl
theorem wq_108 : Cond.fieldLink RX5 20 "DiceRoads$Roads" "second" "LDiceRoads$Row;" ∈ bg_L := bg_at 108 (by decide +kernel) rfl
theorem wq_122 : Cond.fieldLink RX1 14 "DiceRoads$Debts" "coins" "LDiceRoads$Row;" ∈ bg_L := bg_at 122 (by decide +kernel) rfl
theorem wq_123 : Cond.fieldLink RX1 20 "DiceRoads$Debts" "ages" "LDiceRoads$Row;" ∈ bg_L := bg_at 123 (by decide +kernel) rfl
theorem wq_124 : Cond.fieldLink RX1 23 "DiceRoads$Debts" "ring" "LDiceRoads$Row;" ∈ bg_L := bg_at 124 (by decide +kernel) rfl
theorem wq_136 : Cond.methodLink RX0 75 yX6_write ∈ bg_L := bg_at 136 (by decide +kernel) rfl
theorem wq_137 : Cond.instanceMethod yX6_write ∈ bg_L := bg_at 137 (by decide +kernel) rfl
theorem wq_138 : Cond.selects RX6 yX6_write yX6_write ∈ bg_L := bg_at 138 (by decide +kernel) rfl
theorem wq_139 : Cond.code yX6_write cX6_write 3 none ∈ bg_L := bg_at 139 (by decide +kernel) rfl
theorem wq_140 : Cond.fieldLink RX0 12 "DiceRoads$Board" "roads" "LDiceRoads$Roads;" ∈ bg_L := bg_at 140 (by decide +kernel) rfl
theorem wq_141 : Cond.fieldLink RX0 21 "DiceRoads$Board" "debts" "LDiceRoads$Debts;" ∈ bg_L := bg_at 141 (by decide +kernel) rfl
theorem wq_143 : Cond.fieldLink RX0 30 "DiceRoads$Board" "settings" "LDiceRoads$Row;" ∈ bg_L := bg_at 143 (by decide +kernel) rfl
theorem wq_144 : Cond.fieldLink RX0 34 "DiceRoads$Board" "purses" "LDiceRoads$Row;" ∈ bg_L := bg_at 144 (by decide +kernel) rfl
theorem wq_145 : Cond.fieldLink RX0 37 "DiceRoads$Board" "places" "LDiceRoads$Row;" ∈ bg_L := bg_at 145 (by decide +kernel) rfl
theorem wq_146 : Cond.fieldLink RX0 40 "DiceRoads$Board" "tollsPaid" "LDiceRoads$Row;" ∈ bg_L := bg_at 146 (by decide +kernel) rfl
theorem wq_147 : Cond.fieldLink RX0 43 "DiceRoads$Board" "tollsGot" "LDiceRoads$Row;" ∈ bg_L := bg_at 147 (by decide +kernel) rfl
theorem wq_148 : Cond.fieldLink RX0 46 "DiceRoads$Board" "turnsDone" "LDiceRoads$Row;" ∈ bg_L := bg_at 148 (by decide +kernel) rfl
theorem wq_149 : Cond.fieldLink RX0 49 "DiceRoads$Board" "squaresLost" "LDiceRoads$Row;" ∈ bg_L := bg_at 149 (by decide +kernel) rfl
theorem wq_150 : Cond.fieldLink RX0 52 "DiceRoads$Board" "players" "I" ∈ bg_L := bg_at 150 (by decide +kernel) rfl
theorem wq_151 : Cond.fieldLink RX0 56 "DiceRoads$Board" "next" "I" ∈ bg_L := bg_at 151 (by decide +kernel) rfl
theorem wq_152 : Cond.fieldLink RX0 59 "DiceRoads$Board" "draw" "I" ∈ bg_L := bg_at 152 (by decide +kernel) rfl
theorem wq_153 : Cond.fieldLink RX0 62 "DiceRoads$Board" "turns" "I" ∈ bg_L := bg_at 153 (by decide +kernel) rfl
theorem wq_154 : Cond.fieldLink RX0 65 "DiceRoads$Board" "paidToNobody" "I" ∈ bg_L := bg_at 154 (by decide +kernel) rfl
theorem wq_155 : Cond.fieldLink RX0 68 "DiceRoads$Board" "wages" "I" ∈ bg_L := bg_at 155 (by decide +kernel) rfl
theorem wq_214 : Cond.fieldLink RX3 20 "DiceRoads$Line" "signs" "LDiceRoads$Row;" ∈ bg_L := bg_at 214 (by decide +kernel) rfl
theorem wq_215 : Cond.fieldLink RX3 24 "DiceRoads$Line" "room" "I" ∈ bg_L := bg_at 215 (by decide +kernel) rfl
theorem wq_216 : Cond.fieldLink RX3 9 "DiceRoads$Line" "length" "I" ∈ bg_L := bg_at 216 (by decide +kernel) rfl
theorem wq_255 : Cond.methodLink RX0 78 yX5_copyFrom ∈ bg_L := bg_at 255 (by decide +kernel) rfl
theorem wq_256 : Cond.instanceMethod yX5_copyFrom ∈ bg_L := bg_at 256 (by decide +kernel) rfl
theorem wq_257 : Cond.selects RX5 yX5_copyFrom yX5_copyFrom ∈ bg_L := bg_at 257 (by decide +kernel) rfl
theorem wq_258 : Cond.code yX5_copyFrom cX5_copyFrom 2 none ∈ bg_L := bg_at 258 (by decide +kernel) rfl
theorem wq_259 : Cond.methodLink RX5 23 yX6_copyFrom ∈ bg_L := bg_at 259 (by decide +kernel) rfl
theorem wq_260 : Cond.instanceMethod yX6_copyFrom ∈ bg_L := bg_at 260 (by decide +kernel) rfl
theorem wq_261 : Cond.selects RX6 yX6_copyFrom yX6_copyFrom ∈ bg_L := bg_at 261 (by decide +kernel) rfl
theorem wq_262 : Cond.code yX6_copyFrom cX6_copyFrom 3 none ∈ bg_L := bg_at 262 (by decide +kernel) rfl
theorem wq_263 : Cond.methodLink RX0 82 yX1_copyFrom ∈ bg_L := bg_at 263 (by decide +kernel) rfl
theorem wq_264 : Cond.instanceMethod yX1_copyFrom ∈ bg_L := bg_at 264 (by decide +kernel) rfl
theorem wq_265 : Cond.selects RX1 yX1_copyFrom yX1_copyFrom ∈ bg_L := bg_at 265 (by decide +kernel) rfl
theorem wq_266 : Cond.code yX1_copyFrom cX1_copyFrom 2 none ∈ bg_L := bg_at 266 (by decide +kernel) rfl
theorem wq_267 : Cond.methodLink RX1 26 yX6_copyFrom ∈ bg_L := bg_at 267 (by decide +kernel) rfl
theorem wq_268 : Cond.methodLink RX0 85 yX6_copyFrom ∈ bg_L := bg_at 268 (by decide +kernel) rfl
theorem wq_277 : Cond.methodLink RX0 94 yX6_at ∈ bg_L := bg_at 277 (by decide +kernel) rfl
theorem wq_278 : Cond.instanceMethod yX6_at ∈ bg_L := bg_at 278 (by decide +kernel) rfl
theorem wq_279 : Cond.selects RX6 yX6_at yX6_at ∈ bg_L := bg_at 279 (by decide +kernel) rfl
theorem wq_280 : Cond.code yX6_at cX6_at 2 (some .int) ∈ bg_L := bg_at 280 (by decide +kernel) rfl
theorem wq_290 : Cond.static Lib.Math.min.name ∈ bg_L := bg_at 290 (by decide +kernel) rfl
theorem wq_291 : Cond.code Lib.Math.min.name Lib.Math.min.code 2 (some .int) ∈ bg_L := bg_at 291 (by decide +kernel) rfl
theorem wq_316 : Cond.methodLink RX0 98 yX6_sum ∈ bg_L := bg_at 316 (by decide +kernel) rfl
theorem wq_317 : Cond.instanceMethod yX6_sum ∈ bg_L := bg_at 317 (by decide +kernel) rfl
theorem wq_318 : Cond.selects RX6 yX6_sum yX6_sum ∈ bg_L := bg_at 318 (by decide +kernel) rfl
theorem wq_319 : Cond.code yX6_sum cX6_sum 3 (some .int) ∈ bg_L := bg_at 319 (by decide +kernel) rfl
theorem wq_320 : Cond.methodLink RX0 102 yX0_takeTurn ∈ bg_L := bg_at 320 (by decide +kernel) rfl
theorem wq_321 : Cond.instanceMethod yX0_takeTurn ∈ bg_L := bg_at 321 (by decide +kernel) rfl
theorem wq_322 : Cond.selects RX0 yX0_takeTurn yX0_takeTurn ∈ bg_L := bg_at 322 (by decide +kernel) rfl
theorem wq_323 : Cond.code yX0_takeTurn cX0_takeTurn 2 none ∈ bg_L := bg_at 323 (by decide +kernel) rfl
theorem wq_324 : Cond.methodLink RX0 112 yX0_payDebts ∈ bg_L := bg_at 324 (by decide +kernel) rfl
theorem wq_326 : Cond.instanceMethod yX0_payDebts ∈ bg_L := bg_at 326 (by decide +kernel) rfl
theorem wq_327 : Cond.code yX0_payDebts cX0_payDebts 5 none ∈ bg_L := bg_at 327 (by decide +kernel) rfl
theorem wq_328 : Cond.methodLink RX0 134 yX1_oldestOf ∈ bg_L := bg_at 328 (by decide +kernel) rfl
theorem wq_329 : Cond.instanceMethod yX1_oldestOf ∈ bg_L := bg_at 329 (by decide +kernel) rfl
theorem wq_330 : Cond.selects RX1 yX1_oldestOf yX1_oldestOf ∈ bg_L := bg_at 330 (by decide +kernel) rfl
theorem wq_331 : Cond.code yX1_oldestOf cX1_oldestOf 6 (some .int) ∈ bg_L := bg_at 331 (by decide +kernel) rfl
theorem wq_332 : Cond.methodLink RX1 30 yX6_at ∈ bg_L := bg_at 332 (by decide +kernel) rfl
theorem wq_333 : Cond.methodLink RX0 137 yX1_coinsOf ∈ bg_L := bg_at 333 (by decide +kernel) rfl
theorem wq_334 : Cond.instanceMethod yX1_coinsOf ∈ bg_L := bg_at 334 (by decide +kernel) rfl
theorem wq_335 : Cond.selects RX1 yX1_coinsOf yX1_coinsOf ∈ bg_L := bg_at 335 (by decide +kernel) rfl
theorem wq_336 : Cond.code yX1_coinsOf cX1_coinsOf 3 (some .int) ∈ bg_L := bg_at 336 (by decide +kernel) rfl
theorem wq_337 : Cond.methodLink RX0 141 yX0_payWhatThereIs ∈ bg_L := bg_at 337 (by decide +kernel) rfl
theorem wq_339 : Cond.instanceMethod yX0_payWhatThereIs ∈ bg_L := bg_at 339 (by decide +kernel) rfl
theorem wq_340 : Cond.code yX0_payWhatThereIs cX0_payWhatThereIs 5 (some .int) ∈ bg_L := bg_at 340 (by decide +kernel) rfl
theorem wq_341 : Cond.methodLink RX0 149 Lib.Math.min.name ∈ bg_L := bg_at 341 (by decide +kernel) rfl
theorem wq_342 : Cond.methodLink RX0 131 yX6_add ∈ bg_L := bg_at 342 (by decide +kernel) rfl
theorem wq_343 : Cond.instanceMethod yX6_add ∈ bg_L := bg_at 343 (by decide +kernel) rfl
theorem wq_344 : Cond.selects RX6 yX6_add yX6_add ∈ bg_L := bg_at 344 (by decide +kernel) rfl
theorem wq_345 : Cond.code yX6_add cX6_add 3 none ∈ bg_L := bg_at 345 (by decide +kernel) rfl
theorem wq_346 : Cond.methodLink RX0 145 yX1_shrink ∈ bg_L := bg_at 346 (by decide +kernel) rfl
theorem wq_347 : Cond.instanceMethod yX1_shrink ∈ bg_L := bg_at 347 (by decide +kernel) rfl
theorem wq_348 : Cond.selects RX1 yX1_shrink yX1_shrink ∈ bg_L := bg_at 348 (by decide +kernel) rfl
theorem wq_349 : Cond.code yX1_shrink cX1_shrink 5 none ∈ bg_L := bg_at 349 (by decide +kernel) rfl
theorem wq_350 : Cond.methodLink RX1 37 yX6_add ∈ bg_L := bg_at 350 (by decide +kernel) rfl
theorem wq_351 : Cond.methodLink RX1 34 yX6_write ∈ bg_L := bg_at 351 (by decide +kernel) rfl
theorem wq_352 : Cond.methodLink RX0 116 yX0_move ∈ bg_L := bg_at 352 (by decide +kernel) rfl
theorem wq_354 : Cond.instanceMethod yX0_move ∈ bg_L := bg_at 354 (by decide +kernel) rfl
theorem wq_355 : Cond.code yX0_move cX0_move 5 none ∈ bg_L := bg_at 355 (by decide +kernel) rfl
theorem wq_356 : Cond.methodLink RX0 154 yX0_throwDie ∈ bg_L := bg_at 356 (by decide +kernel) rfl
theorem wq_358 : Cond.instanceMethod yX0_throwDie ∈ bg_L := bg_at 358 (by decide +kernel) rfl
theorem wq_359 : Cond.code yX0_throwDie cX0_throwDie 1 (some .int) ∈ bg_L := bg_at 359 (by decide +kernel) rfl
theorem wq_360 : Cond.constant RX0 157 (65537) ∈ bg_L := bg_at 360 (by decide +kernel) rfl
theorem wq_361 : Cond.methodLink RX0 119 yX0_tryToClaim ∈ bg_L := bg_at 361 (by decide +kernel) rfl
theorem wq_363 : Cond.instanceMethod yX0_tryToClaim ∈ bg_L := bg_at 363 (by decide +kernel) rfl
theorem wq_364 : Cond.code yX0_tryToClaim cX0_tryToClaim 5 none ∈ bg_L := bg_at 364 (by decide +kernel) rfl
theorem wq_365 : Cond.methodLink RX0 158 yX5_isOwnedBy ∈ bg_L := bg_at 365 (by decide +kernel) rfl
theorem wq_366 : Cond.instanceMethod yX5_isOwnedBy ∈ bg_L := bg_at 366 (by decide +kernel) rfl
theorem wq_367 : Cond.selects RX5 yX5_isOwnedBy yX5_isOwnedBy ∈ bg_L := bg_at 367 (by decide +kernel) rfl
theorem wq_368 : Cond.code yX5_isOwnedBy cX5_isOwnedBy 3 (some .boolean) ∈ bg_L := bg_at 368 (by decide +kernel) rfl
theorem wq_369 : Cond.methodLink RX5 27 yX6_at ∈ bg_L := bg_at 369 (by decide +kernel) rfl
theorem wq_370 : Cond.methodLink RX0 162 yX5_hasFreePart ∈ bg_L := bg_at 370 (by decide +kernel) rfl
theorem wq_371 : Cond.instanceMethod yX5_hasFreePart ∈ bg_L := bg_at 371 (by decide +kernel) rfl
theorem wq_372 : Cond.selects RX5 yX5_hasFreePart yX5_hasFreePart ∈ bg_L := bg_at 372 (by decide +kernel) rfl
theorem wq_373 : Cond.code yX5_hasFreePart cX5_hasFreePart 3 (some .boolean) ∈ bg_L := bg_at 373 (by decide +kernel) rfl
theorem wq_374 : Cond.methodLink RX5 31 yX5_sortOf ∈ bg_L := bg_at 374 (by decide +kernel) rfl
theorem wq_375 : Cond.static yX5_sortOf ∈ bg_L := bg_at 375 (by decide +kernel) rfl
theorem wq_376 : Cond.code yX5_sortOf cX5_sortOf 1 (some .int) ∈ bg_L := bg_at 376 (by decide +kernel) rfl
theorem wq_377 : Cond.methodLink RX0 165 yX5_firstOwner ∈ bg_L := bg_at 377 (by decide +kernel) rfl
theorem wq_378 : Cond.instanceMethod yX5_firstOwner ∈ bg_L := bg_at 378 (by decide +kernel) rfl
theorem wq_379 : Cond.selects RX5 yX5_firstOwner yX5_firstOwner ∈ bg_L := bg_at 379 (by decide +kernel) rfl
theorem wq_380 : Cond.code yX5_firstOwner cX5_firstOwner 2 (some .int) ∈ bg_L := bg_at 380 (by decide +kernel) rfl
theorem wq_381 : Cond.methodLink RX0 168 yX5_giveFreePart ∈ bg_L := bg_at 381 (by decide +kernel) rfl
theorem wq_382 : Cond.instanceMethod yX5_giveFreePart ∈ bg_L := bg_at 382 (by decide +kernel) rfl
theorem wq_383 : Cond.selects RX5 yX5_giveFreePart yX5_giveFreePart ∈ bg_L := bg_at 383 (by decide +kernel) rfl
theorem wq_384 : Cond.code yX5_giveFreePart cX5_giveFreePart 3 none ∈ bg_L := bg_at 384 (by decide +kernel) rfl
theorem wq_385 : Cond.methodLink RX5 34 yX6_write ∈ bg_L := bg_at 385 (by decide +kernel) rfl
theorem wq_386 : Cond.methodLink RX0 122 yX0_payToll ∈ bg_L := bg_at 386 (by decide +kernel) rfl
theorem wq_388 : Cond.instanceMethod yX0_payToll ∈ bg_L := bg_at 388 (by decide +kernel) rfl
theorem wq_389 : Cond.code yX0_payToll cX0_payToll 8 none ∈ bg_L := bg_at 389 (by decide +kernel) rfl
theorem wq_390 : Cond.methodLink RX0 171 yX5_secondOwner ∈ bg_L := bg_at 390 (by decide +kernel) rfl
theorem wq_391 : Cond.instanceMethod yX5_secondOwner ∈ bg_L := bg_at 391 (by decide +kernel) rfl
theorem wq_392 : Cond.selects RX5 yX5_secondOwner yX5_secondOwner ∈ bg_L := bg_at 392 (by decide +kernel) rfl
theorem wq_393 : Cond.code yX5_secondOwner cX5_secondOwner 2 (some .int) ∈ bg_L := bg_at 393 (by decide +kernel) rfl
theorem wq_394 : Cond.methodLink RX0 174 yX5_toll ∈ bg_L := bg_at 394 (by decide +kernel) rfl
theorem wq_395 : Cond.instanceMethod yX5_toll ∈ bg_L := bg_at 395 (by decide +kernel) rfl
theorem wq_396 : Cond.selects RX5 yX5_toll yX5_toll ∈ bg_L := bg_at 396 (by decide +kernel) rfl
theorem wq_397 : Cond.code yX5_toll cX5_toll 7 (some .int) ∈ bg_L := bg_at 397 (by decide +kernel) rfl
theorem wq_398 : Cond.methodLink RX0 177 yX1_grow ∈ bg_L := bg_at 398 (by decide +kernel) rfl
theorem wq_399 : Cond.instanceMethod yX1_grow ∈ bg_L := bg_at 399 (by decide +kernel) rfl
theorem wq_400 : Cond.selects RX1 yX1_grow yX1_grow ∈ bg_L := bg_at 400 (by decide +kernel) rfl
theorem wq_401 : Cond.code yX1_grow cX1_grow 5 none ∈ bg_L := bg_at 401 (by decide +kernel) rfl
theorem wq_402 : Cond.methodLink RX0 125 yX1_makeOlder ∈ bg_L := bg_at 402 (by decide +kernel) rfl
theorem wq_403 : Cond.instanceMethod yX1_makeOlder ∈ bg_L := bg_at 403 (by decide +kernel) rfl
theorem wq_404 : Cond.selects RX1 yX1_makeOlder yX1_makeOlder ∈ bg_L := bg_at 404 (by decide +kernel) rfl
theorem wq_405 : Cond.code yX1_makeOlder cX1_makeOlder 4 none ∈ bg_L := bg_at 405 (by decide +kernel) rfl
theorem wq_406 : Cond.methodLink RX0 128 yX0_loseSquares ∈ bg_L := bg_at 406 (by decide +kernel) rfl
theorem wq_408 : Cond.instanceMethod yX0_loseSquares ∈ bg_L := bg_at 408 (by decide +kernel) rfl
theorem wq_409 : Cond.code yX0_loseSquares cX0_loseSquares 5 none ∈ bg_L := bg_at 409 (by decide +kernel) rfl
theorem wq_410 : Cond.methodLink RX0 180 yX1_ageOf ∈ bg_L := bg_at 410 (by decide +kernel) rfl
theorem wq_411 : Cond.instanceMethod yX1_ageOf ∈ bg_L := bg_at 411 (by decide +kernel) rfl
theorem wq_412 : Cond.selects RX1 yX1_ageOf yX1_ageOf ∈ bg_L := bg_at 412 (by decide +kernel) rfl
theorem wq_413 : Cond.code yX1_ageOf cX1_ageOf 3 (some .int) ∈ bg_L := bg_at 413 (by decide +kernel) rfl
theorem wq_414 : Cond.methodLink RX0 183 yX5_lowestOf ∈ bg_L := bg_at 414 (by decide +kernel) rfl
theorem wq_415 : Cond.instanceMethod yX5_lowestOf ∈ bg_L := bg_at 415 (by decide +kernel) rfl
theorem wq_416 : Cond.selects RX5 yX5_lowestOf yX5_lowestOf ∈ bg_L := bg_at 416 (by decide +kernel) rfl
theorem wq_417 : Cond.code yX5_lowestOf cX5_lowestOf 3 (some .int) ∈ bg_L := bg_at 417 (by decide +kernel) rfl
theorem wq_418 : Cond.methodLink RX0 186 yX5_handOn ∈ bg_L := bg_at 418 (by decide +kernel) rfl
theorem wq_419 : Cond.instanceMethod yX5_handOn ∈ bg_L := bg_at 419 (by decide +kernel) rfl
theorem wq_420 : Cond.selects RX5 yX5_handOn yX5_handOn ∈ bg_L := bg_at 420 (by decide +kernel) rfl
theorem wq_421 : Cond.code yX5_handOn cX5_handOn 6 none ∈ bg_L := bg_at 421 (by decide +kernel) rfl
theorem wq_430 : Cond.methodLink RX0 105 yX0_hasPlayer ∈ bg_L := bg_at 430 (by decide +kernel) rfl
theorem wq_431 : Cond.instanceMethod yX0_hasPlayer ∈ bg_L := bg_at 431 (by decide +kernel) rfl
theorem wq_432 : Cond.selects RX0 yX0_hasPlayer yX0_hasPlayer ∈ bg_L := bg_at 432 (by decide +kernel) rfl
theorem wq_433 : Cond.code yX0_hasPlayer cX0_hasPlayer 2 (some .boolean) ∈ bg_L := bg_at 433 (by decide +kernel) rfl
theorem wq_434 : Cond.methodLink RX0 109 yX1_clearRing ∈ bg_L := bg_at 434 (by decide +kernel) rfl
theorem wq_435 : Cond.instanceMethod yX1_clearRing ∈ bg_L := bg_at 435 (by decide +kernel) rfl
theorem wq_436 : Cond.selects RX1 yX1_clearRing yX1_clearRing ∈ bg_L := bg_at 436 (by decide +kernel) rfl
theorem wq_437 : Cond.code yX1_clearRing cX1_clearRing 8 (some .int) ∈ bg_L := bg_at 437 (by decide +kernel) rfl
theorem wq_438 : Cond.methodLink RX1 44 yX1_distance ∈ bg_L := bg_at 438 (by decide +kernel) rfl
theorem wq_439 : Cond.instanceMethod yX1_distance ∈ bg_L := bg_at 439 (by decide +kernel) rfl
theorem wq_440 : Cond.selects RX1 yX1_distance yX1_distance ∈ bg_L := bg_at 440 (by decide +kernel) rfl
theorem wq_441 : Cond.code yX1_distance cX1_distance 7 (some .int) ∈ bg_L := bg_at 441 (by decide +kernel) rfl
theorem wq_442 : Cond.methodLink RX1 48 yX1_nextOnRing ∈ bg_L := bg_at 442 (by decide +kernel) rfl
theorem wq_444 : Cond.instanceMethod yX1_nextOnRing ∈ bg_L := bg_at 444 (by decide +kernel) rfl
theorem wq_445 : Cond.code yX1_nextOnRing cX1_nextOnRing 5 (some .int) ∈ bg_L := bg_at 445 (by decide +kernel) rfl
theorem wq_446 : Cond.methodLink RX1 52 yX1_coinsOf ∈ bg_L := bg_at 446 (by decide +kernel) rfl
theorem wq_447 : Cond.methodLink RX1 55 Lib.Math.min.name ∈ bg_L := bg_at 447 (by decide +kernel) rfl
theorem wq_448 : Cond.methodLink RX1 60 yX1_shrink ∈ bg_L := bg_at 448 (by decide +kernel) rfl
theorem wq_458 : Cond.methodLink RX0 195 yX5_squaresOf ∈ bg_L := bg_at 458 (by decide +kernel) rfl
theorem wq_459 : Cond.instanceMethod yX5_squaresOf ∈ bg_L := bg_at 459 (by decide +kernel) rfl
theorem wq_460 : Cond.selects RX5 yX5_squaresOf yX5_squaresOf ∈ bg_L := bg_at 460 (by decide +kernel) rfl
theorem wq_461 : Cond.code yX5_squaresOf cX5_squaresOf 4 (some .int) ∈ bg_L := bg_at 461 (by decide +kernel) rfl
theorem wq_462 : Cond.methodLink RX0 192 yX1_owedBy ∈ bg_L := bg_at 462 (by decide +kernel) rfl
theorem wq_463 : Cond.instanceMethod yX1_owedBy ∈ bg_L := bg_at 463 (by decide +kernel) rfl
theorem wq_464 : Cond.selects RX1 yX1_owedBy yX1_owedBy ∈ bg_L := bg_at 464 (by decide +kernel) rfl
theorem wq_465 : Cond.code yX1_owedBy cX1_owedBy 4 (some .int) ∈ bg_L := bg_at 465 (by decide +kernel) rfl
theorem wq_466 : Cond.methodLink RX0 189 yX1_owedTo ∈ bg_L := bg_at 466 (by decide +kernel) rfl
theorem wq_467 : Cond.instanceMethod yX1_owedTo ∈ bg_L := bg_at 467 (by decide +kernel) rfl
theorem wq_468 : Cond.selects RX1 yX1_owedTo yX1_owedTo ∈ bg_L := bg_at 468 (by decide +kernel) rfl
theorem wq_469 : Cond.code yX1_owedTo cX1_owedTo 4 (some .int) ∈ bg_L := bg_at 469 (by decide +kernel) rfl
theorem wq_478 : Cond.methodLink RX0 198 yX5_sortOf ∈ bg_L := bg_at 478 (by decide +kernel) rfl
theorem wq_479 : Cond.methodLink RX0 201 yX0_playersOn ∈ bg_L := bg_at 479 (by decide +kernel) rfl
theorem wq_481 : Cond.instanceMethod yX0_playersOn ∈ bg_L := bg_at 481 (by decide +kernel) rfl
theorem wq_482 : Cond.code yX0_playersOn cX0_playersOn 4 (some .int) ∈ bg_L := bg_at 482 (by decide +kernel) rfl
theorem wq_497 : Cond.methodLink RX0 210 yX3_makeEmpty ∈ bg_L := bg_at 497 (by decide +kernel) rfl
theorem wq_498 : Cond.instanceMethod yX3_makeEmpty ∈ bg_L := bg_at 498 (by decide +kernel) rfl
theorem wq_499 : Cond.selects RX3 yX3_makeEmpty yX3_makeEmpty ∈ bg_L := bg_at 499 (by decide +kernel) rfl
theorem wq_500 : Cond.code yX3_makeEmpty cX3_makeEmpty 1 none ∈ bg_L := bg_at 500 (by decide +kernel) rfl
theorem wq_501 : Cond.methodLink RX0 215 yX3_append ∈ bg_L := bg_at 501 (by decide +kernel) rfl
theorem wq_502 : Cond.instanceMethod yX3_append ∈ bg_L := bg_at 502 (by decide +kernel) rfl
theorem wq_503 : Cond.selects RX3 yX3_append yX3_append ∈ bg_L := bg_at 503 (by decide +kernel) rfl
theorem wq_504 : Cond.code yX3_append cX3_append 2 none ∈ bg_L := bg_at 504 (by decide +kernel) rfl
theorem wq_505 : Cond.methodLink RX3 31 yX6_write ∈ bg_L := bg_at 505 (by decide +kernel) rfl
theorem wq_507 : Cond.instanceMethod yX3_length ∈ bg_L := bg_at 507 (by decide +kernel) rfl
theorem wq_508 : Cond.selects RX3 yX3_length yX3_length ∈ bg_L := bg_at 508 (by decide +kernel) rfl
theorem wq_509 : Cond.code yX3_length cX3_length 1 (some .int) ∈ bg_L := bg_at 509 (by decide +kernel) rfl
theorem wq_518 : Cond.methodLink RX0 204 yX1_howMany ∈ bg_L := bg_at 518 (by decide +kernel) rfl
theorem wq_519 : Cond.instanceMethod yX1_howMany ∈ bg_L := bg_at 519 (by decide +kernel) rfl
theorem wq_520 : Cond.selects RX1 yX1_howMany yX1_howMany ∈ bg_L := bg_at 520 (by decide +kernel) rfl
theorem wq_521 : Cond.code yX1_howMany cX1_howMany 3 (some .int) ∈ bg_L := bg_at 521 (by decide +kernel) rfl
theorem wq_522 : Cond.methodLink RX0 207 yX1_inAll ∈ bg_L := bg_at 522 (by decide +kernel) rfl
theorem wq_523 : Cond.instanceMethod yX1_inAll ∈ bg_L := bg_at 523 (by decide +kernel) rfl
theorem wq_524 : Cond.selects RX1 yX1_inAll yX1_inAll ∈ bg_L := bg_at 524 (by decide +kernel) rfl
theorem wq_525 : Cond.code yX1_inAll cX1_inAll 1 (some .int) ∈ bg_L := bg_at 525 (by decide +kernel) rfl
theorem wq_526 : Cond.methodLink RX1 40 yX6_sum ∈ bg_L := bg_at 526 (by decide +kernel) rfl
theorem wq_532 : Cond.instanceMethod yX3_at ∈ bg_L := bg_at 532 (by decide +kernel) rfl
theorem wq_533 : Cond.selects RX3 yX3_at yX3_at ∈ bg_L := bg_at 533 (by decide +kernel) rfl
theorem wq_534 : Cond.code yX3_at cX3_at 2 (some .int) ∈ bg_L := bg_at 534 (by decide +kernel) rfl
theorem wq_535 : Cond.methodLink RX3 27 yX6_at ∈ bg_L := bg_at 535 (by decide +kernel) rfl
theorem wq_574 : Cond.constantLong RX4 9 (255) ∈ bg_L := bg_at 574 (by decide +kernel) rfl
theorem wq_591 : Cond.methodLink RX4 13 yX3_length ∈ bg_L := bg_at 591 (by decide +kernel) rfl
theorem wq_592 : Cond.methodLink RX4 19 yX3_at ∈ bg_L := bg_at 592 (by decide +kernel) rfl
theorem wq_593 : Cond.methodLink RX4 23 yX4_dueBehind ∈ bg_L := bg_at 593 (by decide +kernel) rfl
theorem wq_594 : Cond.static yX4_dueBehind ∈ bg_L := bg_at 594 (by decide +kernel) rfl
theorem wq_595 : Cond.code yX4_dueBehind cX4_dueBehind 2 (some .int) ∈ bg_L := bg_at 595 (by decide +kernel) rfl
theorem wq_596 : Cond.methodLink RX4 27 yX4_dueBehindLetter ∈ bg_L := bg_at 596 (by decide +kernel) rfl
theorem wq_597 : Cond.static yX4_dueBehindLetter ∈ bg_L := bg_at 597 (by decide +kernel) rfl
theorem wq_598 : Cond.code yX4_dueBehindLetter cX4_dueBehindLetter 1 (some .int) ∈ bg_L := bg_at 598 (by decide +kernel) rfl
theorem wq_599 : Cond.methodLink RX4 30 yX4_isDigit ∈ bg_L := bg_at 599 (by decide +kernel) rfl
theorem wq_600 : Cond.static yX4_isDigit ∈ bg_L := bg_at 600 (by decide +kernel) rfl
theorem wq_601 : Cond.code yX4_isDigit cX4_isDigit 1 (some .boolean) ∈ bg_L := bg_at 601 (by decide +kernel) rfl
theorem wq_637 : Cond.fieldLink RX8 7 "DiceRoadsModel" "state" "[I" ∈ bg_L := bg_at 637 (by decide +kernel) rfl
theorem wq_638 : Cond.fieldLink RX8 13 "DiceRoadsModel" "kept" "[I" ∈ bg_L := bg_at 638 (by decide +kernel) rfl
theorem wq_639 : Cond.fieldLink RX8 16 "DiceRoadsModel" "history" "[I" ∈ bg_L := bg_at 639 (by decide +kernel) rfl
theorem wq_640 : Cond.fieldLink RX8 34 "DiceRoadsModel" "recorded" "I" ∈ bg_L := bg_at 640 (by decide +kernel) rfl
theorem wq_641 : Cond.fieldLink RX8 19 "DiceRoadsModel" "slots" "[I" ∈ bg_L := bg_at 641 (by decide +kernel) rfl
theorem wq_642 : Cond.fieldLink RX8 22 "DiceRoadsModel" "isSaved" "[I" ∈ bg_L := bg_at 642 (by decide +kernel) rfl
theorem wq_643 : Cond.fieldLink RX8 25 "DiceRoadsModel" "pad" "[I" ∈ bg_L := bg_at 643 (by decide +kernel) rfl
theorem wq_644 : Cond.fieldLink RX8 186 "DiceRoadsModel" "padLength" "I" ∈ bg_L := bg_at 644 (by decide +kernel) rfl
theorem wq_645 : Cond.fieldLink RX8 183 "DiceRoadsModel" "signs" "I" ∈ bg_L := bg_at 645 (by decide +kernel) rfl
theorem wq_646 : Cond.fieldLink RX8 189 "DiceRoadsModel" "wantedSign" "I" ∈ bg_L := bg_at 646 (by decide +kernel) rfl
theorem wq_647 : Cond.fieldLink RX8 192 "DiceRoadsModel" "foundSign" "I" ∈ bg_L := bg_at 647 (by decide +kernel) rfl
theorem wq_648 : Cond.fieldLink RX8 28 "DiceRoadsModel" "ring" "[I" ∈ bg_L := bg_at 648 (by decide +kernel) rfl
theorem wq_649 : Cond.fieldLink RX8 143 "DiceRoadsModel" "ringMany" "I" ∈ bg_L := bg_at 649 (by decide +kernel) rfl
theorem wq_650 : Cond.fieldLink RX8 31 "DiceRoadsModel" "by" "[I" ∈ bg_L := bg_at 650 (by decide +kernel) rfl
theorem wq_651 : Cond.fieldLink RX8 203 "DiceRoadsModel" "at" "I" ∈ bg_L := bg_at 651 (by decide +kernel) rfl
theorem wq_652 : Cond.fieldLink RX8 216 "DiceRoadsModel" "letter" "I" ∈ bg_L := bg_at 652 (by decide +kernel) rfl
theorem wq_653 : Cond.fieldLink RX8 213 "DiceRoadsModel" "number" "I" ∈ bg_L := bg_at 653 (by decide +kernel) rfl
theorem wq_693 : Cond.methodLink RX8 125 yX8_isValue ∈ bg_L := bg_at 693 (by decide +kernel) rfl
theorem wq_694 : Cond.static yX8_isValue ∈ bg_L := bg_at 694 (by decide +kernel) rfl
theorem wq_695 : Cond.code yX8_isValue cX8_isValue 2 (some .boolean) ∈ bg_L := bg_at 695 (by decide +kernel) rfl
theorem wq_696 : Cond.methodLink RX8 42 yX8_within ∈ bg_L := bg_at 696 (by decide +kernel) rfl
theorem wq_697 : Cond.static yX8_within ∈ bg_L := bg_at 697 (by decide +kernel) rfl
theorem wq_698 : Cond.code yX8_within cX8_within 3 (some .boolean) ∈ bg_L := bg_at 698 (by decide +kernel) rfl
theorem wq_699 : Cond.methodLink RX8 128 yX8_record ∈ bg_L := bg_at 699 (by decide +kernel) rfl
theorem wq_701 : Cond.instanceMethod yX8_record ∈ bg_L := bg_at 701 (by decide +kernel) rfl
theorem wq_702 : Cond.code yX8_record cX8_record 2 none ∈ bg_L := bg_at 702 (by decide +kernel) rfl
theorem wq_703 : Cond.methodLink RX8 38 yX8_moves ∈ bg_L := bg_at 703 (by decide +kernel) rfl
theorem wq_704 : Cond.static yX8_moves ∈ bg_L := bg_at 704 (by decide +kernel) rfl
theorem wq_705 : Cond.code yX8_moves cX8_moves 5 none ∈ bg_L := bg_at 705 (by decide +kernel) rfl
theorem wq_710 : Cond.methodLink RX8 131 yX8_whyNoPlayer ∈ bg_L := bg_at 710 (by decide +kernel) rfl
theorem wq_712 : Cond.instanceMethod yX8_whyNoPlayer ∈ bg_L := bg_at 712 (by decide +kernel) rfl
theorem wq_713 : Cond.code yX8_whyNoPlayer cX8_whyNoPlayer 2 (some .int) ∈ bg_L := bg_at 713 (by decide +kernel) rfl
theorem wq_714 : Cond.methodLink RX8 134 yX8_comes ∈ bg_L := bg_at 714 (by decide +kernel) rfl
theorem wq_716 : Cond.instanceMethod yX8_comes ∈ bg_L := bg_at 716 (by decide +kernel) rfl
theorem wq_717 : Cond.code yX8_comes cX8_comes 4 (some .int) ∈ bg_L := bg_at 717 (by decide +kernel) rfl
theorem wq_726 : Cond.methodLink RX8 137 yX8_whyNoTurns ∈ bg_L := bg_at 726 (by decide +kernel) rfl
theorem wq_728 : Cond.instanceMethod yX8_whyNoTurns ∈ bg_L := bg_at 728 (by decide +kernel) rfl
theorem wq_729 : Cond.code yX8_whyNoTurns cX8_whyNoTurns 2 (some .int) ∈ bg_L := bg_at 729 (by decide +kernel) rfl
theorem wq_730 : Cond.methodLink RX8 140 yX8_doTurns ∈ bg_L := bg_at 730 (by decide +kernel) rfl
theorem wq_732 : Cond.instanceMethod yX8_doTurns ∈ bg_L := bg_at 732 (by decide +kernel) rfl
theorem wq_733 : Cond.code yX8_doTurns cX8_doTurns 4 (some .int) ∈ bg_L := bg_at 733 (by decide +kernel) rfl
theorem wq_734 : Cond.methodLink RX8 119 yX8_sumOf ∈ bg_L := bg_at 734 (by decide +kernel) rfl
theorem wq_736 : Cond.instanceMethod yX8_sumOf ∈ bg_L := bg_at 736 (by decide +kernel) rfl
theorem wq_737 : Cond.code yX8_sumOf cX8_sumOf 4 (some .int) ∈ bg_L := bg_at 737 (by decide +kernel) rfl
theorem wq_738 : Cond.methodLink RX8 54 yX8_playerPart ∈ bg_L := bg_at 738 (by decide +kernel) rfl
theorem wq_740 : Cond.instanceMethod yX8_playerPart ∈ bg_L := bg_at 740 (by decide +kernel) rfl
theorem wq_741 : Cond.code yX8_playerPart cX8_playerPart 3 (some .int) ∈ bg_L := bg_at 741 (by decide +kernel) rfl
theorem wq_742 : Cond.methodLink RX8 122 yX8_turn ∈ bg_L := bg_at 742 (by decide +kernel) rfl
theorem wq_744 : Cond.instanceMethod yX8_turn ∈ bg_L := bg_at 744 (by decide +kernel) rfl
theorem wq_745 : Cond.code yX8_turn cX8_turn 2 none ∈ bg_L := bg_at 745 (by decide +kernel) rfl
theorem wq_746 : Cond.methodLink RX8 106 yX8_paysDebts ∈ bg_L := bg_at 746 (by decide +kernel) rfl
theorem wq_748 : Cond.instanceMethod yX8_paysDebts ∈ bg_L := bg_at 748 (by decide +kernel) rfl
theorem wq_749 : Cond.code yX8_paysDebts cX8_paysDebts 4 none ∈ bg_L := bg_at 749 (by decide +kernel) rfl
theorem wq_750 : Cond.methodLink RX8 72 yX8_oldest ∈ bg_L := bg_at 750 (by decide +kernel) rfl
theorem wq_752 : Cond.instanceMethod yX8_oldest ∈ bg_L := bg_at 752 (by decide +kernel) rfl
theorem wq_753 : Cond.code yX8_oldest cX8_oldest 6 (some .int) ∈ bg_L := bg_at 753 (by decide +kernel) rfl
theorem wq_754 : Cond.methodLink RX8 46 yX8_debtOf ∈ bg_L := bg_at 754 (by decide +kernel) rfl
theorem wq_756 : Cond.instanceMethod yX8_debtOf ∈ bg_L := bg_at 756 (by decide +kernel) rfl
theorem wq_757 : Cond.code yX8_debtOf cX8_debtOf 3 (some .int) ∈ bg_L := bg_at 757 (by decide +kernel) rfl
theorem wq_758 : Cond.methodLink RX8 65 yX8_ageOf ∈ bg_L := bg_at 758 (by decide +kernel) rfl
theorem wq_760 : Cond.instanceMethod yX8_ageOf ∈ bg_L := bg_at 760 (by decide +kernel) rfl
theorem wq_761 : Cond.code yX8_ageOf cX8_ageOf 3 (some .int) ∈ bg_L := bg_at 761 (by decide +kernel) rfl
theorem wq_762 : Cond.methodLink RX8 75 yX8_pays ∈ bg_L := bg_at 762 (by decide +kernel) rfl
theorem wq_764 : Cond.instanceMethod yX8_pays ∈ bg_L := bg_at 764 (by decide +kernel) rfl
theorem wq_765 : Cond.code yX8_pays cX8_pays 5 (some .int) ∈ bg_L := bg_at 765 (by decide +kernel) rfl
theorem wq_766 : Cond.methodLink RX8 68 yX8_adds ∈ bg_L := bg_at 766 (by decide +kernel) rfl
theorem wq_768 : Cond.instanceMethod yX8_adds ∈ bg_L := bg_at 768 (by decide +kernel) rfl
theorem wq_769 : Cond.code yX8_adds cX8_adds 4 none ∈ bg_L := bg_at 769 (by decide +kernel) rfl
theorem wq_770 : Cond.methodLink RX8 79 yX8_addsDebt ∈ bg_L := bg_at 770 (by decide +kernel) rfl
theorem wq_772 : Cond.instanceMethod yX8_addsDebt ∈ bg_L := bg_at 772 (by decide +kernel) rfl
theorem wq_773 : Cond.code yX8_addsDebt cX8_addsDebt 5 none ∈ bg_L := bg_at 773 (by decide +kernel) rfl
theorem wq_774 : Cond.methodLink RX8 110 yX8_goes ∈ bg_L := bg_at 774 (by decide +kernel) rfl
theorem wq_776 : Cond.instanceMethod yX8_goes ∈ bg_L := bg_at 776 (by decide +kernel) rfl
theorem wq_777 : Cond.code yX8_goes cX8_goes 4 none ∈ bg_L := bg_at 777 (by decide +kernel) rfl
theorem wq_778 : Cond.methodLink RX8 82 yX8_die ∈ bg_L := bg_at 778 (by decide +kernel) rfl
theorem wq_780 : Cond.instanceMethod yX8_die ∈ bg_L := bg_at 780 (by decide +kernel) rfl
theorem wq_781 : Cond.code yX8_die cX8_die 1 (some .int) ∈ bg_L := bg_at 781 (by decide +kernel) rfl
theorem wq_782 : Cond.constant RX8 64 (65537) ∈ bg_L := bg_at 782 (by decide +kernel) rfl
theorem wq_783 : Cond.methodLink RX8 113 yX8_arrives ∈ bg_L := bg_at 783 (by decide +kernel) rfl
theorem wq_785 : Cond.instanceMethod yX8_arrives ∈ bg_L := bg_at 785 (by decide +kernel) rfl
theorem wq_786 : Cond.code yX8_arrives cX8_arrives 5 none ∈ bg_L := bg_at 786 (by decide +kernel) rfl
theorem wq_787 : Cond.methodLink RX8 50 yX8_owns ∈ bg_L := bg_at 787 (by decide +kernel) rfl
theorem wq_789 : Cond.instanceMethod yX8_owns ∈ bg_L := bg_at 789 (by decide +kernel) rfl
theorem wq_790 : Cond.code yX8_owns cX8_owns 3 (some .boolean) ∈ bg_L := bg_at 790 (by decide +kernel) rfl
theorem wq_791 : Cond.methodLink RX8 86 yX8_canBeClaimed ∈ bg_L := bg_at 791 (by decide +kernel) rfl
theorem wq_793 : Cond.instanceMethod yX8_canBeClaimed ∈ bg_L := bg_at 793 (by decide +kernel) rfl
theorem wq_794 : Cond.code yX8_canBeClaimed cX8_canBeClaimed 2 (some .boolean) ∈ bg_L := bg_at 794 (by decide +kernel) rfl
theorem wq_795 : Cond.methodLink RX8 57 yX8_sortOf ∈ bg_L := bg_at 795 (by decide +kernel) rfl
theorem wq_796 : Cond.static yX8_sortOf ∈ bg_L := bg_at 796 (by decide +kernel) rfl
theorem wq_797 : Cond.code yX8_sortOf cX8_sortOf 1 (some .int) ∈ bg_L := bg_at 797 (by decide +kernel) rfl
theorem wq_798 : Cond.methodLink RX8 90 yX8_claims ∈ bg_L := bg_at 798 (by decide +kernel) rfl
theorem wq_800 : Cond.instanceMethod yX8_claims ∈ bg_L := bg_at 800 (by decide +kernel) rfl
theorem wq_801 : Cond.code yX8_claims cX8_claims 4 none ∈ bg_L := bg_at 801 (by decide +kernel) rfl
theorem wq_802 : Cond.methodLink RX8 94 yX8_tollOf ∈ bg_L := bg_at 802 (by decide +kernel) rfl
theorem wq_804 : Cond.instanceMethod yX8_tollOf ∈ bg_L := bg_at 804 (by decide +kernel) rfl
theorem wq_805 : Cond.code yX8_tollOf cX8_tollOf 5 (some .int) ∈ bg_L := bg_at 805 (by decide +kernel) rfl
theorem wq_806 : Cond.methodLink RX8 97 yX8_paysToll ∈ bg_L := bg_at 806 (by decide +kernel) rfl
theorem wq_808 : Cond.instanceMethod yX8_paysToll ∈ bg_L := bg_at 808 (by decide +kernel) rfl
theorem wq_809 : Cond.code yX8_paysToll cX8_paysToll 5 none ∈ bg_L := bg_at 809 (by decide +kernel) rfl
theorem wq_810 : Cond.methodLink RX8 116 yX8_growsOlder ∈ bg_L := bg_at 810 (by decide +kernel) rfl
theorem wq_812 : Cond.instanceMethod yX8_growsOlder ∈ bg_L := bg_at 812 (by decide +kernel) rfl
theorem wq_813 : Cond.code yX8_growsOlder cX8_growsOlder 5 none ∈ bg_L := bg_at 813 (by decide +kernel) rfl
theorem wq_814 : Cond.methodLink RX8 100 yX8_lowestOf ∈ bg_L := bg_at 814 (by decide +kernel) rfl
theorem wq_816 : Cond.instanceMethod yX8_lowestOf ∈ bg_L := bg_at 816 (by decide +kernel) rfl
theorem wq_817 : Cond.code yX8_lowestOf cX8_lowestOf 4 (some .int) ∈ bg_L := bg_at 817 (by decide +kernel) rfl
theorem wq_818 : Cond.methodLink RX8 103 yX8_hands ∈ bg_L := bg_at 818 (by decide +kernel) rfl
theorem wq_820 : Cond.instanceMethod yX8_hands ∈ bg_L := bg_at 820 (by decide +kernel) rfl
theorem wq_821 : Cond.code yX8_hands cX8_hands 4 none ∈ bg_L := bg_at 821 (by decide +kernel) rfl
theorem wq_826 : Cond.methodLink RX8 156 yX8_isPlayer ∈ bg_L := bg_at 826 (by decide +kernel) rfl
theorem wq_828 : Cond.instanceMethod yX8_isPlayer ∈ bg_L := bg_at 828 (by decide +kernel) rfl
theorem wq_829 : Cond.code yX8_isPlayer cX8_isPlayer 2 (some .boolean) ∈ bg_L := bg_at 829 (by decide +kernel) rfl
theorem wq_830 : Cond.methodLink RX8 159 yX8_clears ∈ bg_L := bg_at 830 (by decide +kernel) rfl
theorem wq_832 : Cond.instanceMethod yX8_clears ∈ bg_L := bg_at 832 (by decide +kernel) rfl
theorem wq_833 : Cond.code yX8_clears cX8_clears 3 (some .int) ∈ bg_L := bg_at 833 (by decide +kernel) rfl
theorem wq_834 : Cond.methodLink RX8 150 yX8_findRing ∈ bg_L := bg_at 834 (by decide +kernel) rfl
theorem wq_836 : Cond.instanceMethod yX8_findRing ∈ bg_L := bg_at 836 (by decide +kernel) rfl
theorem wq_837 : Cond.code yX8_findRing cX8_findRing 8 (some .boolean) ∈ bg_L := bg_at 837 (by decide +kernel) rfl
theorem wq_838 : Cond.methodLink RX8 146 yX8_takesRing ∈ bg_L := bg_at 838 (by decide +kernel) rfl
theorem wq_840 : Cond.instanceMethod yX8_takesRing ∈ bg_L := bg_at 840 (by decide +kernel) rfl
theorem wq_841 : Cond.code yX8_takesRing cX8_takesRing 6 none ∈ bg_L := bg_at 841 (by decide +kernel) rfl
theorem wq_842 : Cond.methodLink RX8 153 yX8_clearsRing ∈ bg_L := bg_at 842 (by decide +kernel) rfl
theorem wq_844 : Cond.instanceMethod yX8_clearsRing ∈ bg_L := bg_at 844 (by decide +kernel) rfl
theorem wq_845 : Cond.code yX8_clearsRing cX8_clearsRing 4 (some .int) ∈ bg_L := bg_at 845 (by decide +kernel) rfl
theorem wq_850 : Cond.methodLink RX8 162 yX8_ownedBy ∈ bg_L := bg_at 850 (by decide +kernel) rfl
theorem wq_852 : Cond.instanceMethod yX8_ownedBy ∈ bg_L := bg_at 852 (by decide +kernel) rfl
theorem wq_853 : Cond.code yX8_ownedBy cX8_ownedBy 4 (some .int) ∈ bg_L := bg_at 853 (by decide +kernel) rfl
theorem wq_854 : Cond.methodLink RX8 61 yX8_owedBy ∈ bg_L := bg_at 854 (by decide +kernel) rfl
theorem wq_856 : Cond.instanceMethod yX8_owedBy ∈ bg_L := bg_at 856 (by decide +kernel) rfl
theorem wq_857 : Cond.code yX8_owedBy cX8_owedBy 4 (some .int) ∈ bg_L := bg_at 857 (by decide +kernel) rfl
theorem wq_858 : Cond.methodLink RX8 165 yX8_owedTo ∈ bg_L := bg_at 858 (by decide +kernel) rfl
theorem wq_860 : Cond.instanceMethod yX8_owedTo ∈ bg_L := bg_at 860 (by decide +kernel) rfl
theorem wq_861 : Cond.code yX8_owedTo cX8_owedTo 4 (some .int) ∈ bg_L := bg_at 861 (by decide +kernel) rfl
theorem wq_866 : Cond.methodLink RX8 168 yX8_isSquare ∈ bg_L := bg_at 866 (by decide +kernel) rfl
theorem wq_867 : Cond.static yX8_isSquare ∈ bg_L := bg_at 867 (by decide +kernel) rfl
theorem wq_868 : Cond.code yX8_isSquare cX8_isSquare 1 (some .boolean) ∈ bg_L := bg_at 868 (by decide +kernel) rfl
theorem wq_869 : Cond.methodLink RX8 171 yX8_standingAt ∈ bg_L := bg_at 869 (by decide +kernel) rfl
theorem wq_871 : Cond.instanceMethod yX8_standingAt ∈ bg_L := bg_at 871 (by decide +kernel) rfl
theorem wq_872 : Cond.code yX8_standingAt cX8_standingAt 4 (some .int) ∈ bg_L := bg_at 872 (by decide +kernel) rfl
theorem wq_881 : Cond.methodLink RX8 174 yX8_debtsMany ∈ bg_L := bg_at 881 (by decide +kernel) rfl
theorem wq_883 : Cond.instanceMethod yX8_debtsMany ∈ bg_L := bg_at 883 (by decide +kernel) rfl
theorem wq_884 : Cond.code yX8_debtsMany cX8_debtsMany 4 (some .int) ∈ bg_L := bg_at 884 (by decide +kernel) rfl
theorem wq_885 : Cond.methodLink RX8 177 yX8_sumOfDebts ∈ bg_L := bg_at 885 (by decide +kernel) rfl
theorem wq_887 : Cond.instanceMethod yX8_sumOfDebts ∈ bg_L := bg_at 887 (by decide +kernel) rfl
theorem wq_888 : Cond.code yX8_sumOfDebts cX8_sumOfDebts 3 (some .int) ∈ bg_L := bg_at 888 (by decide +kernel) rfl
theorem wq_889 : Cond.methodLink RX8 180 yX8_writes ∈ bg_L := bg_at 889 (by decide +kernel) rfl
theorem wq_891 : Cond.instanceMethod yX8_writes ∈ bg_L := bg_at 891 (by decide +kernel) rfl
theorem wq_892 : Cond.code yX8_writes cX8_writes 3 none ∈ bg_L := bg_at 892 (by decide +kernel) rfl
theorem wq_893 : Cond.methodLink RX8 198 yX8_writesSquare ∈ bg_L := bg_at 893 (by decide +kernel) rfl
theorem wq_895 : Cond.instanceMethod yX8_writesSquare ∈ bg_L := bg_at 895 (by decide +kernel) rfl
theorem wq_896 : Cond.code yX8_writesSquare cX8_writesSquare 3 none ∈ bg_L := bg_at 896 (by decide +kernel) rfl
theorem wq_897 : Cond.methodLink RX8 195 yX8_writesSign ∈ bg_L := bg_at 897 (by decide +kernel) rfl
theorem wq_899 : Cond.instanceMethod yX8_writesSign ∈ bg_L := bg_at 899 (by decide +kernel) rfl
theorem wq_900 : Cond.code yX8_writesSign cX8_writesSign 2 none ∈ bg_L := bg_at 900 (by decide +kernel) rfl
theorem wq_925 : Cond.constantLong RX8 201 (255) ∈ bg_L := bg_at 925 (by decide +kernel) rfl
theorem wq_934 : Cond.methodLink RX8 228 yX8_findFault ∈ bg_L := bg_at 934 (by decide +kernel) rfl
theorem wq_936 : Cond.instanceMethod yX8_findFault ∈ bg_L := bg_at 936 (by decide +kernel) rfl
theorem wq_937 : Cond.code yX8_findFault cX8_findFault 1 (some .int) ∈ bg_L := bg_at 937 (by decide +kernel) rfl
theorem wq_938 : Cond.methodLink RX8 222 yX8_readsOrder ∈ bg_L := bg_at 938 (by decide +kernel) rfl
theorem wq_940 : Cond.instanceMethod yX8_readsOrder ∈ bg_L := bg_at 940 (by decide +kernel) rfl
theorem wq_941 : Cond.code yX8_readsOrder cX8_readsOrder 1 (some .boolean) ∈ bg_L := bg_at 941 (by decide +kernel) rfl
theorem wq_942 : Cond.methodLink RX8 206 yX8_character ∈ bg_L := bg_at 942 (by decide +kernel) rfl
theorem wq_944 : Cond.instanceMethod yX8_character ∈ bg_L := bg_at 944 (by decide +kernel) rfl
theorem wq_945 : Cond.code yX8_character cX8_character 2 (some .int) ∈ bg_L := bg_at 945 (by decide +kernel) rfl
theorem wq_946 : Cond.methodLink RX8 219 yX8_takesNumber ∈ bg_L := bg_at 946 (by decide +kernel) rfl
theorem wq_948 : Cond.instanceMethod yX8_takesNumber ∈ bg_L := bg_at 948 (by decide +kernel) rfl
theorem wq_949 : Cond.code yX8_takesNumber cX8_takesNumber 2 (some .boolean) ∈ bg_L := bg_at 949 (by decide +kernel) rfl
theorem wq_950 : Cond.methodLink RX8 209 yX8_isDigit ∈ bg_L := bg_at 950 (by decide +kernel) rfl
theorem wq_952 : Cond.instanceMethod yX8_isDigit ∈ bg_L := bg_at 952 (by decide +kernel) rfl
theorem wq_953 : Cond.code yX8_isDigit cX8_isDigit 1 (some .boolean) ∈ bg_L := bg_at 953 (by decide +kernel) rfl
theorem wq_954 : Cond.methodLink RX8 225 yX8_isNext ∈ bg_L := bg_at 954 (by decide +kernel) rfl
theorem wq_956 : Cond.instanceMethod yX8_isNext ∈ bg_L := bg_at 956 (by decide +kernel) rfl
theorem wq_957 : Cond.code yX8_isNext cX8_isNext 3 (some .boolean) ∈ bg_L := bg_at 957 (by decide +kernel) rfl
theorem wq_962 : Cond.methodLink RX8 231 yX8_whyNotDone ∈ bg_L := bg_at 962 (by decide +kernel) rfl
theorem wq_964 : Cond.instanceMethod yX8_whyNotDone ∈ bg_L := bg_at 964 (by decide +kernel) rfl
theorem wq_965 : Cond.code yX8_whyNotDone cX8_whyNotDone 1 (some .int) ∈ bg_L := bg_at 965 (by decide +kernel) rfl
theorem wq_966 : Cond.methodLink RX8 234 yX8_does ∈ bg_L := bg_at 966 (by decide +kernel) rfl
theorem wq_968 : Cond.instanceMethod yX8_does ∈ bg_L := bg_at 968 (by decide +kernel) rfl
theorem wq_969 : Cond.code yX8_does cX8_does 1 none ∈ bg_L := bg_at 969 (by decide +kernel) rfl
theorem inlX0 : ∀ w ∈ wsX00, w ∈ bg_L := bg_sub [156, 158, 160, 162, 164, 166, 168, 170, 172, 174, 176, 178, 180, 182, 184] (by decide +kernel) (by decide +kernel)
theorem inlX1 : ∀ w ∈ wsX10, w ∈ bg_L := bg_sub [125, 127, 129] (by decide +kernel) (by decide +kernel)
theorem inlX2 : ∀ w ∈ wsX20, w ∈ bg_L := bg_sub [199, 201, 203] (by decide +kernel) (by decide +kernel)
theorem inlX3 : ∀ w ∈ wsX30, w ∈ bg_L := bg_sub [217, 219, 221] (by decide +kernel) (by decide +kernel)
theorem inlX5 : ∀ w ∈ wsX50, w ∈ bg_L := bg_sub [109, 111] (by decide +kernel) (by decide +kernel)
theorem inlX6 : ∀ w ∈ wsX60, w ∈ bg_L := bg_sub [101, 103] (by decide +kernel) (by decide +kernel)
theorem inlX7 : ∀ w ∈ wsX70, w ∈ bg_L := bg_sub [230, 232, 234, 236, 238, 240] (by decide +kernel) (by decide +kernel)
theorem inlX8 : ∀ w ∈ wsX80, w ∈ bg_L := bg_sub [654, 656, 658, 660, 662, 664, 666, 668, 670, 672, 674, 676, 678, 680, 682, 684, 686] (by decide +kernel) (by decide +kernel)
end
section
abbrev wd_M0 (cI : ClassId) (a : Nat → Nat) (X : Nat → Int32) (S : (Nat → Int32)) : va_W := [(a 0, .inr (7, [.ref (a 1), .ref (a 2), .ref (a 3), .int (X 0), .ref (a 4), .ref (a 5), .ref (a 6), .int (X 1), .int (X 2), .int (X 3), .int (X 4), .ref (a 7), .int (X 5), .ref (a 8), .int (X 6), .int (X 7), .int (X 8)])), (a 1, .inl (cI, (107, .inl S)))]
abbrev wd_M (cI : ClassId) (a : Nat → Nat) (S : ms_T) : va_W := [(a 0, .inr (7, [.ref (a 1), .ref (a 2), .ref (a 3), .int (S 8 0), .ref (a 4), .ref (a 5), .ref (a 6), .int (S 8 1), .int (S 8 2), .int (S 8 3), .int (S 8 4), .ref (a 7), .int (S 8 5), .ref (a 8), .int (S 8 6), .int (S 8 7), .int (S 8 8)])), (a 1, .inl (cI, (107, .inl (S 0)))), (a 2, .inl (cI, (107, .inl (S 1)))), (a 3, .inl (cI, (642, .inl (S 2)))), (a 4, .inl (cI, (214, .inl (S 3)))), (a 5, .inl (cI, (2, .inl (S 4)))), (a 6, .inl (cI, (80, .inl (S 5)))), (a 7, .inl (cI, (4, .inl (S 6)))), (a 8, .inl (cI, (4, .inl (S 7))))]
abbrev wd_MV (cI : ClassId) (a : Nat → Nat) (n : Nat) (m : Nat) (F : Nat → Int32) (S : (Nat → Int32)) : va_W := [(a 0, .inl (cI, (n, .inl F))), (a 1, .inl (cI, (m, .inl S)))]
abbrev wd_R (cI : ClassId) (a : Nat → Nat) (v : Int32) (n : Nat) (S : (Nat → Int32)) : va_W := [(a 0, .inr (5, [.ref (a 1), .int v])), (a 1, .inl (cI, (n, .inl S)))]
abbrev wd_RR (cI : ClassId) (a : Nat → Nat) (v : Int32) (w : Int32) (n : Nat) (F : Nat → Int32) (S : (Nat → Int32)) : va_W := [(a 0, .inr (5, [.ref (a 1), .int v])), (a 1, .inl (cI, (n, .inl S))), (a 2, .inr (5, [.ref (a 3), .int w])), (a 3, .inl (cI, (n, .inl F)))]
abbrev wd_O (cI : ClassId) (a : Nat → Nat) (S : ms_T) : va_W := [(a 0, .inr (4, [.ref (a 1), .ref (a 3)])), (a 1, .inr (5, [.ref (a 2), .int (-6)])), (a 2, .inl (cI, (20, .inl (S 0)))), (a 3, .inr (5, [.ref (a 4), .int (-6)])), (a 4, .inl (cI, (20, .inl (S 1))))]
abbrev wd_D (cI : ClassId) (a : Nat → Nat) (S : ms_T) : va_W := [(a 0, .inr (1, [.ref (a 1), .ref (a 3), .ref (a 5)])), (a 1, .inr (5, [.ref (a 2), .int 0])), (a 2, .inl (cI, (16, .inl (S 0)))), (a 3, .inr (5, [.ref (a 4), .int (-6)])), (a 4, .inl (cI, (16, .inl (S 1)))), (a 5, .inr (5, [.ref (a 6), .int (-6)])), (a 6, .inl (cI, (5, .inl (S 2))))]
abbrev wd_L (cI : ClassId) (a : Nat → Nat) (g : Nat) (S : ms_T) : va_W := [(a 0, .inr (3, [.ref (a 1), .int (nI g), .int (S 1 0)])), (a 1, .inr (5, [.ref (a 2), .int (-1)])), (a 2, .inl (cI, (g, .inl (S 0))))]
abbrev wd_B (cI : ClassId) (a : Nat → Nat) (S : ms_T) : va_W := [(a 0, .inr (0, [.ref (a 1), .ref (a 6), .ref (a 13), .ref (a 15), .ref (a 17), .ref (a 19), .ref (a 21), .ref (a 23), .ref (a 25), .int (S 12 0), .int (S 12 1), .int (S 12 2), .int (S 12 3), .int (S 12 4), .int (S 12 5)])), (a 1, .inr (4, [.ref (a 2), .ref (a 4)])), (a 2, .inr (5, [.ref (a 3), .int (-6)])), (a 3, .inl (cI, (20, .inl (S 0)))), (a 4, .inr (5, [.ref (a 5), .int (-6)])), (a 5, .inl (cI, (20, .inl (S 1)))), (a 6, .inr (1, [.ref (a 7), .ref (a 9), .ref (a 11)])), (a 7, .inr (5, [.ref (a 8), .int 0])), (a 8, .inl (cI, (16, .inl (S 2)))), (a 9, .inr (5, [.ref (a 10), .int (-6)])), (a 10, .inl (cI, (16, .inl (S 3)))), (a 11, .inr (5, [.ref (a 12), .int (-6)])), (a 12, .inl (cI, (5, .inl (S 4)))), (a 13, .inr (5, [.ref (a 14), .int 0])), (a 14, .inl (cI, (5, .inl (S 5)))), (a 15, .inr (5, [.ref (a 16), .int 0])), (a 16, .inl (cI, (4, .inl (S 6)))), (a 17, .inr (5, [.ref (a 18), .int 0])), (a 18, .inl (cI, (4, .inl (S 7)))), (a 19, .inr (5, [.ref (a 20), .int 0])), (a 20, .inl (cI, (4, .inl (S 8)))), (a 21, .inr (5, [.ref (a 22), .int 0])), (a 22, .inl (cI, (4, .inl (S 9)))), (a 23, .inr (5, [.ref (a 24), .int 0])), (a 24, .inl (cI, (4, .inl (S 10)))), (a 25, .inr (5, [.ref (a 26), .int 0])), (a 26, .inl (cI, (4, .inl (S 11))))]
abbrev wd_BB (cI : ClassId) (a : Nat → Nat) (Z : ms_T) (S : ms_T) : va_W := [(a 0, .inr (0, [.ref (a 1), .ref (a 6), .ref (a 13), .ref (a 15), .ref (a 17), .ref (a 19), .ref (a 21), .ref (a 23), .ref (a 25), .int (S 12 0), .int (S 12 1), .int (S 12 2), .int (S 12 3), .int (S 12 4), .int (S 12 5)])), (a 1, .inr (4, [.ref (a 2), .ref (a 4)])), (a 2, .inr (5, [.ref (a 3), .int (-6)])), (a 3, .inl (cI, (20, .inl (S 0)))), (a 4, .inr (5, [.ref (a 5), .int (-6)])), (a 5, .inl (cI, (20, .inl (S 1)))), (a 6, .inr (1, [.ref (a 7), .ref (a 9), .ref (a 11)])), (a 7, .inr (5, [.ref (a 8), .int 0])), (a 8, .inl (cI, (16, .inl (S 2)))), (a 9, .inr (5, [.ref (a 10), .int (-6)])), (a 10, .inl (cI, (16, .inl (S 3)))), (a 11, .inr (5, [.ref (a 12), .int (-6)])), (a 12, .inl (cI, (5, .inl (S 4)))), (a 13, .inr (5, [.ref (a 14), .int 0])), (a 14, .inl (cI, (5, .inl (S 5)))), (a 15, .inr (5, [.ref (a 16), .int 0])), (a 16, .inl (cI, (4, .inl (S 6)))), (a 17, .inr (5, [.ref (a 18), .int 0])), (a 18, .inl (cI, (4, .inl (S 7)))), (a 19, .inr (5, [.ref (a 20), .int 0])), (a 20, .inl (cI, (4, .inl (S 8)))), (a 21, .inr (5, [.ref (a 22), .int 0])), (a 22, .inl (cI, (4, .inl (S 9)))), (a 23, .inr (5, [.ref (a 24), .int 0])), (a 24, .inl (cI, (4, .inl (S 10)))), (a 25, .inr (5, [.ref (a 26), .int 0])), (a 26, .inl (cI, (4, .inl (S 11)))), (a 27, .inr (0, [.ref (a 28), .ref (a 33), .ref (a 40), .ref (a 42), .ref (a 44), .ref (a 46), .ref (a 48), .ref (a 50), .ref (a 52), .int ((Z 12) 0), .int ((Z 12) 1), .int ((Z 12) 2), .int ((Z 12) 3), .int ((Z 12) 4), .int ((Z 12) 5)])), (a 28, .inr (4, [.ref (a 29), .ref (a 31)])), (a 29, .inr (5, [.ref (a 30), .int (-6)])), (a 30, .inl (cI, (20, .inl (Z 0)))), (a 31, .inr (5, [.ref (a 32), .int (-6)])), (a 32, .inl (cI, (20, .inl (Z 1)))), (a 33, .inr (1, [.ref (a 34), .ref (a 36), .ref (a 38)])), (a 34, .inr (5, [.ref (a 35), .int 0])), (a 35, .inl (cI, (16, .inl (Z 2)))), (a 36, .inr (5, [.ref (a 37), .int (-6)])), (a 37, .inl (cI, (16, .inl (Z 3)))), (a 38, .inr (5, [.ref (a 39), .int (-6)])), (a 39, .inl (cI, (5, .inl (Z 4)))), (a 40, .inr (5, [.ref (a 41), .int 0])), (a 41, .inl (cI, (5, .inl (Z 5)))), (a 42, .inr (5, [.ref (a 43), .int 0])), (a 43, .inl (cI, (4, .inl (Z 6)))), (a 44, .inr (5, [.ref (a 45), .int 0])), (a 45, .inl (cI, (4, .inl (Z 7)))), (a 46, .inr (5, [.ref (a 47), .int 0])), (a 47, .inl (cI, (4, .inl (Z 8)))), (a 48, .inr (5, [.ref (a 49), .int 0])), (a 49, .inl (cI, (4, .inl (Z 9)))), (a 50, .inr (5, [.ref (a 51), .int 0])), (a 51, .inl (cI, (4, .inl (Z 10)))), (a 52, .inr (5, [.ref (a 53), .int 0])), (a 53, .inl (cI, (4, .inl (Z 11))))]
abbrev wd_BL (cI : ClassId) (a : Nat → Nat) (g : Nat) (S : ms_T) : va_W := [(a 0, .inr (0, [.ref (a 1), .ref (a 6), .ref (a 13), .ref (a 15), .ref (a 17), .ref (a 19), .ref (a 21), .ref (a 23), .ref (a 25), .int (S 12 0), .int (S 12 1), .int (S 12 2), .int (S 12 3), .int (S 12 4), .int (S 12 5)])), (a 1, .inr (4, [.ref (a 2), .ref (a 4)])), (a 2, .inr (5, [.ref (a 3), .int (-6)])), (a 3, .inl (cI, (20, .inl (S 0)))), (a 4, .inr (5, [.ref (a 5), .int (-6)])), (a 5, .inl (cI, (20, .inl (S 1)))), (a 6, .inr (1, [.ref (a 7), .ref (a 9), .ref (a 11)])), (a 7, .inr (5, [.ref (a 8), .int 0])), (a 8, .inl (cI, (16, .inl (S 2)))), (a 9, .inr (5, [.ref (a 10), .int (-6)])), (a 10, .inl (cI, (16, .inl (S 3)))), (a 11, .inr (5, [.ref (a 12), .int (-6)])), (a 12, .inl (cI, (5, .inl (S 4)))), (a 13, .inr (5, [.ref (a 14), .int 0])), (a 14, .inl (cI, (5, .inl (S 5)))), (a 15, .inr (5, [.ref (a 16), .int 0])), (a 16, .inl (cI, (4, .inl (S 6)))), (a 17, .inr (5, [.ref (a 18), .int 0])), (a 18, .inl (cI, (4, .inl (S 7)))), (a 19, .inr (5, [.ref (a 20), .int 0])), (a 20, .inl (cI, (4, .inl (S 8)))), (a 21, .inr (5, [.ref (a 22), .int 0])), (a 22, .inl (cI, (4, .inl (S 9)))), (a 23, .inr (5, [.ref (a 24), .int 0])), (a 24, .inl (cI, (4, .inl (S 10)))), (a 25, .inr (5, [.ref (a 26), .int 0])), (a 26, .inl (cI, (4, .inl (S 11)))), (a 27, .inr (3, [.ref (a 28), .int (nI g), .int (S 14 0)])), (a 28, .inr (5, [.ref (a 29), .int (-1)])), (a 29, .inl (cI, (g, .inl (S 13))))]
abbrev wd_DD (cI : ClassId) (a : Nat → Nat) (Z : ms_T) (S : ms_T) : va_W := [(a 0, .inr (1, [.ref (a 1), .ref (a 3), .ref (a 5)])), (a 1, .inr (5, [.ref (a 2), .int 0])), (a 2, .inl (cI, (16, .inl (S 0)))), (a 3, .inr (5, [.ref (a 4), .int (-6)])), (a 4, .inl (cI, (16, .inl (S 1)))), (a 5, .inr (5, [.ref (a 6), .int (-6)])), (a 6, .inl (cI, (5, .inl (S 2)))), (a 7, .inr (1, [.ref (a 8), .ref (a 10), .ref (a 12)])), (a 8, .inr (5, [.ref (a 9), .int 0])), (a 9, .inl (cI, (16, .inl (Z 0)))), (a 10, .inr (5, [.ref (a 11), .int (-6)])), (a 11, .inl (cI, (16, .inl (Z 1)))), (a 12, .inr (5, [.ref (a 13), .int (-6)])), (a 13, .inl (cI, (5, .inl (Z 2))))]
abbrev wd_OO (cI : ClassId) (a : Nat → Nat) (Z : ms_T) (S : ms_T) : va_W := [(a 0, .inr (4, [.ref (a 1), .ref (a 3)])), (a 1, .inr (5, [.ref (a 2), .int (-6)])), (a 2, .inl (cI, (20, .inl (S 0)))), (a 3, .inr (5, [.ref (a 4), .int (-6)])), (a 4, .inl (cI, (20, .inl (S 1)))), (a 5, .inr (4, [.ref (a 6), .ref (a 8)])), (a 6, .inr (5, [.ref (a 7), .int (-6)])), (a 7, .inl (cI, (20, .inl (Z 0)))), (a 8, .inr (5, [.ref (a 9), .int (-6)])), (a 9, .inl (cI, (20, .inl (Z 1))))]
def wm8_within : List Cond := .code yX8_within cX8_within 3 (some .boolean) :: bg_L
theorem hd8_within : yX8_within.cls ≠ "java/lang/invoke/MethodHandle" ∧ yX8_within.cls ≠ "java/lang/invoke/VarHandle" ∧ (parseMethodDescriptor yX8_within.desc).map (fun d => d.parameters.length) = some 3 := by decide +kernel
abbrev RM8_within : Room := { frames := 0, cells := 0, slots := 0, locals := 0 }
def wm8_isSquare : List Cond := .code yX8_isSquare cX8_isSquare 1 (some .boolean) :: bg_L
theorem hd8_isSquare : yX8_isSquare.cls ≠ "java/lang/invoke/MethodHandle" ∧ yX8_isSquare.cls ≠ "java/lang/invoke/VarHandle" ∧ (parseMethodDescriptor yX8_isSquare.desc).map (fun d => d.parameters.length) = some 1 := by decide +kernel
abbrev RM8_isSquare : Room := { frames := 1, cells := 0, slots := 0, locals := 22 }
def wm8_sortOf : List Cond := .code yX8_sortOf cX8_sortOf 1 (some .int) :: bg_L
theorem hd8_sortOf : yX8_sortOf.cls ≠ "java/lang/invoke/MethodHandle" ∧ yX8_sortOf.cls ≠ "java/lang/invoke/VarHandle" ∧ (parseMethodDescriptor yX8_sortOf.desc).map (fun d => d.parameters.length) = some 1 := by decide +kernel
abbrev RM8_sortOf : Room := { frames := 0, cells := 0, slots := 0, locals := 0 }
def wm8_isValue : List Cond := .code yX8_isValue cX8_isValue 2 (some .boolean) :: bg_L
theorem hd8_isValue : yX8_isValue.cls ≠ "java/lang/invoke/MethodHandle" ∧ yX8_isValue.cls ≠ "java/lang/invoke/VarHandle" ∧ (parseMethodDescriptor yX8_isValue.desc).map (fun d => d.parameters.length) = some 2 := by decide +kernel
abbrev RM8_isValue : Room := { frames := 1, cells := 0, slots := 0, locals := 22 }
def wm8_moves : List Cond := .code yX8_moves cX8_moves 5 none :: bg_L
theorem hd8_moves : yX8_moves.cls ≠ "java/lang/invoke/MethodHandle" ∧ yX8_moves.cls ≠ "java/lang/invoke/VarHandle" ∧ (parseMethodDescriptor yX8_moves.desc).map (fun d => d.parameters.length) = some 4 := by decide +kernel
abbrev RM8_moves : Room := { frames := 0, cells := 0, slots := 0, locals := 0 }
def wm8_isPlayer : List Cond := .code yX8_isPlayer cX8_isPlayer 2 (some .boolean) :: bg_L
theorem hd8_isPlayer : yX8_isPlayer.cls = RX8 ∧ yX8_isPlayer.cls ≠ "java/lang/invoke/MethodHandle" ∧ yX8_isPlayer.cls ≠ "java/lang/invoke/VarHandle" ∧ (parseMethodDescriptor yX8_isPlayer.desc).map (fun d => d.parameters.length) = some 1 := by decide +kernel
abbrev RM8_isPlayer : Room := { frames := 1, cells := 0, slots := 0, locals := 22 }
def wm8_playerPart : List Cond := .code yX8_playerPart cX8_playerPart 3 (some .int) :: bg_L
theorem hd8_playerPart : yX8_playerPart.cls = RX8 ∧ yX8_playerPart.cls ≠ "java/lang/invoke/MethodHandle" ∧ yX8_playerPart.cls ≠ "java/lang/invoke/VarHandle" ∧ (parseMethodDescriptor yX8_playerPart.desc).map (fun d => d.parameters.length) = some 2 := by decide +kernel
abbrev RM8_playerPart : Room := { frames := 0, cells := 0, slots := 0, locals := 0 }
def wm8_adds : List Cond := .code yX8_adds cX8_adds 4 none :: bg_L
theorem hd8_adds : yX8_adds.cls = RX8 ∧ yX8_adds.cls ≠ "java/lang/invoke/MethodHandle" ∧ yX8_adds.cls ≠ "java/lang/invoke/VarHandle" ∧ (parseMethodDescriptor yX8_adds.desc).map (fun d => d.parameters.length) = some 3 := by decide +kernel
abbrev RM8_adds : Room := { frames := 0, cells := 0, slots := 0, locals := 0 }
def wm8_debtOf : List Cond := .code yX8_debtOf cX8_debtOf 3 (some .int) :: bg_L
theorem hd8_debtOf : yX8_debtOf.cls = RX8 ∧ yX8_debtOf.cls ≠ "java/lang/invoke/MethodHandle" ∧ yX8_debtOf.cls ≠ "java/lang/invoke/VarHandle" ∧ (parseMethodDescriptor yX8_debtOf.desc).map (fun d => d.parameters.length) = some 2 := by decide +kernel
abbrev RM8_debtOf : Room := { frames := 0, cells := 0, slots := 0, locals := 0 }
def wm8_ageOf : List Cond := .code yX8_ageOf cX8_ageOf 3 (some .int) :: bg_L
theorem hd8_ageOf : yX8_ageOf.cls = RX8 ∧ yX8_ageOf.cls ≠ "java/lang/invoke/MethodHandle" ∧ yX8_ageOf.cls ≠ "java/lang/invoke/VarHandle" ∧ (parseMethodDescriptor yX8_ageOf.desc).map (fun d => d.parameters.length) = some 2 := by decide +kernel
abbrev RM8_ageOf : Room := { frames := 0, cells := 0, slots := 0, locals := 0 }
def wm8_addsDebt : List Cond := .code yX8_addsDebt cX8_addsDebt 5 none :: bg_L
theorem hd8_addsDebt : yX8_addsDebt.cls = RX8 ∧ yX8_addsDebt.cls ≠ "java/lang/invoke/MethodHandle" ∧ yX8_addsDebt.cls ≠ "java/lang/invoke/VarHandle" ∧ (parseMethodDescriptor yX8_addsDebt.desc).map (fun d => d.parameters.length) = some 3 := by decide +kernel
abbrev RM8_addsDebt : Room := { frames := 1, cells := 0, slots := 0, locals := 22 }
def wm8_owns : List Cond := .code yX8_owns cX8_owns 3 (some .boolean) :: bg_L
theorem hd8_owns : yX8_owns.cls = RX8 ∧ yX8_owns.cls ≠ "java/lang/invoke/MethodHandle" ∧ yX8_owns.cls ≠ "java/lang/invoke/VarHandle" ∧ (parseMethodDescriptor yX8_owns.desc).map (fun d => d.parameters.length) = some 2 := by decide +kernel
abbrev RM8_owns : Room := { frames := 0, cells := 0, slots := 0, locals := 0 }
def wm8_ownedBy : List Cond := .code yX8_ownedBy cX8_ownedBy 4 (some .int) :: bg_L
theorem hd8_ownedBy : yX8_ownedBy.cls = RX8 ∧ yX8_ownedBy.cls ≠ "java/lang/invoke/MethodHandle" ∧ yX8_ownedBy.cls ≠ "java/lang/invoke/VarHandle" ∧ (parseMethodDescriptor yX8_ownedBy.desc).map (fun d => d.parameters.length) = some 1 := by decide +kernel
abbrev RM8_ownedBy : Room := { frames := 1, cells := 0, slots := 0, locals := 22 }
def wm8_lowestOf : List Cond := .code yX8_lowestOf cX8_lowestOf 4 (some .int) :: bg_L
theorem hd8_lowestOf : yX8_lowestOf.cls = RX8 ∧ yX8_lowestOf.cls ≠ "java/lang/invoke/MethodHandle" ∧ yX8_lowestOf.cls ≠ "java/lang/invoke/VarHandle" ∧ (parseMethodDescriptor yX8_lowestOf.desc).map (fun d => d.parameters.length) = some 1 := by decide +kernel
abbrev RM8_lowestOf : Room := { frames := 1, cells := 0, slots := 0, locals := 22 }
def wm8_standingAt : List Cond := .code yX8_standingAt cX8_standingAt 4 (some .int) :: bg_L
theorem hd8_standingAt : yX8_standingAt.cls = RX8 ∧ yX8_standingAt.cls ≠ "java/lang/invoke/MethodHandle" ∧ yX8_standingAt.cls ≠ "java/lang/invoke/VarHandle" ∧ (parseMethodDescriptor yX8_standingAt.desc).map (fun d => d.parameters.length) = some 1 := by decide +kernel
abbrev RM8_standingAt : Room := { frames := 1, cells := 0, slots := 0, locals := 22 }
def wm8_tollOf : List Cond := .code yX8_tollOf cX8_tollOf 5 (some .int) :: bg_L
theorem hd8_tollOf : yX8_tollOf.cls = RX8 ∧ yX8_tollOf.cls ≠ "java/lang/invoke/MethodHandle" ∧ yX8_tollOf.cls ≠ "java/lang/invoke/VarHandle" ∧ (parseMethodDescriptor yX8_tollOf.desc).map (fun d => d.parameters.length) = some 1 := by decide +kernel
abbrev RM8_tollOf : Room := { frames := 1, cells := 0, slots := 0, locals := 20 }
def wm8_owedBy : List Cond := .code yX8_owedBy cX8_owedBy 4 (some .int) :: bg_L
theorem hd8_owedBy : yX8_owedBy.cls = RX8 ∧ yX8_owedBy.cls ≠ "java/lang/invoke/MethodHandle" ∧ yX8_owedBy.cls ≠ "java/lang/invoke/VarHandle" ∧ (parseMethodDescriptor yX8_owedBy.desc).map (fun d => d.parameters.length) = some 1 := by decide +kernel
abbrev RM8_owedBy : Room := { frames := 1, cells := 0, slots := 0, locals := 22 }
def wm8_owedTo : List Cond := .code yX8_owedTo cX8_owedTo 4 (some .int) :: bg_L
theorem hd8_owedTo : yX8_owedTo.cls = RX8 ∧ yX8_owedTo.cls ≠ "java/lang/invoke/MethodHandle" ∧ yX8_owedTo.cls ≠ "java/lang/invoke/VarHandle" ∧ (parseMethodDescriptor yX8_owedTo.desc).map (fun d => d.parameters.length) = some 1 := by decide +kernel
abbrev RM8_owedTo : Room := { frames := 1, cells := 0, slots := 0, locals := 22 }
def wm8_sumOf : List Cond := .code yX8_sumOf cX8_sumOf 4 (some .int) :: bg_L
theorem hd8_sumOf : yX8_sumOf.cls = RX8 ∧ yX8_sumOf.cls ≠ "java/lang/invoke/MethodHandle" ∧ yX8_sumOf.cls ≠ "java/lang/invoke/VarHandle" ∧ (parseMethodDescriptor yX8_sumOf.desc).map (fun d => d.parameters.length) = some 1 := by decide +kernel
abbrev RM8_sumOf : Room := { frames := 1, cells := 0, slots := 0, locals := 22 }
def wm8_sumOfDebts : List Cond := .code yX8_sumOfDebts cX8_sumOfDebts 3 (some .int) :: bg_L
theorem hd8_sumOfDebts : yX8_sumOfDebts.cls = RX8 ∧ yX8_sumOfDebts.cls ≠ "java/lang/invoke/MethodHandle" ∧ yX8_sumOfDebts.cls ≠ "java/lang/invoke/VarHandle" ∧ (parseMethodDescriptor yX8_sumOfDebts.desc).map (fun d => d.parameters.length) = some 0 := by decide +kernel
abbrev RM8_sumOfDebts : Room := { frames := 2, cells := 0, slots := 0, locals := 45 }
def wm8_debtsMany : List Cond := .code yX8_debtsMany cX8_debtsMany 4 (some .int) :: bg_L
theorem hd8_debtsMany : yX8_debtsMany.cls = RX8 ∧ yX8_debtsMany.cls ≠ "java/lang/invoke/MethodHandle" ∧ yX8_debtsMany.cls ≠ "java/lang/invoke/VarHandle" ∧ (parseMethodDescriptor yX8_debtsMany.desc).map (fun d => d.parameters.length) = some 0 := by decide +kernel
abbrev RM8_debtsMany : Room := { frames := 1, cells := 0, slots := 0, locals := 22 }
def wm8_die : List Cond := .code yX8_die cX8_die 1 (some .int) :: bg_L
theorem hd8_die : yX8_die.cls = RX8 ∧ yX8_die.cls ≠ "java/lang/invoke/MethodHandle" ∧ yX8_die.cls ≠ "java/lang/invoke/VarHandle" ∧ (parseMethodDescriptor yX8_die.desc).map (fun d => d.parameters.length) = some 0 := by decide +kernel
abbrev RM8_die : Room := { frames := 0, cells := 0, slots := 0, locals := 0 }
def wm8_oldest : List Cond := .code yX8_oldest cX8_oldest 6 (some .int) :: bg_L
theorem hd8_oldest : yX8_oldest.cls = RX8 ∧ yX8_oldest.cls ≠ "java/lang/invoke/MethodHandle" ∧ yX8_oldest.cls ≠ "java/lang/invoke/VarHandle" ∧ (parseMethodDescriptor yX8_oldest.desc).map (fun d => d.parameters.length) = some 2 := by decide +kernel
abbrev RM8_oldest : Room := { frames := 1, cells := 0, slots := 0, locals := 22 }
def wm8_pays : List Cond := .code yX8_pays cX8_pays 5 (some .int) :: bg_L
theorem hd8_pays : yX8_pays.cls = RX8 ∧ yX8_pays.cls ≠ "java/lang/invoke/MethodHandle" ∧ yX8_pays.cls ≠ "java/lang/invoke/VarHandle" ∧ (parseMethodDescriptor yX8_pays.desc).map (fun d => d.parameters.length) = some 3 := by decide +kernel
abbrev RM8_pays : Room := { frames := 1, cells := 0, slots := 0, locals := 23 }
def wm8_paysDebts : List Cond := .code yX8_paysDebts cX8_paysDebts 4 none :: bg_L
theorem hd8_paysDebts : yX8_paysDebts.cls = RX8 ∧ yX8_paysDebts.cls ≠ "java/lang/invoke/MethodHandle" ∧ yX8_paysDebts.cls ≠ "java/lang/invoke/VarHandle" ∧ (parseMethodDescriptor yX8_paysDebts.desc).map (fun d => d.parameters.length) = some 1 := by decide +kernel
abbrev RM8_paysDebts : Room := { frames := 2, cells := 0, slots := 0, locals := 47 }
def wm8_goes : List Cond := .code yX8_goes cX8_goes 4 none :: bg_L
theorem hd8_goes : yX8_goes.cls = RX8 ∧ yX8_goes.cls ≠ "java/lang/invoke/MethodHandle" ∧ yX8_goes.cls ≠ "java/lang/invoke/VarHandle" ∧ (parseMethodDescriptor yX8_goes.desc).map (fun d => d.parameters.length) = some 1 := by decide +kernel
abbrev RM8_goes : Room := { frames := 1, cells := 0, slots := 0, locals := 23 }
def wm8_canBeClaimed : List Cond := .code yX8_canBeClaimed cX8_canBeClaimed 2 (some .boolean) :: bg_L
theorem hd8_canBeClaimed : yX8_canBeClaimed.cls = RX8 ∧ yX8_canBeClaimed.cls ≠ "java/lang/invoke/MethodHandle" ∧ yX8_canBeClaimed.cls ≠ "java/lang/invoke/VarHandle" ∧ (parseMethodDescriptor yX8_canBeClaimed.desc).map (fun d => d.parameters.length) = some 1 := by decide +kernel
abbrev RM8_canBeClaimed : Room := { frames := 1, cells := 0, slots := 0, locals := 20 }
def wm8_claims : List Cond := .code yX8_claims cX8_claims 4 none :: bg_L
theorem hd8_claims : yX8_claims.cls = RX8 ∧ yX8_claims.cls ≠ "java/lang/invoke/MethodHandle" ∧ yX8_claims.cls ≠ "java/lang/invoke/VarHandle" ∧ (parseMethodDescriptor yX8_claims.desc).map (fun d => d.parameters.length) = some 2 := by decide +kernel
abbrev RM8_claims : Room := { frames := 1, cells := 0, slots := 0, locals := 23 }
def wm8_paysToll : List Cond := .code yX8_paysToll cX8_paysToll 5 none :: bg_L
theorem hd8_paysToll : yX8_paysToll.cls = RX8 ∧ yX8_paysToll.cls ≠ "java/lang/invoke/MethodHandle" ∧ yX8_paysToll.cls ≠ "java/lang/invoke/VarHandle" ∧ (parseMethodDescriptor yX8_paysToll.desc).map (fun d => d.parameters.length) = some 3 := by decide +kernel
abbrev RM8_paysToll : Room := { frames := 2, cells := 0, slots := 0, locals := 47 }
def wm8_arrives : List Cond := .code yX8_arrives cX8_arrives 5 none :: bg_L
theorem hd8_arrives : yX8_arrives.cls = RX8 ∧ yX8_arrives.cls ≠ "java/lang/invoke/MethodHandle" ∧ yX8_arrives.cls ≠ "java/lang/invoke/VarHandle" ∧ (parseMethodDescriptor yX8_arrives.desc).map (fun d => d.parameters.length) = some 2 := by decide +kernel
abbrev RM8_arrives : Room := { frames := 3, cells := 0, slots := 0, locals := 71 }
def wm8_hands : List Cond := .code yX8_hands cX8_hands 4 none :: bg_L
theorem hd8_hands : yX8_hands.cls = RX8 ∧ yX8_hands.cls ≠ "java/lang/invoke/MethodHandle" ∧ yX8_hands.cls ≠ "java/lang/invoke/VarHandle" ∧ (parseMethodDescriptor yX8_hands.desc).map (fun d => d.parameters.length) = some 3 := by decide +kernel
abbrev RM8_hands : Room := { frames := 0, cells := 0, slots := 0, locals := 0 }
def wm8_growsOlder : List Cond := .code yX8_growsOlder cX8_growsOlder 5 none :: bg_L
theorem hd8_growsOlder : yX8_growsOlder.cls = RX8 ∧ yX8_growsOlder.cls ≠ "java/lang/invoke/MethodHandle" ∧ yX8_growsOlder.cls ≠ "java/lang/invoke/VarHandle" ∧ (parseMethodDescriptor yX8_growsOlder.desc).map (fun d => d.parameters.length) = some 1 := by decide +kernel
abbrev RM8_growsOlder : Room := { frames := 2, cells := 0, slots := 0, locals := 47 }
def wm8_turn : List Cond := .code yX8_turn cX8_turn 2 none :: bg_L
theorem hd8_turn : yX8_turn.cls = RX8 ∧ yX8_turn.cls ≠ "java/lang/invoke/MethodHandle" ∧ yX8_turn.cls ≠ "java/lang/invoke/VarHandle" ∧ (parseMethodDescriptor yX8_turn.desc).map (fun d => d.parameters.length) = some 0 := by decide +kernel
abbrev RM8_turn : Room := { frames := 4, cells := 0, slots := 0, locals := 95 }
def wm8_doTurns : List Cond := .code yX8_doTurns cX8_doTurns 4 (some .int) :: bg_L
theorem hd8_doTurns : yX8_doTurns.cls = RX8 ∧ yX8_doTurns.cls ≠ "java/lang/invoke/MethodHandle" ∧ yX8_doTurns.cls ≠ "java/lang/invoke/VarHandle" ∧ (parseMethodDescriptor yX8_doTurns.desc).map (fun d => d.parameters.length) = some 1 := by decide +kernel
abbrev RM8_doTurns : Room := { frames := 5, cells := 0, slots := 0, locals := 116 }
def wm8_whyNoPlayer : List Cond := .code yX8_whyNoPlayer cX8_whyNoPlayer 2 (some .int) :: bg_L
theorem hd8_whyNoPlayer : yX8_whyNoPlayer.cls = RX8 ∧ yX8_whyNoPlayer.cls ≠ "java/lang/invoke/MethodHandle" ∧ yX8_whyNoPlayer.cls ≠ "java/lang/invoke/VarHandle" ∧ (parseMethodDescriptor yX8_whyNoPlayer.desc).map (fun d => d.parameters.length) = some 1 := by decide +kernel
abbrev RM8_whyNoPlayer : Room := { frames := 1, cells := 0, slots := 0, locals := 22 }
def wm8_comes : List Cond := .code yX8_comes cX8_comes 4 (some .int) :: bg_L
theorem hd8_comes : yX8_comes.cls = RX8 ∧ yX8_comes.cls ≠ "java/lang/invoke/MethodHandle" ∧ yX8_comes.cls ≠ "java/lang/invoke/VarHandle" ∧ (parseMethodDescriptor yX8_comes.desc).map (fun d => d.parameters.length) = some 1 := by decide +kernel
abbrev RM8_comes : Room := { frames := 0, cells := 0, slots := 0, locals := 0 }
def wm8_whyNoTurns : List Cond := .code yX8_whyNoTurns cX8_whyNoTurns 2 (some .int) :: bg_L
theorem hd8_whyNoTurns : yX8_whyNoTurns.cls = RX8 ∧ yX8_whyNoTurns.cls ≠ "java/lang/invoke/MethodHandle" ∧ yX8_whyNoTurns.cls ≠ "java/lang/invoke/VarHandle" ∧ (parseMethodDescriptor yX8_whyNoTurns.desc).map (fun d => d.parameters.length) = some 1 := by decide +kernel
abbrev RM8_whyNoTurns : Room := { frames := 1, cells := 0, slots := 0, locals := 22 }
def wm8_of : List Cond := .code yX8_of cX8_of 3 (some .int) :: bg_L
theorem hd8_of : yX8_of.cls = RX8 ∧ yX8_of.cls ≠ "java/lang/invoke/MethodHandle" ∧ yX8_of.cls ≠ "java/lang/invoke/VarHandle" ∧ (parseMethodDescriptor yX8_of.desc).map (fun d => d.parameters.length) = some 2 := by decide +kernel
abbrev RM8_of : Room := { frames := 2, cells := 0, slots := 0, locals := 45 }
def wm8_ofSquare : List Cond := .code yX8_ofSquare cX8_ofSquare 3 (some .int) :: bg_L
theorem hd8_ofSquare : yX8_ofSquare.cls = RX8 ∧ yX8_ofSquare.cls ≠ "java/lang/invoke/MethodHandle" ∧ yX8_ofSquare.cls ≠ "java/lang/invoke/VarHandle" ∧ (parseMethodDescriptor yX8_ofSquare.desc).map (fun d => d.parameters.length) = some 2 := by decide +kernel
abbrev RM8_ofSquare : Room := { frames := 2, cells := 0, slots := 0, locals := 45 }
def wm8_owes : List Cond := .code yX8_owes cX8_owes 5 (some .int) :: bg_L
theorem hd8_owes : yX8_owes.cls = RX8 ∧ yX8_owes.cls ≠ "java/lang/invoke/MethodHandle" ∧ yX8_owes.cls ≠ "java/lang/invoke/VarHandle" ∧ (parseMethodDescriptor yX8_owes.desc).map (fun d => d.parameters.length) = some 3 := by decide +kernel
abbrev RM8_owes : Room := { frames := 2, cells := 0, slots := 0, locals := 43 }
def wm8_record : List Cond := .code yX8_record cX8_record 2 none :: bg_L
theorem hd8_record : yX8_record.cls = RX8 ∧ yX8_record.cls ≠ "java/lang/invoke/MethodHandle" ∧ yX8_record.cls ≠ "java/lang/invoke/VarHandle" ∧ (parseMethodDescriptor yX8_record.desc).map (fun d => d.parameters.length) = some 0 := by decide +kernel
abbrev RM8_record : Room := { frames := 1, cells := 0, slots := 0, locals := 24 }
def wm8_set : List Cond := .code yX8_set cX8_set 4 (some .int) :: bg_L
theorem hd8_set : yX8_set.cls = RX8 ∧ yX8_set.cls ≠ "java/lang/invoke/MethodHandle" ∧ yX8_set.cls ≠ "java/lang/invoke/VarHandle" ∧ (parseMethodDescriptor yX8_set.desc).map (fun d => d.parameters.length) = some 2 := by decide +kernel
abbrev RM8_set : Room := { frames := 2, cells := 0, slots := 0, locals := 45 }
def wm8_player : List Cond := .code yX8_player cX8_player 3 (some .int) :: bg_L
theorem hd8_player : yX8_player.cls = RX8 ∧ yX8_player.cls ≠ "java/lang/invoke/MethodHandle" ∧ yX8_player.cls ≠ "java/lang/invoke/VarHandle" ∧ (parseMethodDescriptor yX8_player.desc).map (fun d => d.parameters.length) = some 1 := by decide +kernel
abbrev RM8_player : Room := { frames := 2, cells := 0, slots := 0, locals := 45 }
def wm8_seed : List Cond := .code yX8_seed cX8_seed 3 (some .int) :: bg_L
theorem hd8_seed : yX8_seed.cls = RX8 ∧ yX8_seed.cls ≠ "java/lang/invoke/MethodHandle" ∧ yX8_seed.cls ≠ "java/lang/invoke/VarHandle" ∧ (parseMethodDescriptor yX8_seed.desc).map (fun d => d.parameters.length) = some 1 := by decide +kernel
abbrev RM8_seed : Room := { frames := 2, cells := 0, slots := 0, locals := 45 }
def wm8_go : List Cond := .code yX8_go cX8_go 3 (some .int) :: bg_L
theorem hd8_go : yX8_go.cls = RX8 ∧ yX8_go.cls ≠ "java/lang/invoke/MethodHandle" ∧ yX8_go.cls ≠ "java/lang/invoke/VarHandle" ∧ (parseMethodDescriptor yX8_go.desc).map (fun d => d.parameters.length) = some 1 := by decide +kernel
abbrev RM8_go : Room := { frames := 6, cells := 0, slots := 0, locals := 139 }
def wm8_takesRing : List Cond := .code yX8_takesRing cX8_takesRing 6 none :: bg_L
theorem hd8_takesRing : yX8_takesRing.cls = RX8 ∧ yX8_takesRing.cls ≠ "java/lang/invoke/MethodHandle" ∧ yX8_takesRing.cls ≠ "java/lang/invoke/VarHandle" ∧ (parseMethodDescriptor yX8_takesRing.desc).map (fun d => d.parameters.length) = some 5 := by decide +kernel
abbrev RM8_takesRing : Room := { frames := 0, cells := 0, slots := 0, locals := 0 }
def wm8_findRing : List Cond := .code yX8_findRing cX8_findRing 8 (some .boolean) :: bg_L
theorem hd8_findRing : yX8_findRing.cls = RX8 ∧ yX8_findRing.cls ≠ "java/lang/invoke/MethodHandle" ∧ yX8_findRing.cls ≠ "java/lang/invoke/VarHandle" ∧ (parseMethodDescriptor yX8_findRing.desc).map (fun d => d.parameters.length) = some 2 := by decide +kernel
abbrev RM8_findRing : Room := { frames := 1, cells := 0, slots := 0, locals := 25 }
def wm8_clearsRing : List Cond := .code yX8_clearsRing cX8_clearsRing 4 (some .int) :: bg_L
theorem hd8_clearsRing : yX8_clearsRing.cls = RX8 ∧ yX8_clearsRing.cls ≠ "java/lang/invoke/MethodHandle" ∧ yX8_clearsRing.cls ≠ "java/lang/invoke/VarHandle" ∧ (parseMethodDescriptor yX8_clearsRing.desc).map (fun d => d.parameters.length) = some 0 := by decide +kernel
abbrev RM8_clearsRing : Room := { frames := 2, cells := 0, slots := 0, locals := 46 }
def wm8_clears : List Cond := .code yX8_clears cX8_clears 3 (some .int) :: bg_L
theorem hd8_clears : yX8_clears.cls = RX8 ∧ yX8_clears.cls ≠ "java/lang/invoke/MethodHandle" ∧ yX8_clears.cls ≠ "java/lang/invoke/VarHandle" ∧ (parseMethodDescriptor yX8_clears.desc).map (fun d => d.parameters.length) = some 1 := by decide +kernel
abbrev RM8_clears : Room := { frames := 3, cells := 0, slots := 0, locals := 69 }
def wm8_clear : List Cond := .code yX8_clear cX8_clear 2 (some .int) :: bg_L
theorem hd8_clear : yX8_clear.cls = RX8 ∧ yX8_clear.cls ≠ "java/lang/invoke/MethodHandle" ∧ yX8_clear.cls ≠ "java/lang/invoke/VarHandle" ∧ (parseMethodDescriptor yX8_clear.desc).map (fun d => d.parameters.length) = some 1 := by decide +kernel
abbrev RM8_clear : Room := { frames := 4, cells := 0, slots := 0, locals := 91 }
def wm8_writesSign : List Cond := .code yX8_writesSign cX8_writesSign 2 none :: bg_L
theorem hd8_writesSign : yX8_writesSign.cls = RX8 ∧ yX8_writesSign.cls ≠ "java/lang/invoke/MethodHandle" ∧ yX8_writesSign.cls ≠ "java/lang/invoke/VarHandle" ∧ (parseMethodDescriptor yX8_writesSign.desc).map (fun d => d.parameters.length) = some 1 := by decide +kernel
abbrev RM8_writesSign : Room := { frames := 0, cells := 0, slots := 0, locals := 0 }
def wm8_writesSquare : List Cond := .code yX8_writesSquare cX8_writesSquare 3 none :: bg_L
theorem hd8_writesSquare : yX8_writesSquare.cls = RX8 ∧ yX8_writesSquare.cls ≠ "java/lang/invoke/MethodHandle" ∧ yX8_writesSquare.cls ≠ "java/lang/invoke/VarHandle" ∧ (parseMethodDescriptor yX8_writesSquare.desc).map (fun d => d.parameters.length) = some 1 := by decide +kernel
abbrev RM8_writesSquare : Room := { frames := 1, cells := 0, slots := 0, locals := 22 }
def wm8_writes : List Cond := .code yX8_writes cX8_writes 3 none :: bg_L
theorem hd8_writes : yX8_writes.cls = RX8 ∧ yX8_writes.cls ≠ "java/lang/invoke/MethodHandle" ∧ yX8_writes.cls ≠ "java/lang/invoke/VarHandle" ∧ (parseMethodDescriptor yX8_writes.desc).map (fun d => d.parameters.length) = some 1 := by decide +kernel
abbrev RM8_writes : Room := { frames := 2, cells := 0, slots := 0, locals := 44 }
def wm8_count : List Cond := .code yX8_count cX8_count 2 (some .int) :: bg_L
theorem hd8_count : yX8_count.cls = RX8 ∧ yX8_count.cls ≠ "java/lang/invoke/MethodHandle" ∧ yX8_count.cls ≠ "java/lang/invoke/VarHandle" ∧ (parseMethodDescriptor yX8_count.desc).map (fun d => d.parameters.length) = some 1 := by decide +kernel
abbrev RM8_count : Room := { frames := 3, cells := 0, slots := 0, locals := 67 }
def wm8_sign : List Cond := .code yX8_sign cX8_sign 2 (some .int) :: bg_L
theorem hd8_sign : yX8_sign.cls = RX8 ∧ yX8_sign.cls ≠ "java/lang/invoke/MethodHandle" ∧ yX8_sign.cls ≠ "java/lang/invoke/VarHandle" ∧ (parseMethodDescriptor yX8_sign.desc).map (fun d => d.parameters.length) = some 1 := by decide +kernel
abbrev RM8_sign : Room := { frames := 3, cells := 0, slots := 0, locals := 66 }
def wm8_chain : List Cond := .code yX8_chain cX8_chain 7 (some .int) :: bg_L
theorem hd8_chain : yX8_chain.cls = RX8 ∧ yX8_chain.cls ≠ "java/lang/invoke/MethodHandle" ∧ yX8_chain.cls ≠ "java/lang/invoke/VarHandle" ∧ (parseMethodDescriptor yX8_chain.desc).map (fun d => d.parameters.length) = some 2 := by decide +kernel
abbrev RM8_chain : Room := { frames := 2, cells := 0, slots := 0, locals := 43 }
def wm8_emptyIn : List Cond := .code yX8_emptyIn cX8_emptyIn 4 (some .int) :: bg_L
theorem hd8_emptyIn : yX8_emptyIn.cls = RX8 ∧ yX8_emptyIn.cls ≠ "java/lang/invoke/MethodHandle" ∧ yX8_emptyIn.cls ≠ "java/lang/invoke/VarHandle" ∧ (parseMethodDescriptor yX8_emptyIn.desc).map (fun d => d.parameters.length) = some 1 := by decide +kernel
abbrev RM8_emptyIn : Room := { frames := 5, cells := 0, slots := 0, locals := 116 }
def wm8_purseIn : List Cond := .code yX8_purseIn cX8_purseIn 4 (some .int) :: bg_L
theorem hd8_purseIn : yX8_purseIn.cls = RX8 ∧ yX8_purseIn.cls ≠ "java/lang/invoke/MethodHandle" ∧ yX8_purseIn.cls ≠ "java/lang/invoke/VarHandle" ∧ (parseMethodDescriptor yX8_purseIn.desc).map (fun d => d.parameters.length) = some 2 := by decide +kernel
abbrev RM8_purseIn : Room := { frames := 6, cells := 0, slots := 0, locals := 139 }
def wm8_bestSeed : List Cond := .code yX8_bestSeed cX8_bestSeed 8 (some .int) :: bg_L
theorem hd8_bestSeed : yX8_bestSeed.cls = RX8 ∧ yX8_bestSeed.cls ≠ "java/lang/invoke/MethodHandle" ∧ yX8_bestSeed.cls ≠ "java/lang/invoke/VarHandle" ∧ (parseMethodDescriptor yX8_bestSeed.desc).map (fun d => d.parameters.length) = some 2 := by decide +kernel
abbrev RM8_bestSeed : Room := { frames := 6, cells := 0, slots := 0, locals := 139 }
def wm8_put : List Cond := .code yX8_put cX8_put 8 (some .int) :: bg_L
theorem hd8_put : yX8_put.cls = RX8 ∧ yX8_put.cls ≠ "java/lang/invoke/MethodHandle" ∧ yX8_put.cls ≠ "java/lang/invoke/VarHandle" ∧ (parseMethodDescriptor yX8_put.desc).map (fun d => d.parameters.length) = some 1 := by decide +kernel
abbrev RM8_put : Room := { frames := 1, cells := 0, slots := 0, locals := 22 }
def wm8_wipe : List Cond := .code yX8_wipe cX8_wipe 2 (some .int) :: bg_L
theorem hd8_wipe : yX8_wipe.cls = RX8 ∧ yX8_wipe.cls ≠ "java/lang/invoke/MethodHandle" ∧ yX8_wipe.cls ≠ "java/lang/invoke/VarHandle" ∧ (parseMethodDescriptor yX8_wipe.desc).map (fun d => d.parameters.length) = some 0 := by decide +kernel
abbrev RM8_wipe : Room := { frames := 0, cells := 0, slots := 0, locals := 0 }
def wm8_character : List Cond := .code yX8_character cX8_character 2 (some .int) :: bg_L
theorem hd8_character : yX8_character.cls = RX8 ∧ yX8_character.cls ≠ "java/lang/invoke/MethodHandle" ∧ yX8_character.cls ≠ "java/lang/invoke/VarHandle" ∧ (parseMethodDescriptor yX8_character.desc).map (fun d => d.parameters.length) = some 1 := by decide +kernel
abbrev RM8_character : Room := { frames := 0, cells := 0, slots := 0, locals := 0 }
def wm8_isNext : List Cond := .code yX8_isNext cX8_isNext 3 (some .boolean) :: bg_L
theorem hd8_isNext : yX8_isNext.cls = RX8 ∧ yX8_isNext.cls ≠ "java/lang/invoke/MethodHandle" ∧ yX8_isNext.cls ≠ "java/lang/invoke/VarHandle" ∧ (parseMethodDescriptor yX8_isNext.desc).map (fun d => d.parameters.length) = some 1 := by decide +kernel
abbrev RM8_isNext : Room := { frames := 1, cells := 0, slots := 0, locals := 21 }
def wm8_isDigit : List Cond := .code yX8_isDigit cX8_isDigit 1 (some .boolean) :: bg_L
theorem hd8_isDigit : yX8_isDigit.cls = RX8 ∧ yX8_isDigit.cls ≠ "java/lang/invoke/MethodHandle" ∧ yX8_isDigit.cls ≠ "java/lang/invoke/VarHandle" ∧ (parseMethodDescriptor yX8_isDigit.desc).map (fun d => d.parameters.length) = some 0 := by decide +kernel
abbrev RM8_isDigit : Room := { frames := 1, cells := 0, slots := 0, locals := 22 }
def wm8_takesNumber : List Cond := .code yX8_takesNumber cX8_takesNumber 2 (some .boolean) :: bg_L
theorem hd8_takesNumber : yX8_takesNumber.cls = RX8 ∧ yX8_takesNumber.cls ≠ "java/lang/invoke/MethodHandle" ∧ yX8_takesNumber.cls ≠ "java/lang/invoke/VarHandle" ∧ (parseMethodDescriptor yX8_takesNumber.desc).map (fun d => d.parameters.length) = some 1 := by decide +kernel
abbrev RM8_takesNumber : Room := { frames := 2, cells := 0, slots := 0, locals := 42 }
def wm8_readsOrder : List Cond := .code yX8_readsOrder cX8_readsOrder 1 (some .boolean) :: bg_L
theorem hd8_readsOrder : yX8_readsOrder.cls = RX8 ∧ yX8_readsOrder.cls ≠ "java/lang/invoke/MethodHandle" ∧ yX8_readsOrder.cls ≠ "java/lang/invoke/VarHandle" ∧ (parseMethodDescriptor yX8_readsOrder.desc).map (fun d => d.parameters.length) = some 0 := by decide +kernel
abbrev RM8_readsOrder : Room := { frames := 3, cells := 0, slots := 0, locals := 63 }
def wm8_findFault : List Cond := .code yX8_findFault cX8_findFault 1 (some .int) :: bg_L
theorem hd8_findFault : yX8_findFault.cls = RX8 ∧ yX8_findFault.cls ≠ "java/lang/invoke/MethodHandle" ∧ yX8_findFault.cls ≠ "java/lang/invoke/VarHandle" ∧ (parseMethodDescriptor yX8_findFault.desc).map (fun d => d.parameters.length) = some 0 := by decide +kernel
abbrev RM8_findFault : Room := { frames := 4, cells := 0, slots := 0, locals := 83 }
def wm8_fault : List Cond := .code yX8_fault cX8_fault 1 (some .int) :: bg_L
theorem hd8_fault : yX8_fault.cls = RX8 ∧ yX8_fault.cls ≠ "java/lang/invoke/MethodHandle" ∧ yX8_fault.cls ≠ "java/lang/invoke/VarHandle" ∧ (parseMethodDescriptor yX8_fault.desc).map (fun d => d.parameters.length) = some 0 := by decide +kernel
abbrev RM8_fault : Room := { frames := 5, cells := 0, slots := 0, locals := 103 }
def wm8_whyNotDone : List Cond := .code yX8_whyNotDone cX8_whyNotDone 1 (some .int) :: bg_L
theorem hd8_whyNotDone : yX8_whyNotDone.cls = RX8 ∧ yX8_whyNotDone.cls ≠ "java/lang/invoke/MethodHandle" ∧ yX8_whyNotDone.cls ≠ "java/lang/invoke/VarHandle" ∧ (parseMethodDescriptor yX8_whyNotDone.desc).map (fun d => d.parameters.length) = some 0 := by decide +kernel
abbrev RM8_whyNotDone : Room := { frames := 2, cells := 0, slots := 0, locals := 43 }
def wm8_does : List Cond := .code yX8_does cX8_does 1 none :: bg_L
theorem hd8_does : yX8_does.cls = RX8 ∧ yX8_does.cls ≠ "java/lang/invoke/MethodHandle" ∧ yX8_does.cls ≠ "java/lang/invoke/VarHandle" ∧ (parseMethodDescriptor yX8_does.desc).map (fun d => d.parameters.length) = some 0 := by decide +kernel
abbrev RM8_does : Room := { frames := 6, cells := 0, slots := 0, locals := 139 }
def wm8_carryOut : List Cond := .code yX8_carryOut cX8_carryOut 3 (some .int) :: bg_L
theorem hd8_carryOut : yX8_carryOut.cls = RX8 ∧ yX8_carryOut.cls ≠ "java/lang/invoke/MethodHandle" ∧ yX8_carryOut.cls ≠ "java/lang/invoke/VarHandle" ∧ (parseMethodDescriptor yX8_carryOut.desc).map (fun d => d.parameters.length) = some 0 := by decide +kernel
abbrev RM8_carryOut : Room := { frames := 7, cells := 0, slots := 0, locals := 159 }
def wm8_undo : List Cond := .code yX8_undo cX8_undo 1 (some .int) :: bg_L
theorem hd8_undo : yX8_undo.cls = RX8 ∧ yX8_undo.cls ≠ "java/lang/invoke/MethodHandle" ∧ yX8_undo.cls ≠ "java/lang/invoke/VarHandle" ∧ (parseMethodDescriptor yX8_undo.desc).map (fun d => d.parameters.length) = some 0 := by decide +kernel
abbrev RM8_undo : Room := { frames := 1, cells := 0, slots := 0, locals := 24 }
def wm8_save : List Cond := .code yX8_save cX8_save 2 (some .int) :: bg_L
theorem hd8_save : yX8_save.cls = RX8 ∧ yX8_save.cls ≠ "java/lang/invoke/MethodHandle" ∧ yX8_save.cls ≠ "java/lang/invoke/VarHandle" ∧ (parseMethodDescriptor yX8_save.desc).map (fun d => d.parameters.length) = some 1 := by decide +kernel
abbrev RM8_save : Room := { frames := 1, cells := 0, slots := 0, locals := 24 }
def wm8_restore : List Cond := .code yX8_restore cX8_restore 2 (some .int) :: bg_L
theorem hd8_restore : yX8_restore.cls = RX8 ∧ yX8_restore.cls ≠ "java/lang/invoke/MethodHandle" ∧ yX8_restore.cls ≠ "java/lang/invoke/VarHandle" ∧ (parseMethodDescriptor yX8_restore.desc).map (fun d => d.parameters.length) = some 1 := by decide +kernel
abbrev RM8_restore : Room := { frames := 2, cells := 0, slots := 0, locals := 45 }
def wm6_at : List Cond := .code yX6_at cX6_at 2 (some .int) :: bg_L
theorem hd6_at : yX6_at.cls = RX6 ∧ yX6_at.cls ≠ "java/lang/invoke/MethodHandle" ∧ yX6_at.cls ≠ "java/lang/invoke/VarHandle" ∧ (parseMethodDescriptor yX6_at.desc).map (fun d => d.parameters.length) = some 1 := by decide +kernel
abbrev RM6_at : Room := { frames := 0, cells := 0, slots := 0, locals := 0 }
def wm6_write : List Cond := .code yX6_write cX6_write 3 none :: bg_L
theorem hd6_write : yX6_write.cls = RX6 ∧ yX6_write.cls ≠ "java/lang/invoke/MethodHandle" ∧ yX6_write.cls ≠ "java/lang/invoke/VarHandle" ∧ (parseMethodDescriptor yX6_write.desc).map (fun d => d.parameters.length) = some 2 := by decide +kernel
abbrev RM6_write : Room := { frames := 0, cells := 0, slots := 0, locals := 0 }
def wm6_add : List Cond := .code yX6_add cX6_add 3 none :: bg_L
theorem hd6_add : yX6_add.cls = RX6 ∧ yX6_add.cls ≠ "java/lang/invoke/MethodHandle" ∧ yX6_add.cls ≠ "java/lang/invoke/VarHandle" ∧ (parseMethodDescriptor yX6_add.desc).map (fun d => d.parameters.length) = some 2 := by decide +kernel
abbrev RM6_add : Room := { frames := 0, cells := 0, slots := 0, locals := 0 }
def wm6_sum : List Cond := .code yX6_sum cX6_sum 3 (some .int) :: bg_L
theorem hd6_sum : yX6_sum.cls = RX6 ∧ yX6_sum.cls ≠ "java/lang/invoke/MethodHandle" ∧ yX6_sum.cls ≠ "java/lang/invoke/VarHandle" ∧ (parseMethodDescriptor yX6_sum.desc).map (fun d => d.parameters.length) = some 0 := by decide +kernel
abbrev RM6_sum : Room := { frames := 0, cells := 0, slots := 0, locals := 0 }
def wm6_copyFrom : List Cond := .code yX6_copyFrom cX6_copyFrom 3 none :: bg_L
theorem hd6_copyFrom : yX6_copyFrom.cls = RX6 ∧ yX6_copyFrom.cls ≠ "java/lang/invoke/MethodHandle" ∧ yX6_copyFrom.cls ≠ "java/lang/invoke/VarHandle" ∧ (parseMethodDescriptor yX6_copyFrom.desc).map (fun d => d.parameters.length) = some 1 := by decide +kernel
abbrev RM6_copyFrom : Room := { frames := 0, cells := 0, slots := 0, locals := 0 }
def wm5_sortOf : List Cond := .code yX5_sortOf cX5_sortOf 1 (some .int) :: bg_L
theorem hd5_sortOf : yX5_sortOf.cls ≠ "java/lang/invoke/MethodHandle" ∧ yX5_sortOf.cls ≠ "java/lang/invoke/VarHandle" ∧ (parseMethodDescriptor yX5_sortOf.desc).map (fun d => d.parameters.length) = some 1 := by decide +kernel
abbrev RM5_sortOf : Room := { frames := 0, cells := 0, slots := 0, locals := 0 }
def wm5_firstOwner : List Cond := .code yX5_firstOwner cX5_firstOwner 2 (some .int) :: bg_L
theorem hd5_firstOwner : yX5_firstOwner.cls = RX5 ∧ yX5_firstOwner.cls ≠ "java/lang/invoke/MethodHandle" ∧ yX5_firstOwner.cls ≠ "java/lang/invoke/VarHandle" ∧ (parseMethodDescriptor yX5_firstOwner.desc).map (fun d => d.parameters.length) = some 1 := by decide +kernel
abbrev RM5_firstOwner : Room := { frames := 1, cells := 0, slots := 0, locals := 21 }
def wm5_secondOwner : List Cond := .code yX5_secondOwner cX5_secondOwner 2 (some .int) :: bg_L
theorem hd5_secondOwner : yX5_secondOwner.cls = RX5 ∧ yX5_secondOwner.cls ≠ "java/lang/invoke/MethodHandle" ∧ yX5_secondOwner.cls ≠ "java/lang/invoke/VarHandle" ∧ (parseMethodDescriptor yX5_secondOwner.desc).map (fun d => d.parameters.length) = some 1 := by decide +kernel
abbrev RM5_secondOwner : Room := { frames := 1, cells := 0, slots := 0, locals := 21 }
def wm5_isOwnedBy : List Cond := .code yX5_isOwnedBy cX5_isOwnedBy 3 (some .boolean) :: bg_L
theorem hd5_isOwnedBy : yX5_isOwnedBy.cls = RX5 ∧ yX5_isOwnedBy.cls ≠ "java/lang/invoke/MethodHandle" ∧ yX5_isOwnedBy.cls ≠ "java/lang/invoke/VarHandle" ∧ (parseMethodDescriptor yX5_isOwnedBy.desc).map (fun d => d.parameters.length) = some 2 := by decide +kernel
abbrev RM5_isOwnedBy : Room := { frames := 1, cells := 0, slots := 0, locals := 21 }
def wm5_hasFreePart : List Cond := .code yX5_hasFreePart cX5_hasFreePart 3 (some .boolean) :: bg_L
theorem hd5_hasFreePart : yX5_hasFreePart.cls = RX5 ∧ yX5_hasFreePart.cls ≠ "java/lang/invoke/MethodHandle" ∧ yX5_hasFreePart.cls ≠ "java/lang/invoke/VarHandle" ∧ (parseMethodDescriptor yX5_hasFreePart.desc).map (fun d => d.parameters.length) = some 1 := by decide +kernel
abbrev RM5_hasFreePart : Room := { frames := 1, cells := 0, slots := 0, locals := 21 }
def wm5_giveFreePart : List Cond := .code yX5_giveFreePart cX5_giveFreePart 3 none :: bg_L
theorem hd5_giveFreePart : yX5_giveFreePart.cls = RX5 ∧ yX5_giveFreePart.cls ≠ "java/lang/invoke/MethodHandle" ∧ yX5_giveFreePart.cls ≠ "java/lang/invoke/VarHandle" ∧ (parseMethodDescriptor yX5_giveFreePart.desc).map (fun d => d.parameters.length) = some 2 := by decide +kernel
abbrev RM5_giveFreePart : Room := { frames := 1, cells := 0, slots := 0, locals := 22 }
def wm5_handOn : List Cond := .code yX5_handOn cX5_handOn 6 none :: bg_L
theorem hd5_handOn : yX5_handOn.cls = RX5 ∧ yX5_handOn.cls ≠ "java/lang/invoke/MethodHandle" ∧ yX5_handOn.cls ≠ "java/lang/invoke/VarHandle" ∧ (parseMethodDescriptor yX5_handOn.desc).map (fun d => d.parameters.length) = some 3 := by decide +kernel
abbrev RM5_handOn : Room := { frames := 1, cells := 0, slots := 0, locals := 22 }
def wm5_lowestOf : List Cond := .code yX5_lowestOf cX5_lowestOf 3 (some .int) :: bg_L
theorem hd5_lowestOf : yX5_lowestOf.cls = RX5 ∧ yX5_lowestOf.cls ≠ "java/lang/invoke/MethodHandle" ∧ yX5_lowestOf.cls ≠ "java/lang/invoke/VarHandle" ∧ (parseMethodDescriptor yX5_lowestOf.desc).map (fun d => d.parameters.length) = some 1 := by decide +kernel
abbrev RM5_lowestOf : Room := { frames := 1, cells := 0, slots := 0, locals := 21 }
def wm5_squaresOf : List Cond := .code yX5_squaresOf cX5_squaresOf 4 (some .int) :: bg_L
theorem hd5_squaresOf : yX5_squaresOf.cls = RX5 ∧ yX5_squaresOf.cls ≠ "java/lang/invoke/MethodHandle" ∧ yX5_squaresOf.cls ≠ "java/lang/invoke/VarHandle" ∧ (parseMethodDescriptor yX5_squaresOf.desc).map (fun d => d.parameters.length) = some 1 := by decide +kernel
abbrev RM5_squaresOf : Room := { frames := 1, cells := 0, slots := 0, locals := 21 }
def wm5_toll : List Cond := .code yX5_toll cX5_toll 7 (some .int) :: bg_L
theorem hd5_toll : yX5_toll.cls = RX5 ∧ yX5_toll.cls ≠ "java/lang/invoke/MethodHandle" ∧ yX5_toll.cls ≠ "java/lang/invoke/VarHandle" ∧ (parseMethodDescriptor yX5_toll.desc).map (fun d => d.parameters.length) = some 2 := by decide +kernel
abbrev RM5_toll : Room := { frames := 1, cells := 0, slots := 0, locals := 21 }
def wm5_copyFrom : List Cond := .code yX5_copyFrom cX5_copyFrom 2 none :: bg_L
theorem hd5_copyFrom : yX5_copyFrom.cls = RX5 ∧ yX5_copyFrom.cls ≠ "java/lang/invoke/MethodHandle" ∧ yX5_copyFrom.cls ≠ "java/lang/invoke/VarHandle" ∧ (parseMethodDescriptor yX5_copyFrom.desc).map (fun d => d.parameters.length) = some 1 := by decide +kernel
abbrev RM5_copyFrom : Room := { frames := 1, cells := 0, slots := 0, locals := 22 }
def wm1_coinsOf : List Cond := .code yX1_coinsOf cX1_coinsOf 3 (some .int) :: bg_L
theorem hd1_coinsOf : yX1_coinsOf.cls = RX1 ∧ yX1_coinsOf.cls ≠ "java/lang/invoke/MethodHandle" ∧ yX1_coinsOf.cls ≠ "java/lang/invoke/VarHandle" ∧ (parseMethodDescriptor yX1_coinsOf.desc).map (fun d => d.parameters.length) = some 2 := by decide +kernel
abbrev RM1_coinsOf : Room := { frames := 1, cells := 0, slots := 0, locals := 21 }
def wm1_ageOf : List Cond := .code yX1_ageOf cX1_ageOf 3 (some .int) :: bg_L
theorem hd1_ageOf : yX1_ageOf.cls = RX1 ∧ yX1_ageOf.cls ≠ "java/lang/invoke/MethodHandle" ∧ yX1_ageOf.cls ≠ "java/lang/invoke/VarHandle" ∧ (parseMethodDescriptor yX1_ageOf.desc).map (fun d => d.parameters.length) = some 2 := by decide +kernel
abbrev RM1_ageOf : Room := { frames := 1, cells := 0, slots := 0, locals := 21 }
def wm1_grow : List Cond := .code yX1_grow cX1_grow 5 none :: bg_L
theorem hd1_grow : yX1_grow.cls = RX1 ∧ yX1_grow.cls ≠ "java/lang/invoke/MethodHandle" ∧ yX1_grow.cls ≠ "java/lang/invoke/VarHandle" ∧ (parseMethodDescriptor yX1_grow.desc).map (fun d => d.parameters.length) = some 3 := by decide +kernel
abbrev RM1_grow : Room := { frames := 1, cells := 0, slots := 0, locals := 22 }
def wm1_shrink : List Cond := .code yX1_shrink cX1_shrink 5 none :: bg_L
theorem hd1_shrink : yX1_shrink.cls = RX1 ∧ yX1_shrink.cls ≠ "java/lang/invoke/MethodHandle" ∧ yX1_shrink.cls ≠ "java/lang/invoke/VarHandle" ∧ (parseMethodDescriptor yX1_shrink.desc).map (fun d => d.parameters.length) = some 3 := by decide +kernel
abbrev RM1_shrink : Room := { frames := 1, cells := 0, slots := 0, locals := 22 }
def wm1_makeOlder : List Cond := .code yX1_makeOlder cX1_makeOlder 4 none :: bg_L
theorem hd1_makeOlder : yX1_makeOlder.cls = RX1 ∧ yX1_makeOlder.cls ≠ "java/lang/invoke/MethodHandle" ∧ yX1_makeOlder.cls ≠ "java/lang/invoke/VarHandle" ∧ (parseMethodDescriptor yX1_makeOlder.desc).map (fun d => d.parameters.length) = some 1 := by decide +kernel
abbrev RM1_makeOlder : Room := { frames := 1, cells := 0, slots := 0, locals := 22 }
def wm1_oldestOf : List Cond := .code yX1_oldestOf cX1_oldestOf 6 (some .int) :: bg_L
theorem hd1_oldestOf : yX1_oldestOf.cls = RX1 ∧ yX1_oldestOf.cls ≠ "java/lang/invoke/MethodHandle" ∧ yX1_oldestOf.cls ≠ "java/lang/invoke/VarHandle" ∧ (parseMethodDescriptor yX1_oldestOf.desc).map (fun d => d.parameters.length) = some 1 := by decide +kernel
abbrev RM1_oldestOf : Room := { frames := 1, cells := 0, slots := 0, locals := 21 }
def wm1_owedBy : List Cond := .code yX1_owedBy cX1_owedBy 4 (some .int) :: bg_L
theorem hd1_owedBy : yX1_owedBy.cls = RX1 ∧ yX1_owedBy.cls ≠ "java/lang/invoke/MethodHandle" ∧ yX1_owedBy.cls ≠ "java/lang/invoke/VarHandle" ∧ (parseMethodDescriptor yX1_owedBy.desc).map (fun d => d.parameters.length) = some 1 := by decide +kernel
abbrev RM1_owedBy : Room := { frames := 1, cells := 0, slots := 0, locals := 21 }
def wm1_owedTo : List Cond := .code yX1_owedTo cX1_owedTo 4 (some .int) :: bg_L
theorem hd1_owedTo : yX1_owedTo.cls = RX1 ∧ yX1_owedTo.cls ≠ "java/lang/invoke/MethodHandle" ∧ yX1_owedTo.cls ≠ "java/lang/invoke/VarHandle" ∧ (parseMethodDescriptor yX1_owedTo.desc).map (fun d => d.parameters.length) = some 1 := by decide +kernel
abbrev RM1_owedTo : Room := { frames := 1, cells := 0, slots := 0, locals := 21 }
def wm1_inAll : List Cond := .code yX1_inAll cX1_inAll 1 (some .int) :: bg_L
theorem hd1_inAll : yX1_inAll.cls = RX1 ∧ yX1_inAll.cls ≠ "java/lang/invoke/MethodHandle" ∧ yX1_inAll.cls ≠ "java/lang/invoke/VarHandle" ∧ (parseMethodDescriptor yX1_inAll.desc).map (fun d => d.parameters.length) = some 0 := by decide +kernel
abbrev RM1_inAll : Room := { frames := 1, cells := 0, slots := 0, locals := 22 }
def wm1_howMany : List Cond := .code yX1_howMany cX1_howMany 3 (some .int) :: bg_L
theorem hd1_howMany : yX1_howMany.cls = RX1 ∧ yX1_howMany.cls ≠ "java/lang/invoke/MethodHandle" ∧ yX1_howMany.cls ≠ "java/lang/invoke/VarHandle" ∧ (parseMethodDescriptor yX1_howMany.desc).map (fun d => d.parameters.length) = some 0 := by decide +kernel
abbrev RM1_howMany : Room := { frames := 1, cells := 0, slots := 0, locals := 21 }
def wm1_distance : List Cond := .code yX1_distance cX1_distance 7 (some .int) :: bg_L
theorem hd1_distance : yX1_distance.cls = RX1 ∧ yX1_distance.cls ≠ "java/lang/invoke/MethodHandle" ∧ yX1_distance.cls ≠ "java/lang/invoke/VarHandle" ∧ (parseMethodDescriptor yX1_distance.desc).map (fun d => d.parameters.length) = some 2 := by decide +kernel
abbrev RM1_distance : Room := { frames := 1, cells := 0, slots := 0, locals := 21 }
def wm1_nextOnRing : List Cond := .code yX1_nextOnRing cX1_nextOnRing 5 (some .int) :: bg_L
theorem hd1_nextOnRing : yX1_nextOnRing.cls = RX1 ∧ yX1_nextOnRing.cls ≠ "java/lang/invoke/MethodHandle" ∧ yX1_nextOnRing.cls ≠ "java/lang/invoke/VarHandle" ∧ (parseMethodDescriptor yX1_nextOnRing.desc).map (fun d => d.parameters.length) = some 3 := by decide +kernel
abbrev RM1_nextOnRing : Room := { frames := 2, cells := 0, slots := 0, locals := 47 }
def wm1_clearRing : List Cond := .code yX1_clearRing cX1_clearRing 8 (some .int) :: bg_L
theorem hd1_clearRing : yX1_clearRing.cls = RX1 ∧ yX1_clearRing.cls ≠ "java/lang/invoke/MethodHandle" ∧ yX1_clearRing.cls ≠ "java/lang/invoke/VarHandle" ∧ (parseMethodDescriptor yX1_clearRing.desc).map (fun d => d.parameters.length) = some 1 := by decide +kernel
abbrev RM1_clearRing : Room := { frames := 3, cells := 0, slots := 0, locals := 71 }
def wm1_copyFrom : List Cond := .code yX1_copyFrom cX1_copyFrom 2 none :: bg_L
theorem hd1_copyFrom : yX1_copyFrom.cls = RX1 ∧ yX1_copyFrom.cls ≠ "java/lang/invoke/MethodHandle" ∧ yX1_copyFrom.cls ≠ "java/lang/invoke/VarHandle" ∧ (parseMethodDescriptor yX1_copyFrom.desc).map (fun d => d.parameters.length) = some 1 := by decide +kernel
abbrev RM1_copyFrom : Room := { frames := 1, cells := 0, slots := 0, locals := 22 }
def wm3_length : List Cond := .code yX3_length cX3_length 1 (some .int) :: bg_L
theorem hd3_length : yX3_length.cls = RX3 ∧ yX3_length.cls ≠ "java/lang/invoke/MethodHandle" ∧ yX3_length.cls ≠ "java/lang/invoke/VarHandle" ∧ (parseMethodDescriptor yX3_length.desc).map (fun d => d.parameters.length) = some 0 := by decide +kernel
abbrev RM3_length : Room := { frames := 0, cells := 0, slots := 0, locals := 0 }
def wm3_at : List Cond := .code yX3_at cX3_at 2 (some .int) :: bg_L
theorem hd3_at : yX3_at.cls = RX3 ∧ yX3_at.cls ≠ "java/lang/invoke/MethodHandle" ∧ yX3_at.cls ≠ "java/lang/invoke/VarHandle" ∧ (parseMethodDescriptor yX3_at.desc).map (fun d => d.parameters.length) = some 1 := by decide +kernel
abbrev RM3_at : Room := { frames := 1, cells := 0, slots := 0, locals := 21 }
def wm3_append : List Cond := .code yX3_append cX3_append 2 none :: bg_L
theorem hd3_append : yX3_append.cls = RX3 ∧ yX3_append.cls ≠ "java/lang/invoke/MethodHandle" ∧ yX3_append.cls ≠ "java/lang/invoke/VarHandle" ∧ (parseMethodDescriptor yX3_append.desc).map (fun d => d.parameters.length) = some 1 := by decide +kernel
abbrev RM3_append : Room := { frames := 1, cells := 0, slots := 0, locals := 22 }
def wm3_makeEmpty : List Cond := .code yX3_makeEmpty cX3_makeEmpty 1 none :: bg_L
theorem hd3_makeEmpty : yX3_makeEmpty.cls = RX3 ∧ yX3_makeEmpty.cls ≠ "java/lang/invoke/MethodHandle" ∧ yX3_makeEmpty.cls ≠ "java/lang/invoke/VarHandle" ∧ (parseMethodDescriptor yX3_makeEmpty.desc).map (fun d => d.parameters.length) = some 0 := by decide +kernel
abbrev RM3_makeEmpty : Room := { frames := 0, cells := 0, slots := 0, locals := 0 }
def wm0_addPlayer : List Cond := .code yX0_addPlayer cX0_addPlayer 2 (some .int) :: bg_L
theorem hd0_addPlayer : yX0_addPlayer.cls = RX0 ∧ yX0_addPlayer.cls ≠ "java/lang/invoke/MethodHandle" ∧ yX0_addPlayer.cls ≠ "java/lang/invoke/VarHandle" ∧ (parseMethodDescriptor yX0_addPlayer.desc).map (fun d => d.parameters.length) = some 1 := by decide +kernel
abbrev RM0_addPlayer : Room := { frames := 1, cells := 0, slots := 0, locals := 22 }
def wm0_changeDraws : List Cond := .code yX0_changeDraws cX0_changeDraws 3 (some .int) :: bg_L
theorem hd0_changeDraws : yX0_changeDraws.cls = RX0 ∧ yX0_changeDraws.cls ≠ "java/lang/invoke/MethodHandle" ∧ yX0_changeDraws.cls ≠ "java/lang/invoke/VarHandle" ∧ (parseMethodDescriptor yX0_changeDraws.desc).map (fun d => d.parameters.length) = some 1 := by decide +kernel
abbrev RM0_changeDraws : Room := { frames := 0, cells := 0, slots := 0, locals := 0 }
def wm0_payWhatThereIs : List Cond := .code yX0_payWhatThereIs cX0_payWhatThereIs 5 (some .int) :: bg_L
theorem hd0_payWhatThereIs : yX0_payWhatThereIs.cls = RX0 ∧ yX0_payWhatThereIs.cls ≠ "java/lang/invoke/MethodHandle" ∧ yX0_payWhatThereIs.cls ≠ "java/lang/invoke/VarHandle" ∧ (parseMethodDescriptor yX0_payWhatThereIs.desc).map (fun d => d.parameters.length) = some 3 := by decide +kernel
abbrev RM0_payWhatThereIs : Room := { frames := 1, cells := 0, slots := 0, locals := 22 }
def wm0_payDebts : List Cond := .code yX0_payDebts cX0_payDebts 5 none :: bg_L
theorem hd0_payDebts : yX0_payDebts.cls = RX0 ∧ yX0_payDebts.cls ≠ "java/lang/invoke/MethodHandle" ∧ yX0_payDebts.cls ≠ "java/lang/invoke/VarHandle" ∧ (parseMethodDescriptor yX0_payDebts.desc).map (fun d => d.parameters.length) = some 1 := by decide +kernel
abbrev RM0_payDebts : Room := { frames := 2, cells := 0, slots := 0, locals := 46 }
def wm0_throwDie : List Cond := .code yX0_throwDie cX0_throwDie 1 (some .int) :: bg_L
theorem hd0_throwDie : yX0_throwDie.cls = RX0 ∧ yX0_throwDie.cls ≠ "java/lang/invoke/MethodHandle" ∧ yX0_throwDie.cls ≠ "java/lang/invoke/VarHandle" ∧ (parseMethodDescriptor yX0_throwDie.desc).map (fun d => d.parameters.length) = some 0 := by decide +kernel
abbrev RM0_throwDie : Room := { frames := 0, cells := 0, slots := 0, locals := 0 }
def wm0_move : List Cond := .code yX0_move cX0_move 5 none :: bg_L
theorem hd0_move : yX0_move.cls = RX0 ∧ yX0_move.cls ≠ "java/lang/invoke/MethodHandle" ∧ yX0_move.cls ≠ "java/lang/invoke/VarHandle" ∧ (parseMethodDescriptor yX0_move.desc).map (fun d => d.parameters.length) = some 1 := by decide +kernel
abbrev RM0_move : Room := { frames := 1, cells := 0, slots := 0, locals := 22 }
def wm0_tryToClaim : List Cond := .code yX0_tryToClaim cX0_tryToClaim 5 none :: bg_L
theorem hd0_tryToClaim : yX0_tryToClaim.cls = RX0 ∧ yX0_tryToClaim.cls ≠ "java/lang/invoke/MethodHandle" ∧ yX0_tryToClaim.cls ≠ "java/lang/invoke/VarHandle" ∧ (parseMethodDescriptor yX0_tryToClaim.desc).map (fun d => d.parameters.length) = some 1 := by decide +kernel
abbrev RM0_tryToClaim : Room := { frames := 2, cells := 0, slots := 0, locals := 44 }
def wm0_payToll : List Cond := .code yX0_payToll cX0_payToll 8 none :: bg_L
theorem hd0_payToll : yX0_payToll.cls = RX0 ∧ yX0_payToll.cls ≠ "java/lang/invoke/MethodHandle" ∧ yX0_payToll.cls ≠ "java/lang/invoke/VarHandle" ∧ (parseMethodDescriptor yX0_payToll.desc).map (fun d => d.parameters.length) = some 1 := by decide +kernel
abbrev RM0_payToll : Room := { frames := 2, cells := 0, slots := 0, locals := 47 }
def wm0_loseSquares : List Cond := .code yX0_loseSquares cX0_loseSquares 5 none :: bg_L
theorem hd0_loseSquares : yX0_loseSquares.cls = RX0 ∧ yX0_loseSquares.cls ≠ "java/lang/invoke/MethodHandle" ∧ yX0_loseSquares.cls ≠ "java/lang/invoke/VarHandle" ∧ (parseMethodDescriptor yX0_loseSquares.desc).map (fun d => d.parameters.length) = some 1 := by decide +kernel
abbrev RM0_loseSquares : Room := { frames := 2, cells := 0, slots := 0, locals := 47 }
def wm0_takeTurn : List Cond := .code yX0_takeTurn cX0_takeTurn 2 none :: bg_L
theorem hd0_takeTurn : yX0_takeTurn.cls = RX0 ∧ yX0_takeTurn.cls ≠ "java/lang/invoke/MethodHandle" ∧ yX0_takeTurn.cls ≠ "java/lang/invoke/VarHandle" ∧ (parseMethodDescriptor yX0_takeTurn.desc).map (fun d => d.parameters.length) = some 0 := by decide +kernel
abbrev RM0_takeTurn : Room := { frames := 3, cells := 0, slots := 0, locals := 74 }
def wm0_doTurns : List Cond := .code yX0_doTurns cX0_doTurns 4 (some .int) :: bg_L
theorem hd0_doTurns : yX0_doTurns.cls = RX0 ∧ yX0_doTurns.cls ≠ "java/lang/invoke/MethodHandle" ∧ yX0_doTurns.cls ≠ "java/lang/invoke/VarHandle" ∧ (parseMethodDescriptor yX0_doTurns.desc).map (fun d => d.parameters.length) = some 1 := by decide +kernel
abbrev RM0_doTurns : Room := { frames := 4, cells := 0, slots := 0, locals := 95 }
def wm0_hasPlayer : List Cond := .code yX0_hasPlayer cX0_hasPlayer 2 (some .boolean) :: bg_L
theorem hd0_hasPlayer : yX0_hasPlayer.cls = RX0 ∧ yX0_hasPlayer.cls ≠ "java/lang/invoke/MethodHandle" ∧ yX0_hasPlayer.cls ≠ "java/lang/invoke/VarHandle" ∧ (parseMethodDescriptor yX0_hasPlayer.desc).map (fun d => d.parameters.length) = some 1 := by decide +kernel
abbrev RM0_hasPlayer : Room := { frames := 0, cells := 0, slots := 0, locals := 0 }
def wm0_clearAround : List Cond := .code yX0_clearAround cX0_clearAround 5 (some .int) :: bg_L
theorem hd0_clearAround : yX0_clearAround.cls = RX0 ∧ yX0_clearAround.cls ≠ "java/lang/invoke/MethodHandle" ∧ yX0_clearAround.cls ≠ "java/lang/invoke/VarHandle" ∧ (parseMethodDescriptor yX0_clearAround.desc).map (fun d => d.parameters.length) = some 1 := by decide +kernel
abbrev RM0_clearAround : Room := { frames := 4, cells := 0, slots := 0, locals := 98 }
def wm0_takeTurns : List Cond := .code yX0_takeTurns cX0_takeTurns 3 none :: bg_L
theorem hd0_takeTurns : yX0_takeTurns.cls = RX0 ∧ yX0_takeTurns.cls ≠ "java/lang/invoke/MethodHandle" ∧ yX0_takeTurns.cls ≠ "java/lang/invoke/VarHandle" ∧ (parseMethodDescriptor yX0_takeTurns.desc).map (fun d => d.parameters.length) = some 1 := by decide +kernel
abbrev RM0_takeTurns : Room := { frames := 4, cells := 0, slots := 0, locals := 95 }
def wm0_players : List Cond := .code yX0_players cX0_players 1 (some .int) :: bg_L
theorem hd0_players : yX0_players.cls = RX0 ∧ yX0_players.cls ≠ "java/lang/invoke/MethodHandle" ∧ yX0_players.cls ≠ "java/lang/invoke/VarHandle" ∧ (parseMethodDescriptor yX0_players.desc).map (fun d => d.parameters.length) = some 0 := by decide +kernel
abbrev RM0_players : Room := { frames := 0, cells := 0, slots := 0, locals := 0 }
def wm0_purseOf : List Cond := .code yX0_purseOf cX0_purseOf 2 (some .int) :: bg_L
theorem hd0_purseOf : yX0_purseOf.cls = RX0 ∧ yX0_purseOf.cls ≠ "java/lang/invoke/MethodHandle" ∧ yX0_purseOf.cls ≠ "java/lang/invoke/VarHandle" ∧ (parseMethodDescriptor yX0_purseOf.desc).map (fun d => d.parameters.length) = some 1 := by decide +kernel
abbrev RM0_purseOf : Room := { frames := 1, cells := 0, slots := 0, locals := 21 }
def wm0_wealthOf : List Cond := .code yX0_wealthOf cX0_wealthOf 2 (some .int) :: bg_L
theorem hd0_wealthOf : yX0_wealthOf.cls = RX0 ∧ yX0_wealthOf.cls ≠ "java/lang/invoke/MethodHandle" ∧ yX0_wealthOf.cls ≠ "java/lang/invoke/VarHandle" ∧ (parseMethodDescriptor yX0_wealthOf.desc).map (fun d => d.parameters.length) = some 1 := by decide +kernel
abbrev RM0_wealthOf : Room := { frames := 2, cells := 0, slots := 0, locals := 44 }
def wm0_factOfPlayer : List Cond := .code yX0_factOfPlayer cX0_factOfPlayer 3 (some .int) :: bg_L
theorem hd0_factOfPlayer : yX0_factOfPlayer.cls = RX0 ∧ yX0_factOfPlayer.cls ≠ "java/lang/invoke/MethodHandle" ∧ yX0_factOfPlayer.cls ≠ "java/lang/invoke/VarHandle" ∧ (parseMethodDescriptor yX0_factOfPlayer.desc).map (fun d => d.parameters.length) = some 2 := by decide +kernel
abbrev RM0_factOfPlayer : Room := { frames := 2, cells := 0, slots := 0, locals := 44 }
def wm0_playersOn : List Cond := .code yX0_playersOn cX0_playersOn 4 (some .int) :: bg_L
theorem hd0_playersOn : yX0_playersOn.cls = RX0 ∧ yX0_playersOn.cls ≠ "java/lang/invoke/MethodHandle" ∧ yX0_playersOn.cls ≠ "java/lang/invoke/VarHandle" ∧ (parseMethodDescriptor yX0_playersOn.desc).map (fun d => d.parameters.length) = some 1 := by decide +kernel
abbrev RM0_playersOn : Room := { frames := 1, cells := 0, slots := 0, locals := 21 }
def wm0_factOfSquare : List Cond := .code yX0_factOfSquare cX0_factOfSquare 3 (some .int) :: bg_L
theorem hd0_factOfSquare : yX0_factOfSquare.cls = RX0 ∧ yX0_factOfSquare.cls ≠ "java/lang/invoke/MethodHandle" ∧ yX0_factOfSquare.cls ≠ "java/lang/invoke/VarHandle" ∧ (parseMethodDescriptor yX0_factOfSquare.desc).map (fun d => d.parameters.length) = some 2 := by decide +kernel
abbrev RM0_factOfSquare : Room := { frames := 2, cells := 0, slots := 0, locals := 47 }
def wm0_fact : List Cond := .code yX0_fact cX0_fact 2 (some .int) :: bg_L
theorem hd0_fact : yX0_fact.cls = RX0 ∧ yX0_fact.cls ≠ "java/lang/invoke/MethodHandle" ∧ yX0_fact.cls ≠ "java/lang/invoke/VarHandle" ∧ (parseMethodDescriptor yX0_fact.desc).map (fun d => d.parameters.length) = some 1 := by decide +kernel
abbrev RM0_fact : Room := { frames := 2, cells := 0, slots := 0, locals := 43 }
def wm0_copyFrom : List Cond := .code yX0_copyFrom cX0_copyFrom 2 none :: bg_L
theorem hd0_copyFrom : yX0_copyFrom.cls = RX0 ∧ yX0_copyFrom.cls ≠ "java/lang/invoke/MethodHandle" ∧ yX0_copyFrom.cls ≠ "java/lang/invoke/VarHandle" ∧ (parseMethodDescriptor yX0_copyFrom.desc).map (fun d => d.parameters.length) = some 1 := by decide +kernel
abbrev RM0_copyFrom : Room := { frames := 2, cells := 0, slots := 0, locals := 43 }
def wm0_describe : List Cond := .code yX0_describe cX0_describe 5 none :: bg_L
theorem hd0_describe : yX0_describe.cls = RX0 ∧ yX0_describe.cls ≠ "java/lang/invoke/MethodHandle" ∧ yX0_describe.cls ≠ "java/lang/invoke/VarHandle" ∧ (parseMethodDescriptor yX0_describe.desc).map (fun d => d.parameters.length) = some 1 := by decide +kernel
abbrev RM0_describe : Room := { frames := 2, cells := 0, slots := 0, locals := 43 }
def wm4_signsIn : List Cond := .code yX4_signsIn cX4_signsIn 7 (some .int) :: bg_L
theorem hd4_signsIn : yX4_signsIn.cls ≠ "java/lang/invoke/MethodHandle" ∧ yX4_signsIn.cls ≠ "java/lang/invoke/VarHandle" ∧ (parseMethodDescriptor yX4_signsIn.desc).map (fun d => d.parameters.length) = some 1 := by decide +kernel
abbrev RM4_signsIn : Room := { frames := 0, cells := 0, slots := 0, locals := 0 }
def wm4_signOf : List Cond := .code yX4_signOf cX4_signOf 3 (some .int) :: bg_L
theorem hd4_signOf : yX4_signOf.cls ≠ "java/lang/invoke/MethodHandle" ∧ yX4_signOf.cls ≠ "java/lang/invoke/VarHandle" ∧ (parseMethodDescriptor yX4_signOf.desc).map (fun d => d.parameters.length) = some 2 := by decide +kernel
abbrev RM4_signOf : Room := { frames := 0, cells := 0, slots := 0, locals := 0 }
def wm4_isDigit : List Cond := .code yX4_isDigit cX4_isDigit 1 (some .boolean) :: bg_L
theorem hd4_isDigit : yX4_isDigit.cls ≠ "java/lang/invoke/MethodHandle" ∧ yX4_isDigit.cls ≠ "java/lang/invoke/VarHandle" ∧ (parseMethodDescriptor yX4_isDigit.desc).map (fun d => d.parameters.length) = some 1 := by decide +kernel
abbrev RM4_isDigit : Room := { frames := 0, cells := 0, slots := 0, locals := 0 }
def wm4_dueBehindLetter : List Cond := .code yX4_dueBehindLetter cX4_dueBehindLetter 1 (some .int) :: bg_L
theorem hd4_dueBehindLetter : yX4_dueBehindLetter.cls ≠ "java/lang/invoke/MethodHandle" ∧ yX4_dueBehindLetter.cls ≠ "java/lang/invoke/VarHandle" ∧ (parseMethodDescriptor yX4_dueBehindLetter.desc).map (fun d => d.parameters.length) = some 1 := by decide +kernel
abbrev RM4_dueBehindLetter : Room := { frames := 0, cells := 0, slots := 0, locals := 0 }
def wm4_dueBehind : List Cond := .code yX4_dueBehind cX4_dueBehind 2 (some .int) :: bg_L
theorem hd4_dueBehind : yX4_dueBehind.cls ≠ "java/lang/invoke/MethodHandle" ∧ yX4_dueBehind.cls ≠ "java/lang/invoke/VarHandle" ∧ (parseMethodDescriptor yX4_dueBehind.desc).map (fun d => d.parameters.length) = some 2 := by decide +kernel
abbrev RM4_dueBehind : Room := { frames := 1, cells := 0, slots := 0, locals := 20 }
def wm4_firstFault : List Cond := .code yX4_firstFault cX4_firstFault 3 (some .int) :: bg_L
theorem hd4_firstFault : yX4_firstFault.cls ≠ "java/lang/invoke/MethodHandle" ∧ yX4_firstFault.cls ≠ "java/lang/invoke/VarHandle" ∧ (parseMethodDescriptor yX4_firstFault.desc).map (fun d => d.parameters.length) = some 1 := by decide +kernel
abbrev RM4_firstFault : Room := { frames := 2, cells := 0, slots := 0, locals := 42 }
theorem gv_X8_42 : GoodIn bg_L (va_wsS RX8 42 yX8_within wm8_within) := gb_S wq_696 wq_697 wq_68 wq_698
theorem gv_X8_46 : GoodIn bg_L (wsV RX8 46 RX8 yX8_debtOf wm8_debtOf) := gb_V wq_754 wq_756 wq_21 wq_68 wq_757
theorem gv_X8_50 : GoodIn bg_L (wsV RX8 50 RX8 yX8_owns wm8_owns) := gb_V wq_787 wq_789 wq_29 wq_68 wq_790
theorem gv_X8_54 : GoodIn bg_L (wsV RX8 54 RX8 yX8_playerPart wm8_playerPart) := gb_V wq_738 wq_740 wq_17 wq_68 wq_741
theorem gv_X8_57 : GoodIn bg_L (va_wsS RX8 57 yX8_sortOf wm8_sortOf) := gb_S wq_795 wq_796 wq_68 wq_797
theorem gv_X8_61 : GoodIn bg_L (wsV RX8 61 RX8 yX8_owedBy wm8_owedBy) := gb_V wq_854 wq_856 wq_43 wq_68 wq_857
theorem gv_X8_65 : GoodIn bg_L (wsV RX8 65 RX8 yX8_ageOf wm8_ageOf) := gb_V wq_758 wq_760 wq_22 wq_68 wq_761
theorem gv_X8_68 : GoodIn bg_L (wsV RX8 68 RX8 yX8_adds wm8_adds) := gb_V wq_766 wq_768 wq_24 wq_68 wq_769
theorem gv_X8_75 : GoodIn bg_L (wsV RX8 75 RX8 yX8_pays wm8_pays) := gb_V wq_762 wq_764 wq_23 wq_68 wq_765
theorem gv_X8_79 : GoodIn bg_L (wsV RX8 79 RX8 yX8_addsDebt wm8_addsDebt) := gb_V wq_770 wq_772 wq_25 wq_68 wq_773
theorem gv_X8_72 : GoodIn bg_L (wsV RX8 72 RX8 yX8_oldest wm8_oldest) := gb_V wq_750 wq_752 wq_20 wq_68 wq_753
theorem gv_X8_82 : GoodIn bg_L (wsV RX8 82 RX8 yX8_die wm8_die) := gb_V wq_778 wq_780 wq_27 wq_68 wq_781
theorem gv_X8_97 : GoodIn bg_L (wsV RX8 97 RX8 yX8_paysToll wm8_paysToll) := gb_V wq_806 wq_808 wq_33 wq_68 wq_809
theorem gv_X8_94 : GoodIn bg_L (wsV RX8 94 RX8 yX8_tollOf wm8_tollOf) := gb_V wq_802 wq_804 wq_32 wq_68 wq_805
theorem gv_X8_86 : GoodIn bg_L (wsV RX8 86 RX8 yX8_canBeClaimed wm8_canBeClaimed) := gb_V wq_791 wq_793 wq_30 wq_68 wq_794
theorem gv_X8_90 : GoodIn bg_L (wsV RX8 90 RX8 yX8_claims wm8_claims) := gb_V wq_798 wq_800 wq_31 wq_68 wq_801
theorem gv_X8_100 : GoodIn bg_L (wsV RX8 100 RX8 yX8_lowestOf wm8_lowestOf) := gb_V wq_814 wq_816 wq_35 wq_68 wq_817
theorem gv_X8_103 : GoodIn bg_L (wsV RX8 103 RX8 yX8_hands wm8_hands) := gb_V wq_818 wq_820 wq_36 wq_68 wq_821
theorem gv_X8_106 : GoodIn bg_L (wsV RX8 106 RX8 yX8_paysDebts wm8_paysDebts) := gb_V wq_746 wq_748 wq_19 wq_68 wq_749
theorem gv_X8_110 : GoodIn bg_L (wsV RX8 110 RX8 yX8_goes wm8_goes) := gb_V wq_774 wq_776 wq_26 wq_68 wq_777
theorem gv_X8_113 : GoodIn bg_L (wsV RX8 113 RX8 yX8_arrives wm8_arrives) := gb_V wq_783 wq_785 wq_28 wq_68 wq_786
theorem gv_X8_116 : GoodIn bg_L (wsV RX8 116 RX8 yX8_growsOlder wm8_growsOlder) := gb_V wq_810 wq_812 wq_34 wq_68 wq_813
theorem gv_X8_119 : GoodIn bg_L (wsV RX8 119 RX8 yX8_sumOf wm8_sumOf) := gb_V wq_734 wq_736 wq_16 wq_68 wq_737
theorem gv_X8_122 : GoodIn bg_L (wsV RX8 122 RX8 yX8_turn wm8_turn) := gb_V wq_742 wq_744 wq_18 wq_68 wq_745
theorem gv_X8_156 : GoodIn bg_L (wsV RX8 156 RX8 yX8_isPlayer wm8_isPlayer) := gb_V wq_826 wq_828 wq_37 wq_68 wq_829
theorem gv_X8_162 : GoodIn bg_L (wsV RX8 162 RX8 yX8_ownedBy wm8_ownedBy) := gb_V wq_850 wq_852 wq_42 wq_68 wq_853
theorem gv_X8_165 : GoodIn bg_L (wsV RX8 165 RX8 yX8_owedTo wm8_owedTo) := gb_V wq_858 wq_860 wq_44 wq_68 wq_861
theorem gv_X8_168 : GoodIn bg_L (va_wsS RX8 168 yX8_isSquare wm8_isSquare) := gb_S wq_866 wq_867 wq_68 wq_868
theorem gv_X8_171 : GoodIn bg_L (wsV RX8 171 RX8 yX8_standingAt wm8_standingAt) := gb_V wq_869 wq_871 wq_45 wq_68 wq_872
theorem gv_X8_38 : GoodIn bg_L (va_wsS RX8 38 yX8_moves wm8_moves) := gb_S wq_703 wq_704 wq_68 wq_705
theorem gv_X8_125 : GoodIn bg_L (va_wsS RX8 125 yX8_isValue wm8_isValue) := gb_S wq_693 wq_694 wq_68 wq_695
theorem gv_X8_128 : GoodIn bg_L (wsV RX8 128 RX8 yX8_record wm8_record) := gb_V wq_699 wq_701 wq_11 wq_68 wq_702
theorem gv_X8_131 : GoodIn bg_L (wsV RX8 131 RX8 yX8_whyNoPlayer wm8_whyNoPlayer) := gb_V wq_710 wq_712 wq_12 wq_68 wq_713
theorem gv_X8_134 : GoodIn bg_L (wsV RX8 134 RX8 yX8_comes wm8_comes) := gb_V wq_714 wq_716 wq_13 wq_68 wq_717
theorem gv_X8_137 : GoodIn bg_L (wsV RX8 137 RX8 yX8_whyNoTurns wm8_whyNoTurns) := gb_V wq_726 wq_728 wq_14 wq_68 wq_729
theorem gv_X8_140 : GoodIn bg_L (wsV RX8 140 RX8 yX8_doTurns wm8_doTurns) := gb_V wq_730 wq_732 wq_15 wq_68 wq_733
theorem gv_X8_146 : GoodIn bg_L (wsV RX8 146 RX8 yX8_takesRing wm8_takesRing) := gb_V wq_838 wq_840 wq_40 wq_68 wq_841
theorem gv_X8_153 : GoodIn bg_L (wsV RX8 153 RX8 yX8_clearsRing wm8_clearsRing) := gb_V wq_842 wq_844 wq_41 wq_68 wq_845
theorem gv_X8_150 : GoodIn bg_L (wsV RX8 150 RX8 yX8_findRing wm8_findRing) := gb_V wq_834 wq_836 wq_39 wq_68 wq_837
theorem gv_X8_159 : GoodIn bg_L (wsV RX8 159 RX8 yX8_clears wm8_clears) := gb_V wq_830 wq_832 wq_38 wq_68 wq_833
theorem gv_X8_195 : GoodIn bg_L (wsV RX8 195 RX8 yX8_writesSign wm8_writesSign) := gb_V wq_897 wq_899 wq_50 wq_68 wq_900
theorem gv_X8_198 : GoodIn bg_L (wsV RX8 198 RX8 yX8_writesSquare wm8_writesSquare) := gb_V wq_893 wq_895 wq_49 wq_68 wq_896
theorem gv_X8_174 : GoodIn bg_L (wsV RX8 174 RX8 yX8_debtsMany wm8_debtsMany) := gb_V wq_881 wq_883 wq_46 wq_68 wq_884
theorem gv_X8_177 : GoodIn bg_L (wsV RX8 177 RX8 yX8_sumOfDebts wm8_sumOfDebts) := gb_V wq_885 wq_887 wq_47 wq_68 wq_888
theorem gv_X8_180 : GoodIn bg_L (wsV RX8 180 RX8 yX8_writes wm8_writes) := gb_V wq_889 wq_891 wq_48 wq_68 wq_892
theorem gv_X8_206 : GoodIn bg_L (wsV RX8 206 RX8 yX8_character wm8_character) := gb_V wq_942 wq_944 wq_53 wq_68 wq_945
theorem gv_X8_209 : GoodIn bg_L (wsV RX8 209 RX8 yX8_isDigit wm8_isDigit) := gb_V wq_950 wq_952 wq_55 wq_68 wq_953
theorem gv_X8_219 : GoodIn bg_L (wsV RX8 219 RX8 yX8_takesNumber wm8_takesNumber) := gb_V wq_946 wq_948 wq_54 wq_68 wq_949
theorem gv_X8_222 : GoodIn bg_L (wsV RX8 222 RX8 yX8_readsOrder wm8_readsOrder) := gb_V wq_938 wq_940 wq_52 wq_68 wq_941
theorem gv_X8_225 : GoodIn bg_L (wsV RX8 225 RX8 yX8_isNext wm8_isNext) := gb_V wq_954 wq_956 wq_56 wq_68 wq_957
theorem gv_X8_228 : GoodIn bg_L (wsV RX8 228 RX8 yX8_findFault wm8_findFault) := gb_V wq_934 wq_936 wq_51 wq_68 wq_937
theorem gv_X8_234 : GoodIn bg_L (wsV RX8 234 RX8 yX8_does wm8_does) := gb_V wq_966 wq_968 wq_58 wq_68 wq_969
theorem gv_X8_231 : GoodIn bg_L (wsV RX8 231 RX8 yX8_whyNotDone wm8_whyNotDone) := gb_V wq_962 wq_964 wq_57 wq_68 wq_965
theorem gv_X5_27 : GoodIn bg_L (wsV RX5 27 RX6 yX6_at wm6_at) := gb_V wq_369 wq_278 wq_279 wq_63 wq_280
theorem gv_X5_31 : GoodIn bg_L (va_wsS RX5 31 yX5_sortOf wm5_sortOf) := gb_S wq_374 wq_375 wq_62 wq_376
theorem gv_X5_34 : GoodIn bg_L (wsV RX5 34 RX6 yX6_write wm6_write) := gb_V wq_385 wq_137 wq_138 wq_63 wq_139
theorem gv_X5_23 : GoodIn bg_L (wsV RX5 23 RX6 yX6_copyFrom wm6_copyFrom) := gb_V wq_259 wq_260 wq_261 wq_63 wq_262
theorem gv_X1_30 : GoodIn bg_L (wsV RX1 30 RX6 yX6_at wm6_at) := gb_V wq_332 wq_278 wq_279 wq_63 wq_280
theorem gv_X1_37 : GoodIn bg_L (wsV RX1 37 RX6 yX6_add wm6_add) := gb_V wq_350 wq_343 wq_344 wq_63 wq_345
theorem gv_X1_34 : GoodIn bg_L (wsV RX1 34 RX6 yX6_write wm6_write) := gb_V wq_351 wq_137 wq_138 wq_63 wq_139
theorem gv_X1_40 : GoodIn bg_L (wsV RX1 40 RX6 yX6_sum wm6_sum) := gb_V wq_526 wq_317 wq_318 wq_63 wq_319
theorem gv_X1_52 : GoodIn bg_L (wsV RX1 52 RX1 yX1_coinsOf wm1_coinsOf) := gb_V wq_446 wq_334 wq_335 wq_65 wq_336
theorem gv_X1_44 : GoodIn bg_L (wsV RX1 44 RX1 yX1_distance wm1_distance) := gb_V wq_438 wq_439 wq_440 wq_65 wq_441
theorem gv_X1_60 : GoodIn bg_L (wsV RX1 60 RX1 yX1_shrink wm1_shrink) := gb_V wq_448 wq_347 wq_348 wq_65 wq_349
theorem gv_X1_48 : GoodIn bg_L (wsV RX1 48 RX1 yX1_nextOnRing wm1_nextOnRing) := gb_V wq_442 wq_444 wq_8 wq_65 wq_445
theorem gv_X1_26 : GoodIn bg_L (wsV RX1 26 RX6 yX6_copyFrom wm6_copyFrom) := gb_V wq_267 wq_260 wq_261 wq_63 wq_262
theorem gv_X3_27 : GoodIn bg_L (wsV RX3 27 RX6 yX6_at wm6_at) := gb_V wq_535 wq_278 wq_279 wq_63 wq_280
theorem gv_X3_31 : GoodIn bg_L (wsV RX3 31 RX6 yX6_write wm6_write) := gb_V wq_505 wq_137 wq_138 wq_63 wq_139
theorem gv_X0_75 : GoodIn bg_L (wsV RX0 75 RX6 yX6_write wm6_write) := gb_V wq_136 wq_137 wq_138 wq_63 wq_139
theorem gv_X0_94 : GoodIn bg_L (wsV RX0 94 RX6 yX6_at wm6_at) := gb_V wq_277 wq_278 wq_279 wq_63 wq_280
theorem gv_X0_131 : GoodIn bg_L (wsV RX0 131 RX6 yX6_add wm6_add) := gb_V wq_342 wq_343 wq_344 wq_63 wq_345
theorem gv_X0_134 : GoodIn bg_L (wsV RX0 134 RX1 yX1_oldestOf wm1_oldestOf) := gb_V wq_328 wq_329 wq_330 wq_65 wq_331
theorem gv_X0_137 : GoodIn bg_L (wsV RX0 137 RX1 yX1_coinsOf wm1_coinsOf) := gb_V wq_333 wq_334 wq_335 wq_65 wq_336
theorem gv_X0_141 : GoodIn bg_L (wsV RX0 141 RX0 yX0_payWhatThereIs wm0_payWhatThereIs) := gb_V wq_337 wq_339 wq_2 wq_61 wq_340
theorem gv_X0_145 : GoodIn bg_L (wsV RX0 145 RX1 yX1_shrink wm1_shrink) := gb_V wq_346 wq_347 wq_348 wq_65 wq_349
theorem gv_X0_154 : GoodIn bg_L (wsV RX0 154 RX0 yX0_throwDie wm0_throwDie) := gb_V wq_356 wq_358 wq_4 wq_61 wq_359
theorem gv_X0_168 : GoodIn bg_L (wsV RX0 168 RX5 yX5_giveFreePart wm5_giveFreePart) := gb_V wq_381 wq_382 wq_383 wq_62 wq_384
theorem gv_X0_158 : GoodIn bg_L (wsV RX0 158 RX5 yX5_isOwnedBy wm5_isOwnedBy) := gb_V wq_365 wq_366 wq_367 wq_62 wq_368
theorem gv_X0_162 : GoodIn bg_L (wsV RX0 162 RX5 yX5_hasFreePart wm5_hasFreePart) := gb_V wq_370 wq_371 wq_372 wq_62 wq_373
theorem gv_X0_165 : GoodIn bg_L (wsV RX0 165 RX5 yX5_firstOwner wm5_firstOwner) := gb_V wq_377 wq_378 wq_379 wq_62 wq_380
theorem gv_X0_177 : GoodIn bg_L (wsV RX0 177 RX1 yX1_grow wm1_grow) := gb_V wq_398 wq_399 wq_400 wq_65 wq_401
theorem gv_X0_171 : GoodIn bg_L (wsV RX0 171 RX5 yX5_secondOwner wm5_secondOwner) := gb_V wq_390 wq_391 wq_392 wq_62 wq_393
theorem gv_X0_174 : GoodIn bg_L (wsV RX0 174 RX5 yX5_toll wm5_toll) := gb_V wq_394 wq_395 wq_396 wq_62 wq_397
theorem gv_X0_180 : GoodIn bg_L (wsV RX0 180 RX1 yX1_ageOf wm1_ageOf) := gb_V wq_410 wq_411 wq_412 wq_65 wq_413
theorem gv_X0_183 : GoodIn bg_L (wsV RX0 183 RX5 yX5_lowestOf wm5_lowestOf) := gb_V wq_414 wq_415 wq_416 wq_62 wq_417
theorem gv_X0_186 : GoodIn bg_L (wsV RX0 186 RX5 yX5_handOn wm5_handOn) := gb_V wq_418 wq_419 wq_420 wq_62 wq_421
theorem gv_X0_112 : GoodIn bg_L (wsV RX0 112 RX0 yX0_payDebts wm0_payDebts) := gb_V wq_324 wq_326 wq_1 wq_61 wq_327
theorem gv_X0_116 : GoodIn bg_L (wsV RX0 116 RX0 yX0_move wm0_move) := gb_V wq_352 wq_354 wq_3 wq_61 wq_355
theorem gv_X0_119 : GoodIn bg_L (wsV RX0 119 RX0 yX0_tryToClaim wm0_tryToClaim) := gb_V wq_361 wq_363 wq_5 wq_61 wq_364
theorem gv_X0_122 : GoodIn bg_L (wsV RX0 122 RX0 yX0_payToll wm0_payToll) := gb_V wq_386 wq_388 wq_6 wq_61 wq_389
theorem gv_X0_125 : GoodIn bg_L (wsV RX0 125 RX1 yX1_makeOlder wm1_makeOlder) := gb_V wq_402 wq_403 wq_404 wq_65 wq_405
theorem gv_X0_128 : GoodIn bg_L (wsV RX0 128 RX0 yX0_loseSquares wm0_loseSquares) := gb_V wq_406 wq_408 wq_7 wq_61 wq_409
theorem gv_X0_98 : GoodIn bg_L (wsV RX0 98 RX6 yX6_sum wm6_sum) := gb_V wq_316 wq_317 wq_318 wq_63 wq_319
theorem gv_X0_102 : GoodIn bg_L (wsV RX0 102 RX0 yX0_takeTurn wm0_takeTurn) := gb_V wq_320 wq_321 wq_322 wq_61 wq_323
theorem gv_X0_109 : GoodIn bg_L (wsV RX0 109 RX1 yX1_clearRing wm1_clearRing) := gb_V wq_434 wq_435 wq_436 wq_65 wq_437
theorem gv_X0_105 : GoodIn bg_L (wsV RX0 105 RX0 yX0_hasPlayer wm0_hasPlayer) := gb_V wq_430 wq_431 wq_432 wq_61 wq_433
theorem gv_X0_189 : GoodIn bg_L (wsV RX0 189 RX1 yX1_owedTo wm1_owedTo) := gb_V wq_466 wq_467 wq_468 wq_65 wq_469
theorem gv_X0_192 : GoodIn bg_L (wsV RX0 192 RX1 yX1_owedBy wm1_owedBy) := gb_V wq_462 wq_463 wq_464 wq_65 wq_465
theorem gv_X0_195 : GoodIn bg_L (wsV RX0 195 RX5 yX5_squaresOf wm5_squaresOf) := gb_V wq_458 wq_459 wq_460 wq_62 wq_461
theorem gv_X0_198 : GoodIn bg_L (va_wsS RX0 198 yX5_sortOf wm5_sortOf) := gb_S wq_478 wq_375 wq_62 wq_376
theorem gv_X0_201 : GoodIn bg_L (wsV RX0 201 RX0 yX0_playersOn wm0_playersOn) := gb_V wq_479 wq_481 wq_9 wq_61 wq_482
theorem gv_X0_204 : GoodIn bg_L (wsV RX0 204 RX1 yX1_howMany wm1_howMany) := gb_V wq_518 wq_519 wq_520 wq_65 wq_521
theorem gv_X0_207 : GoodIn bg_L (wsV RX0 207 RX1 yX1_inAll wm1_inAll) := gb_V wq_522 wq_523 wq_524 wq_65 wq_525
theorem gv_X0_78 : GoodIn bg_L (wsV RX0 78 RX5 yX5_copyFrom wm5_copyFrom) := gb_V wq_255 wq_256 wq_257 wq_62 wq_258
theorem gv_X0_82 : GoodIn bg_L (wsV RX0 82 RX1 yX1_copyFrom wm1_copyFrom) := gb_V wq_263 wq_264 wq_265 wq_65 wq_266
theorem gv_X0_85 : GoodIn bg_L (wsV RX0 85 RX6 yX6_copyFrom wm6_copyFrom) := gb_V wq_268 wq_260 wq_261 wq_63 wq_262
theorem gv_X0_215 : GoodIn bg_L (wsV RX0 215 RX3 yX3_append wm3_append) := gb_V wq_501 wq_502 wq_503 wq_67 wq_504
theorem gv_X0_210 : GoodIn bg_L (wsV RX0 210 RX3 yX3_makeEmpty wm3_makeEmpty) := gb_V wq_497 wq_498 wq_499 wq_67 wq_500
theorem gv_X4_30 : GoodIn bg_L (va_wsS RX4 30 yX4_isDigit wm4_isDigit) := gb_S wq_599 wq_600 wq_69 wq_601
theorem gv_X4_27 : GoodIn bg_L (va_wsS RX4 27 yX4_dueBehindLetter wm4_dueBehindLetter) := gb_S wq_596 wq_597 wq_69 wq_598
theorem gv_X4_13 : GoodIn bg_L (wsV RX4 13 RX3 yX3_length wm3_length) := gb_V wq_591 wq_507 wq_508 wq_67 wq_509
theorem gv_X4_19 : GoodIn bg_L (wsV RX4 19 RX3 yX3_at wm3_at) := gb_V wq_592 wq_532 wq_533 wq_67 wq_534
theorem gv_X4_23 : GoodIn bg_L (va_wsS RX4 23 yX4_dueBehind wm4_dueBehind) := gb_S wq_593 wq_594 wq_69 wq_595
end
section
def f8_within (v0 : Int32) (v1 : Int32) (v2 : Int32) : Option Int32 := ((if v0 < v1 then (some (0 : Int32)) else ((if v2 < v0 then (some (0 : Int32)) else (some (1 : Int32))))))
def f8_isSquare (v0 : Int32) : Option Int32 := (fo_bd (f8_within v0 (0 : Int32) (19 : Int32)) (fun q4 => (fo_zz q4 (some q4))))
def f8_sortOf (v0 : Int32) : Option Int32 := ((if (v0 - v0 / (10 : Int32) * (10 : Int32)) = 0 then (some (0 : Int32)) else ((if (v0 - v0 / (10 : Int32) * (10 : Int32)) = (5 : Int32) then (some (2 : Int32)) else (some (1 : Int32))))))
def f8_isValue (v0 : Int32) (v1 : Int32) : Option Int32 := ((if v0 = (0 : Int32) then (fo_bd (f8_within v1 (0 : Int32) (99 : Int32)) (fun q40 => (fo_zz q40 (some q40)))) else if v0 = (1 : Int32) then (fo_bd (f8_within v1 (1 : Int32) (99 : Int32)) (fun q48 => (fo_zz q48 (some q48)))) else if v0 = (2 : Int32) then (fo_bd (f8_within v1 (1 : Int32) (99 : Int32)) (fun q48 => (fo_zz q48 (some q48)))) else if v0 = (3 : Int32) then (fo_bd (f8_within v1 (1 : Int32) (7 : Int32)) (fun q56 => (fo_zz q56 (some q56)))) else if v0 = (4 : Int32) then (fo_bd (f8_within v1 (1 : Int32) (20 : Int32)) (fun q64 => (fo_zz q64 (some q64)))) else (some (0 : Int32))))
def f8_moves_b3 (n : Nat) (m : Nat) (F : Nat → Int32) (rec3 : Int32 → Int32 → Int32 → (Nat → Int32) → Option (Nat → Int32)) (v1 : Int32) (v3 : Int32) (v4 : Int32) (S : (Nat → Int32)) : Option (Nat → Int32) := ((if (107 : Int32) ≤ v4 then (some S) else (fo_ck (v1 + v4) n (fo_ck (v3 + v4) m (rec3 v1 v3 (v4 + (1 : Int32)) (upd S (v3 + v4).toNatClampNeg (F (v1 + v4).toNatClampNeg)))))))
def f8_moves_L3 (n : Nat) (m : Nat) (F : Nat → Int32) : Nat → Int32 → Int32 → Int32 → (Nat → Int32) → Option (Nat → Int32)
  | 0, _, _, _, _ => none
  | n + 1, v1, v3, v4, S => f8_moves_b3 n m F (f8_moves_L3 n m F n) v1 v3 v4 S
def f8_moves (n : Nat) (m : Nat) (F : Nat → Int32) (v1 : Int32) (v3 : Int32) (S : (Nat → Int32)) : Option (Nat → Int32) := (f8_moves_L3 n m F fo_fu v1 v3 (0 : Int32) S)
def f8_isPlayer (v1 : Int32) (S : (Nat → Int32)) : Option Int32 := (fo_ck (6 : Int32) 107 (fo_bd (f8_within v1 (0 : Int32) ((S (6 : Int32).toNatClampNeg) - (1 : Int32))) (fun q11 => (fo_zz q11 (some q11)))))
def f8_playerPart (v1 : Int32) (v2 : Int32) (S : (Nat → Int32)) : Option Int32 := (fo_ck (((51 : Int32) + ((6 : Int32) * v1)) + v2) 107 (some (S (((51 : Int32) + ((6 : Int32) * v1)) + v2).toNatClampNeg)))
def f8_adds (v1 : Int32) (v2 : Int32) (v3 : Int32) (S : (Nat → Int32)) : Option (Nat → Int32) := (fo_ck (((51 : Int32) + ((6 : Int32) * v1)) + v2) 107 (fo_ck (((51 : Int32) + ((6 : Int32) * v1)) + v2) 107 (some (upd S (((51 : Int32) + ((6 : Int32) * v1)) + v2).toNatClampNeg ((S (((51 : Int32) + ((6 : Int32) * v1)) + v2).toNatClampNeg) + v3)))))
def f8_debtOf (v1 : Int32) (v2 : Int32) (S : (Nat → Int32)) : Option Int32 := (fo_ck (((75 : Int32) + ((4 : Int32) * v1)) + v2) 107 (some (S (((75 : Int32) + ((4 : Int32) * v1)) + v2).toNatClampNeg)))
def f8_ageOf (v1 : Int32) (v2 : Int32) (S : (Nat → Int32)) : Option Int32 := (fo_ck (((91 : Int32) + ((4 : Int32) * v1)) + v2) 107 (some (S (((91 : Int32) + ((4 : Int32) * v1)) + v2).toNatClampNeg)))
def f8_addsDebt_b37 (v1 : Int32) (v2 : Int32) (S : (Nat → Int32)) : Option (Nat → Int32) := (fo_ck (((91 : Int32) + ((4 : Int32) * v1)) + v2) 107 (some (upd S (((91 : Int32) + ((4 : Int32) * v1)) + v2).toNatClampNeg (0 : Int32))))
def f8_addsDebt (v1 : Int32) (v2 : Int32) (v3 : Int32) (S : (Nat → Int32)) : Option (Nat → Int32) := ((fo_bd (f8_debtOf v1 v2 S) (fun q3 => (fo_ck (((75 : Int32) + ((4 : Int32) * v1)) + v2) 107 (if q3 = 0 then (f8_addsDebt_b37 v1 v2 (upd S (((75 : Int32) + ((4 : Int32) * v1)) + v2).toNatClampNeg (q3 + v3))) else ((if (q3 + v3) = 0 then (f8_addsDebt_b37 v1 v2 (upd S (((75 : Int32) + ((4 : Int32) * v1)) + v2).toNatClampNeg (q3 + v3))) else (some (upd S (((75 : Int32) + ((4 : Int32) * v1)) + v2).toNatClampNeg (q3 + v3))))))))))
def f8_owns_b26 (S : (Nat → Int32)) : Option Int32 := (some (1 : Int32))
def f8_owns (v1 : Int32) (v2 : Int32) (S : (Nat → Int32)) : Option Int32 := ((fo_ck ((11 : Int32) + v2) 107 (if (S ((11 : Int32) + v2).toNatClampNeg) = v1 then (f8_owns_b26 S) else ((fo_ck ((31 : Int32) + v2) 107 (if (S ((31 : Int32) + v2).toNatClampNeg) = v1 then (f8_owns_b26 S) else (some (0 : Int32))))))))
def f8_ownedBy_b27 (rec4 : Int32 → Int32 → Int32 → (Nat → Int32) → Option Int32) (v1 : Int32) (v3 : Int32) (t0 : Int32) (t1 : Int32) (S : (Nat → Int32)) : Option Int32 := (rec4 v1 (t0 ||| t1) (v3 + (1 : Int32)) S)
def f8_ownedBy_b4 (rec4 : Int32 → Int32 → Int32 → (Nat → Int32) → Option Int32) (v1 : Int32) (v2 : Int32) (v3 : Int32) (S : (Nat → Int32)) : Option Int32 := ((if (20 : Int32) ≤ v3 then (some v2) else ((fo_bd (f8_owns v1 v3 S) (fun q14 => (if q14 = 0 then (f8_ownedBy_b27 rec4 v1 v3 v2 (0 : Int32) S) else (f8_ownedBy_b27 rec4 v1 v3 v2 ((1 : Int32) <<< (v3 &&& 31)) S)))))))
def f8_ownedBy_L4 : Nat → Int32 → Int32 → Int32 → (Nat → Int32) → Option Int32
  | 0, _, _, _, _ => none
  | n + 1, v1, v2, v3, S => f8_ownedBy_b4 (f8_ownedBy_L4 n) v1 v2 v3 S
def f8_ownedBy (v1 : Int32) (S : (Nat → Int32)) : Option Int32 := (f8_ownedBy_L4 fo_fu v1 (0 : Int32) (0 : Int32) S)
def f8_lowestOf_b24 (rec6 : Int32 → Int32 → Int32 → (Nat → Int32) → Option Int32) (v1 : Int32) (v3 : Int32) (t0 : Int32) (S : (Nat → Int32)) : Option Int32 := (rec6 v1 t0 (v3 + (-1 : Int32)) S)
def f8_lowestOf_b6 (rec6 : Int32 → Int32 → Int32 → (Nat → Int32) → Option Int32) (v1 : Int32) (v2 : Int32) (v3 : Int32) (S : (Nat → Int32)) : Option Int32 := ((if v3 < 0 then (some v2) else ((fo_bd (f8_owns v1 v3 S) (fun q13 => (if q13 = 0 then (f8_lowestOf_b24 rec6 v1 v3 v2 S) else (f8_lowestOf_b24 rec6 v1 v3 v3 S)))))))
def f8_lowestOf_L6 : Nat → Int32 → Int32 → Int32 → (Nat → Int32) → Option Int32
  | 0, _, _, _, _ => none
  | n + 1, v1, v2, v3, S => f8_lowestOf_b6 (f8_lowestOf_L6 n) v1 v2 v3 S
def f8_lowestOf (v1 : Int32) (S : (Nat → Int32)) : Option Int32 := (f8_lowestOf_L6 fo_fu v1 (-6 : Int32) (19 : Int32) S)
def f8_standingAt_b33 (rec4 : Int32 → Int32 → Int32 → (Nat → Int32) → Option Int32) (v1 : Int32) (v3 : Int32) (t0 : Int32) (t1 : Int32) (S : (Nat → Int32)) : Option Int32 := (rec4 v1 (t0 ||| t1) (v3 + (1 : Int32)) S)
def f8_standingAt_b4 (rec4 : Int32 → Int32 → Int32 → (Nat → Int32) → Option Int32) (v1 : Int32) (v2 : Int32) (v3 : Int32) (S : (Nat → Int32)) : Option Int32 := ((fo_ck (6 : Int32) 107 (if (S (6 : Int32).toNatClampNeg) ≤ v3 then (some v2) else ((fo_bd (f8_playerPart v3 (1 : Int32) S) (fun q19 => (if q19 = v1 then (f8_standingAt_b33 rec4 v1 v3 v2 ((1 : Int32) <<< (v3 &&& 31)) S) else (f8_standingAt_b33 rec4 v1 v3 v2 (0 : Int32) S))))))))
def f8_standingAt_L4 : Nat → Int32 → Int32 → Int32 → (Nat → Int32) → Option Int32
  | 0, _, _, _, _ => none
  | n + 1, v1, v2, v3, S => f8_standingAt_b4 (f8_standingAt_L4 n) v1 v2 v3 S
def f8_standingAt (v1 : Int32) (S : (Nat → Int32)) : Option Int32 := (f8_standingAt_L4 fo_fu v1 (0 : Int32) (0 : Int32) S)
def f8_tollOf_b68 (rec27 : Int32 → Int32 → Int32 → Int32 → (Nat → Int32) → Option Int32) (v1 : Int32) (v2 : Int32) (v4 : Int32) (t0 : Int32) (t1 : Int32) (S : (Nat → Int32)) : Option Int32 := (rec27 v1 v2 (t0 + t1) (v4 + (1 : Int32)) S)
def f8_tollOf_b67 (rec27 : Int32 → Int32 → Int32 → Int32 → (Nat → Int32) → Option Int32) (v1 : Int32) (v2 : Int32) (v4 : Int32) (t0 : Int32) (S : (Nat → Int32)) : Option Int32 := (f8_tollOf_b68 rec27 v1 v2 v4 t0 (0 : Int32) S)
def f8_tollOf_b27 (rec27 : Int32 → Int32 → Int32 → Int32 → (Nat → Int32) → Option Int32) (v1 : Int32) (v2 : Int32) (v3 : Int32) (v4 : Int32) (S : (Nat → Int32)) : Option Int32 := ((if (((v1 / (5 : Int32)) * (5 : Int32)) + (5 : Int32)) ≤ v4 then (fo_ck (2 : Int32) 107 (some ((S (2 : Int32).toNatClampNeg) * v3))) else ((fo_bd (f8_sortOf v4) (fun q42 => (if q42 = (1 : Int32) then ((fo_ck ((11 : Int32) + v4) 107 (if (S ((11 : Int32) + v4).toNatClampNeg) = v2 then (f8_tollOf_b68 rec27 v1 v2 v4 v3 (1 : Int32) S) else (f8_tollOf_b67 rec27 v1 v2 v4 v3 S)))) else (f8_tollOf_b67 rec27 v1 v2 v4 v3 S)))))))
def f8_tollOf_L27 : Nat → Int32 → Int32 → Int32 → Int32 → (Nat → Int32) → Option Int32
  | 0, _, _, _, _, _ => none
  | n + 1, v1, v2, v3, v4, S => f8_tollOf_b27 (f8_tollOf_L27 n) v1 v2 v3 v4 S
def f8_tollOf (v1 : Int32) (S : (Nat → Int32)) : Option Int32 := ((fo_ck ((11 : Int32) + v1) 107 (if (S ((11 : Int32) + v1).toNatClampNeg) = (-6 : Int32) then (some (0 : Int32)) else (f8_tollOf_L27 fo_fu v1 (S ((11 : Int32) + v1).toNatClampNeg) (1 : Int32) ((v1 / (5 : Int32)) * (5 : Int32)) S))))
def f8_owedBy_b4 (rec4 : Int32 → Int32 → Int32 → (Nat → Int32) → Option Int32) (v1 : Int32) (v2 : Int32) (v3 : Int32) (S : (Nat → Int32)) : Option Int32 := ((fo_ck (6 : Int32) 107 (if (S (6 : Int32).toNatClampNeg) ≤ v3 then (some v2) else (fo_bd (f8_debtOf v1 v3 S) (fun q19 => (rec4 v1 (v2 + q19) (v3 + (1 : Int32)) S))))))
def f8_owedBy_L4 : Nat → Int32 → Int32 → Int32 → (Nat → Int32) → Option Int32
  | 0, _, _, _, _ => none
  | n + 1, v1, v2, v3, S => f8_owedBy_b4 (f8_owedBy_L4 n) v1 v2 v3 S
def f8_owedBy (v1 : Int32) (S : (Nat → Int32)) : Option Int32 := (f8_owedBy_L4 fo_fu v1 (0 : Int32) (0 : Int32) S)
def f8_owedTo_b4 (rec4 : Int32 → Int32 → Int32 → (Nat → Int32) → Option Int32) (v1 : Int32) (v2 : Int32) (v3 : Int32) (S : (Nat → Int32)) : Option Int32 := ((fo_ck (6 : Int32) 107 (if (S (6 : Int32).toNatClampNeg) ≤ v3 then (some v2) else (fo_bd (f8_debtOf v3 v1 S) (fun q19 => (rec4 v1 (v2 + q19) (v3 + (1 : Int32)) S))))))
def f8_owedTo_L4 : Nat → Int32 → Int32 → Int32 → (Nat → Int32) → Option Int32
  | 0, _, _, _, _ => none
  | n + 1, v1, v2, v3, S => f8_owedTo_b4 (f8_owedTo_L4 n) v1 v2 v3 S
def f8_owedTo (v1 : Int32) (S : (Nat → Int32)) : Option Int32 := (f8_owedTo_L4 fo_fu v1 (0 : Int32) (0 : Int32) S)
def f8_sumOf_b4 (rec4 : Int32 → Int32 → Int32 → (Nat → Int32) → Option Int32) (v1 : Int32) (v2 : Int32) (v3 : Int32) (S : (Nat → Int32)) : Option Int32 := ((fo_ck (6 : Int32) 107 (if (S (6 : Int32).toNatClampNeg) ≤ v3 then (some v2) else (fo_bd (f8_playerPart v3 v1 S) (fun q19 => (rec4 v1 (v2 + q19) (v3 + (1 : Int32)) S))))))
def f8_sumOf_L4 : Nat → Int32 → Int32 → Int32 → (Nat → Int32) → Option Int32
  | 0, _, _, _, _ => none
  | n + 1, v1, v2, v3, S => f8_sumOf_b4 (f8_sumOf_L4 n) v1 v2 v3 S
def f8_sumOf (v1 : Int32) (S : (Nat → Int32)) : Option Int32 := (f8_sumOf_L4 fo_fu v1 (0 : Int32) (0 : Int32) S)
def f8_sumOfDebts_b4 (rec4 : Int32 → Int32 → (Nat → Int32) → Option Int32) (v1 : Int32) (v2 : Int32) (S : (Nat → Int32)) : Option Int32 := ((fo_ck (6 : Int32) 107 (if (S (6 : Int32).toNatClampNeg) ≤ v2 then (some v1) else (fo_bd (f8_owedBy v2 S) (fun q18 => (rec4 (v1 + q18) (v2 + (1 : Int32)) S))))))
def f8_sumOfDebts_L4 : Nat → Int32 → Int32 → (Nat → Int32) → Option Int32
  | 0, _, _, _ => none
  | n + 1, v1, v2, S => f8_sumOfDebts_b4 (f8_sumOfDebts_L4 n) v1 v2 S
def f8_sumOfDebts (S : (Nat → Int32)) : Option Int32 := (f8_sumOfDebts_L4 fo_fu (0 : Int32) (0 : Int32) S)
def f8_debtsMany_b43 (rec4 : Int32 → Int32 → (Nat → Int32) → Option Int32) (rec17 : Int32 → Int32 → Int32 → (Nat → Int32) → Option Int32) (v2 : Int32) (v3 : Int32) (t0 : Int32) (t1 : Int32) (S : (Nat → Int32)) : Option Int32 := (rec17 (t0 + t1) v2 (v3 + (1 : Int32)) S)
def f8_debtsMany_b17 (rec4 : Int32 → Int32 → (Nat → Int32) → Option Int32) (rec17 : Int32 → Int32 → Int32 → (Nat → Int32) → Option Int32) (v1 : Int32) (v2 : Int32) (v3 : Int32) (S : (Nat → Int32)) : Option Int32 := ((fo_ck (6 : Int32) 107 (if (S (6 : Int32).toNatClampNeg) ≤ v3 then (rec4 v1 (v2 + (1 : Int32)) S) else ((fo_bd (f8_debtOf v2 v3 S) (fun q32 => (if q32 ≤ 0 then (f8_debtsMany_b43 rec4 rec17 v2 v3 v1 (0 : Int32) S) else (f8_debtsMany_b43 rec4 rec17 v2 v3 v1 (1 : Int32) S))))))))
def f8_debtsMany_L17 (rec4 : Int32 → Int32 → (Nat → Int32) → Option Int32) : Nat → Int32 → Int32 → Int32 → (Nat → Int32) → Option Int32
  | 0, _, _, _, _ => none
  | n + 1, v1, v2, v3, S => f8_debtsMany_b17 rec4 (f8_debtsMany_L17 rec4 n) v1 v2 v3 S
def f8_debtsMany_b4 (rec4 : Int32 → Int32 → (Nat → Int32) → Option Int32) (v1 : Int32) (v2 : Int32) (S : (Nat → Int32)) : Option Int32 := ((fo_ck (6 : Int32) 107 (if (S (6 : Int32).toNatClampNeg) ≤ v2 then (some v1) else (f8_debtsMany_L17 rec4 fo_fu v1 v2 (0 : Int32) S))))
def f8_debtsMany_L4 : Nat → Int32 → Int32 → (Nat → Int32) → Option Int32
  | 0, _, _, _ => none
  | n + 1, v1, v2, S => f8_debtsMany_b4 (f8_debtsMany_L4 n) v1 v2 S
def f8_debtsMany (S : (Nat → Int32)) : Option Int32 := (f8_debtsMany_L4 fo_fu (0 : Int32) (0 : Int32) S)
def f8_die (S : (Nat → Int32)) : Option (Int32 × (Nat → Int32)) := (fo_ck (8 : Int32) 107 (fo_ck (8 : Int32) 107 (fo_ck (8 : Int32) 107 (some (((1 : Int32) + ((((upd S (8 : Int32).toNatClampNeg ((((75 : Int32) * (S (8 : Int32).toNatClampNeg)) + (74 : Int32)) - (((75 : Int32) * (S (8 : Int32).toNatClampNeg)) + (74 : Int32)) / (65537 : Int32) * (65537 : Int32))) (8 : Int32).toNatClampNeg) / (8 : Int32)) - (((upd S (8 : Int32).toNatClampNeg ((((75 : Int32) * (S (8 : Int32).toNatClampNeg)) + (74 : Int32)) - (((75 : Int32) * (S (8 : Int32).toNatClampNeg)) + (74 : Int32)) / (65537 : Int32) * (65537 : Int32))) (8 : Int32).toNatClampNeg) / (8 : Int32)) / (6 : Int32) * (6 : Int32))), (upd S (8 : Int32).toNatClampNeg ((((75 : Int32) * (S (8 : Int32).toNatClampNeg)) + (74 : Int32)) - (((75 : Int32) * (S (8 : Int32).toNatClampNeg)) + (74 : Int32)) / (65537 : Int32) * (65537 : Int32))))))))
def f8_oldest_b77 (rec6 : Int32 → Int32 → Int32 → Int32 → (Nat → Int32) → Option Int32) (v1 : Int32) (v2 : Int32) (v4 : Int32) (t0 : Int32) (S : (Nat → Int32)) : Option Int32 := (rec6 v1 v2 t0 (v4 + (1 : Int32)) S)
def f8_oldest_b64 (rec6 : Int32 → Int32 → Int32 → Int32 → (Nat → Int32) → Option Int32) (v1 : Int32) (v2 : Int32) (v3 : Int32) (v4 : Int32) (t0 : Int32) (S : (Nat → Int32)) : Option Int32 := ((if t0 = 0 then (f8_oldest_b77 rec6 v1 v2 v4 v3 S) else (f8_oldest_b77 rec6 v1 v2 v4 v4 S)))
def f8_oldest_b63 (rec6 : Int32 → Int32 → Int32 → Int32 → (Nat → Int32) → Option Int32) (v1 : Int32) (v2 : Int32) (v3 : Int32) (v4 : Int32) (S : (Nat → Int32)) : Option Int32 := (f8_oldest_b64 rec6 v1 v2 v3 v4 (0 : Int32) S)
def f8_oldest_b59 (rec6 : Int32 → Int32 → Int32 → Int32 → (Nat → Int32) → Option Int32) (v1 : Int32) (v2 : Int32) (v3 : Int32) (v4 : Int32) (S : (Nat → Int32)) : Option Int32 := (f8_oldest_b64 rec6 v1 v2 v3 v4 (1 : Int32) S)
def f8_oldest_b6 (rec6 : Int32 → Int32 → Int32 → Int32 → (Nat → Int32) → Option Int32) (v1 : Int32) (v2 : Int32) (v3 : Int32) (v4 : Int32) (S : (Nat → Int32)) : Option Int32 := ((fo_ck (6 : Int32) 107 (if (S (6 : Int32).toNatClampNeg) ≤ v4 then (some v3) else ((fo_bd (f8_debtOf v1 v4 S) (fun q22 => (if q22 ≤ 0 then (f8_oldest_b63 rec6 v1 v2 v3 v4 S) else ((if ((v2 >>> (v4 &&& 31)) &&& (1 : Int32)) = 0 then ((if v3 = (-6 : Int32) then (f8_oldest_b59 rec6 v1 v2 v3 v4 S) else ((fo_bd (f8_ageOf v1 v4 S) (fun q47 => (fo_bd (f8_ageOf v1 v3 S) (fun q53 => (if q47 ≤ q53 then (f8_oldest_b63 rec6 v1 v2 v3 v4 S) else (f8_oldest_b59 rec6 v1 v2 v3 v4 S))))))))) else (f8_oldest_b63 rec6 v1 v2 v3 v4 S))))))))))
def f8_oldest_L6 : Nat → Int32 → Int32 → Int32 → Int32 → (Nat → Int32) → Option Int32
  | 0, _, _, _, _, _ => none
  | n + 1, v1, v2, v3, v4, S => f8_oldest_b6 (f8_oldest_L6 n) v1 v2 v3 v4 S
def f8_oldest (v1 : Int32) (v2 : Int32) (S : (Nat → Int32)) : Option Int32 := (f8_oldest_L6 fo_fu v1 v2 (-6 : Int32) (0 : Int32) S)
def f8_pays_b20 (v1 : Int32) (v2 : Int32) (t0 : Int32) (S : (Nat → Int32)) : Option (Int32 × (Nat → Int32)) := (fo_bd (f8_adds v1 (0 : Int32) (-t0) S) (fun q28 => (fo_bd (f8_adds v1 (2 : Int32) t0 q28) (fun q36 => (fo_bd (f8_adds v2 (0 : Int32) t0 q36) (fun q44 => (fo_bd (f8_adds v2 (3 : Int32) t0 q44) (fun q52 => (some (t0, q52))))))))))
def f8_pays (v1 : Int32) (v2 : Int32) (v3 : Int32) (S : (Nat → Int32)) : Option (Int32 × (Nat → Int32)) := ((fo_bd (f8_playerPart v1 (0 : Int32) S) (fun q4 => (if q4 ≤ v3 then (fo_bd (f8_playerPart v1 (0 : Int32) S) (fun q17 => (f8_pays_b20 v1 v2 q17 S))) else (f8_pays_b20 v1 v2 v3 S)))))
def f8_paysDebts_b9 (rec9 : Int32 → Int32 → Int32 → (Nat → Int32) → Option (Nat → Int32)) (v1 : Int32) (v2 : Int32) (v3 : Int32) (S : (Nat → Int32)) : Option (Nat → Int32) := ((if v3 = (-6 : Int32) then (some S) else (fo_bd (f8_debtOf v1 v3 S) (fun q30 => (fo_bd (f8_pays v1 v3 q30 S) (fun q33 => (fo_bd (f8_addsDebt v1 v3 (-q33.1) q33.2) (fun q37 => (fo_bd (f8_oldest v1 (v2 ||| ((1 : Int32) <<< (v3 &&& 31))) q37) (fun q43 => (rec9 v1 (v2 ||| ((1 : Int32) <<< (v3 &&& 31))) q43 q37)))))))))))
def f8_paysDebts_L9 : Nat → Int32 → Int32 → Int32 → (Nat → Int32) → Option (Nat → Int32)
  | 0, _, _, _, _ => none
  | n + 1, v1, v2, v3, S => f8_paysDebts_b9 (f8_paysDebts_L9 n) v1 v2 v3 S
def f8_paysDebts (v1 : Int32) (S : (Nat → Int32)) : Option (Nat → Int32) := (fo_bd (f8_oldest v1 (0 : Int32) S) (fun q5 => (f8_paysDebts_L9 fo_fu v1 (0 : Int32) q5 S)))
def f8_goes_b53 (v1 : Int32) (v3 : Int32) (S : (Nat → Int32)) : Option (Nat → Int32) := (fo_ck (((51 : Int32) + ((6 : Int32) * v1)) + (1 : Int32)) 107 (some (upd S (((51 : Int32) + ((6 : Int32) * v1)) + (1 : Int32)).toNatClampNeg (v3 - v3 / (20 : Int32) * (20 : Int32)))))
def f8_goes (v1 : Int32) (S : (Nat → Int32)) : Option (Nat → Int32) := ((fo_bd (f8_die S) (fun q1 => (fo_bd (f8_playerPart v1 (1 : Int32) q1.2) (fun q8 => (fo_bd (f8_die q1.2) (fun q14 => (if ((q8 + q1.1) + q14.1) < (20 : Int32) then (f8_goes_b53 v1 ((q8 + q1.1) + q14.1) q14.2) else (fo_ck (0 : Int32) 107 (fo_bd (f8_adds v1 (0 : Int32) (q14.2 (0 : Int32).toNatClampNeg) q14.2) (fun q34 => (fo_ck (10 : Int32) 107 (fo_ck (0 : Int32) 107 (fo_ck (10 : Int32) 107 (f8_goes_b53 v1 ((q8 + q1.1) + q14.1) (upd q34 (10 : Int32).toNatClampNeg ((q34 (10 : Int32).toNatClampNeg) + (q34 (0 : Int32).toNatClampNeg))))))))))))))))))
def f8_canBeClaimed (v1 : Int32) (S : (Nat → Int32)) : Option Int32 := ((fo_bd (f8_sortOf v1) (fun q1 => (if q1 = (1 : Int32) then ((fo_ck ((11 : Int32) + v1) 107 (if (S ((11 : Int32) + v1).toNatClampNeg) = (-6 : Int32) then (some (1 : Int32)) else (some (0 : Int32))))) else ((fo_bd (f8_sortOf v1) (fun q31 => (if q31 = (2 : Int32) then ((fo_ck ((31 : Int32) + v1) 107 (if (S ((31 : Int32) + v1).toNatClampNeg) = (-6 : Int32) then (some (1 : Int32)) else (some (0 : Int32))))) else (some (0 : Int32))))))))))
def f8_claims (v1 : Int32) (v2 : Int32) (S : (Nat → Int32)) : Option (Nat → Int32) := ((fo_bd (f8_die S) (fun q1 => (fo_ck (3 : Int32) 107 (if q1.1 < (q1.2 (3 : Int32).toNatClampNeg) then (some q1.2) else ((fo_bd (f8_playerPart v1 (0 : Int32) q1.2) (fun q18 => (fo_ck (1 : Int32) 107 (if (q1.2 (1 : Int32).toNatClampNeg) ≤ q18 then ((fo_ck (1 : Int32) 107 (fo_bd (f8_adds v1 (0 : Int32) (-(q1.2 (1 : Int32).toNatClampNeg)) q1.2) (fun q41 => (fo_ck ((11 : Int32) + v2) 107 (if (q41 ((11 : Int32) + v2).toNatClampNeg) = (-6 : Int32) then (fo_ck ((11 : Int32) + v2) 107 (fo_ck (9 : Int32) 107 (fo_ck (1 : Int32) 107 (fo_ck (9 : Int32) 107 (some (upd (upd q41 ((11 : Int32) + v2).toNatClampNeg v1) (9 : Int32).toNatClampNeg (((upd q41 ((11 : Int32) + v2).toNatClampNeg v1) (9 : Int32).toNatClampNeg) + ((upd q41 ((11 : Int32) + v2).toNatClampNeg v1) (1 : Int32).toNatClampNeg)))))))) else (fo_ck ((31 : Int32) + v2) 107 (fo_ck ((11 : Int32) + v2) 107 (fo_ck (1 : Int32) 107 (fo_bd (f8_adds ((upd q41 ((31 : Int32) + v2).toNatClampNeg v1) ((11 : Int32) + v2).toNatClampNeg) (0 : Int32) ((upd q41 ((31 : Int32) + v2).toNatClampNeg v1) (1 : Int32).toNatClampNeg) (upd q41 ((31 : Int32) + v2).toNatClampNeg v1)) (fun q114 => (some q114)))))))))))) else (some q1.2)))))))))))
def f8_paysToll (v1 : Int32) (v2 : Int32) (v3 : Int32) (S : (Nat → Int32)) : Option (Nat → Int32) := ((fo_bd (f8_pays v1 v2 v3 S) (fun q4 => (if v3 ≤ q4.1 then (some q4.2) else (fo_bd (f8_addsDebt v1 v2 (v3 - q4.1) q4.2) (fun q22 => (some q22)))))))
def f8_arrives_b73 (v1 : Int32) (v2 : Int32) (v3 : Int32) (t0 : Int32) (S : (Nat → Int32)) : Option (Nat → Int32) := ((fo_ck ((11 : Int32) + v2) 107 (fo_bd (f8_paysToll v1 (S ((11 : Int32) + v2).toNatClampNeg) (v3 - t0) S) (fun q90 => (fo_ck ((31 : Int32) + v2) 107 (if (q90 ((31 : Int32) + v2).toNatClampNeg) = (-6 : Int32) then (some q90) else (fo_ck ((31 : Int32) + v2) 107 (fo_bd (f8_paysToll v1 (q90 ((31 : Int32) + v2).toNatClampNeg) t0 q90) (fun q120 => (some q120))))))))))
def f8_arrives_b23 (v1 : Int32) (v2 : Int32) (S : (Nat → Int32)) : Option (Nat → Int32) := ((fo_bd (f8_owns v1 v2 S) (fun q26 => (if q26 = 0 then ((fo_ck ((11 : Int32) + v2) 107 (if (S ((11 : Int32) + v2).toNatClampNeg) = (-6 : Int32) then (some S) else ((fo_bd (f8_tollOf v2 S) (fun q48 => (fo_ck ((31 : Int32) + v2) 107 (if (S ((31 : Int32) + v2).toNatClampNeg) = (-6 : Int32) then (f8_arrives_b73 v1 v2 q48 (0 : Int32) S) else (f8_arrives_b73 v1 v2 q48 (q48 / (2 : Int32)) S))))))))) else (some S)))))
def f8_arrives (v1 : Int32) (v2 : Int32) (S : (Nat → Int32)) : Option (Nat → Int32) := ((fo_bd (f8_owns v1 v2 S) (fun q3 => (if q3 = 0 then ((fo_bd (f8_canBeClaimed v2 S) (fun q11 => (if q11 = 0 then (f8_arrives_b23 v1 v2 S) else (fo_bd (f8_claims v1 v2 S) (fun q20 => (f8_arrives_b23 v1 v2 q20))))))) else (f8_arrives_b23 v1 v2 S)))))
def f8_hands_b89 (t1 : Int32) (t2 : Int32) (S : (Nat → Int32)) : Option (Nat → Int32) := (fo_ck t1 107 (some (upd S t1.toNatClampNeg t2)))
def f8_hands_b58 (t1 : Int32) (t2 : Int32) (S : (Nat → Int32)) : Option (Nat → Int32) := (fo_ck t1 107 (some (upd S t1.toNatClampNeg t2)))
def f8_hands (v1 : Int32) (v2 : Int32) (v3 : Int32) (S : (Nat → Int32)) : Option (Nat → Int32) := ((fo_ck ((11 : Int32) + v2) 107 (if (S ((11 : Int32) + v2).toNatClampNeg) = v1 then ((fo_ck ((11 : Int32) + v2) 107 (fo_ck ((31 : Int32) + v2) 107 (if ((upd S ((11 : Int32) + v2).toNatClampNeg v3) ((31 : Int32) + v2).toNatClampNeg) = v3 then (f8_hands_b58 ((31 : Int32) + v2) (-6 : Int32) (upd S ((11 : Int32) + v2).toNatClampNeg v3)) else (fo_ck ((31 : Int32) + v2) 107 (f8_hands_b58 ((31 : Int32) + v2) ((upd S ((11 : Int32) + v2).toNatClampNeg v3) ((31 : Int32) + v2).toNatClampNeg) (upd S ((11 : Int32) + v2).toNatClampNeg v3))))))) else ((fo_ck ((11 : Int32) + v2) 107 (if (S ((11 : Int32) + v2).toNatClampNeg) = v3 then (f8_hands_b89 ((31 : Int32) + v2) (-6 : Int32) S) else (f8_hands_b89 ((31 : Int32) + v2) v3 S)))))))
def f8_growsOlder_b127 (rec58 : Int32 → Int32 → Int32 → (Nat → Int32) → Option (Nat → Int32)) (v1 : Int32) (v2 : Int32) (S : (Nat → Int32)) : Option (Nat → Int32) := (fo_bd (f8_oldest v1 v2 S) (fun q130 => (rec58 v1 v2 q130 S)))
def f8_growsOlder_b58 (rec58 : Int32 → Int32 → Int32 → (Nat → Int32) → Option (Nat → Int32)) (v1 : Int32) (v2 : Int32) (v3 : Int32) (S : (Nat → Int32)) : Option (Nat → Int32) := ((if v3 = (-6 : Int32) then (some S) else ((fo_bd (f8_lowestOf v1 S) (fun q72 => (fo_bd (f8_ageOf v1 v3 S) (fun q80 => (fo_ck (4 : Int32) 107 (if q80 ≤ (S (4 : Int32).toNatClampNeg) then (f8_growsOlder_b127 rec58 v1 (v2 ||| ((1 : Int32) <<< (v3 &&& 31))) S) else ((if q72 = (-6 : Int32) then (f8_growsOlder_b127 rec58 v1 (v2 ||| ((1 : Int32) <<< (v3 &&& 31))) S) else (fo_bd (f8_hands v1 q72 v3 S) (fun q104 => (fo_bd (f8_debtOf v1 v3 q104) (fun q113 => (fo_bd (f8_addsDebt v1 v3 (-q113) q104) (fun q117 => (fo_bd (f8_adds v1 (5 : Int32) (1 : Int32) q117) (fun q124 => (f8_growsOlder_b127 rec58 v1 (v2 ||| ((1 : Int32) <<< (v3 &&& 31))) q124))))))))))))))))))))
def f8_growsOlder_L58 : Nat → Int32 → Int32 → Int32 → (Nat → Int32) → Option (Nat → Int32)
  | 0, _, _, _, _ => none
  | n + 1, v1, v2, v3, S => f8_growsOlder_b58 (f8_growsOlder_L58 n) v1 v2 v3 S
def f8_growsOlder_b41 (rec2 : Int32 → Int32 → (Nat → Int32) → Option (Nat → Int32)) (v1 : Int32) (v2 : Int32) (t1 : Int32) (t2 : Int32) (t3 : Int32) (S : (Nat → Int32)) : Option (Nat → Int32) := (fo_ck t1 107 (rec2 v1 (v2 + (1 : Int32)) (upd S t1.toNatClampNeg (t2 + t3))))
def f8_growsOlder_b2 (rec2 : Int32 → Int32 → (Nat → Int32) → Option (Nat → Int32)) (v1 : Int32) (v2 : Int32) (S : (Nat → Int32)) : Option (Nat → Int32) := ((fo_ck (6 : Int32) 107 (if (S (6 : Int32).toNatClampNeg) ≤ v2 then (fo_bd (f8_oldest v1 (0 : Int32) S) (fun q54 => (f8_growsOlder_L58 fo_fu v1 (0 : Int32) q54 S))) else ((fo_ck (((91 : Int32) + ((4 : Int32) * v1)) + v2) 107 (fo_bd (f8_debtOf v1 v2 S) (fun q30 => (if q30 ≤ 0 then (f8_growsOlder_b41 rec2 v1 v2 (((91 : Int32) + ((4 : Int32) * v1)) + v2) (S (((91 : Int32) + ((4 : Int32) * v1)) + v2).toNatClampNeg) (0 : Int32) S) else (f8_growsOlder_b41 rec2 v1 v2 (((91 : Int32) + ((4 : Int32) * v1)) + v2) (S (((91 : Int32) + ((4 : Int32) * v1)) + v2).toNatClampNeg) (1 : Int32) S)))))))))
def f8_growsOlder_L2 : Nat → Int32 → Int32 → (Nat → Int32) → Option (Nat → Int32)
  | 0, _, _, _ => none
  | n + 1, v1, v2, S => f8_growsOlder_b2 (f8_growsOlder_L2 n) v1 v2 S
def f8_growsOlder (v1 : Int32) (S : (Nat → Int32)) : Option (Nat → Int32) := (f8_growsOlder_L2 fo_fu v1 (0 : Int32) S)
def f8_turn (S : (Nat → Int32)) : Option (Nat → Int32) := (fo_ck (7 : Int32) 107 (fo_bd (f8_paysDebts (S (7 : Int32).toNatClampNeg) S) (fun q10 => (fo_bd (f8_goes (S (7 : Int32).toNatClampNeg) q10) (fun q15 => (fo_bd (f8_playerPart (S (7 : Int32).toNatClampNeg) (1 : Int32) q15) (fun q23 => (fo_bd (f8_arrives (S (7 : Int32).toNatClampNeg) q23 q15) (fun q26 => (fo_bd (f8_growsOlder (S (7 : Int32).toNatClampNeg) q26) (fun q31 => (fo_bd (f8_adds (S (7 : Int32).toNatClampNeg) (4 : Int32) (1 : Int32) q31) (fun q38 => (fo_ck (6 : Int32) 107 (fo_nz (q38 (6 : Int32).toNatClampNeg) (fo_ck (7 : Int32) 107 (fo_ck (5 : Int32) 107 (fo_ck (5 : Int32) 107 (some (upd (upd q38 (7 : Int32).toNatClampNeg (((S (7 : Int32).toNatClampNeg) + (1 : Int32)) - ((S (7 : Int32).toNatClampNeg) + (1 : Int32)) / (q38 (6 : Int32).toNatClampNeg) * (q38 (6 : Int32).toNatClampNeg))) (5 : Int32).toNatClampNeg (((upd q38 (7 : Int32).toNatClampNeg (((S (7 : Int32).toNatClampNeg) + (1 : Int32)) - ((S (7 : Int32).toNatClampNeg) + (1 : Int32)) / (q38 (6 : Int32).toNatClampNeg) * (q38 (6 : Int32).toNatClampNeg))) (5 : Int32).toNatClampNeg) + (1 : Int32))))))))))))))))))))))
def f8_doTurns_b8 (rec8 : Int32 → Int32 → Int32 → (Nat → Int32) → Option (Int32 × (Nat → Int32))) (v1 : Int32) (v2 : Int32) (v3 : Int32) (S : (Nat → Int32)) : Option (Int32 × (Nat → Int32)) := ((if v1 ≤ v3 then (fo_bd (f8_sumOf (2 : Int32) S) (fun q25 => (some ((q25 - v2), S)))) else (fo_bd (f8_turn S) (fun q14 => (rec8 v1 v2 (v3 + (1 : Int32)) q14)))))
def f8_doTurns_L8 : Nat → Int32 → Int32 → Int32 → (Nat → Int32) → Option (Int32 × (Nat → Int32))
  | 0, _, _, _, _ => none
  | n + 1, v1, v2, v3, S => f8_doTurns_b8 (f8_doTurns_L8 n) v1 v2 v3 S
def f8_doTurns (v1 : Int32) (S : (Nat → Int32)) : Option (Int32 × (Nat → Int32)) := (fo_bd (f8_sumOf (2 : Int32) S) (fun q2 => (f8_doTurns_L8 fo_fu v1 q2 (0 : Int32) S)))
def f8_whyNoPlayer (v1 : Int32) (S : (Nat → Int32)) : Option Int32 := ((fo_bd (f8_within v1 (0 : Int32) (9999 : Int32)) (fun q5 => (if q5 = 0 then (some (-2 : Int32)) else ((fo_ck (6 : Int32) 107 (if (S (6 : Int32).toNatClampNeg) = (4 : Int32) then (some (-4 : Int32)) else (some (0 : Int32)))))))))
def f8_comes_b38 (rec10 : Int32 → Int32 → Int32 → (Nat → Int32) → Option (Int32 × (Nat → Int32))) (v1 : Int32) (v2 : Int32) (v3 : Int32) (t1 : Int32) (t2 : Int32) (S : (Nat → Int32)) : Option (Int32 × (Nat → Int32)) := (fo_ck t1 107 (rec10 v1 v2 (v3 + (1 : Int32)) (upd S t1.toNatClampNeg t2)))
def f8_comes_b10 (rec10 : Int32 → Int32 → Int32 → (Nat → Int32) → Option (Int32 × (Nat → Int32))) (v1 : Int32) (v2 : Int32) (v3 : Int32) (S : (Nat → Int32)) : Option (Int32 × (Nat → Int32)) := ((if (6 : Int32) ≤ v3 then (fo_ck (6 : Int32) 107 (fo_ck (6 : Int32) 107 (some (v2, (upd S (6 : Int32).toNatClampNeg ((S (6 : Int32).toNatClampNeg) + (1 : Int32))))))) else ((if v3 = 0 then (f8_comes_b38 rec10 v1 v2 v3 (((51 : Int32) + ((6 : Int32) * v2)) + v3) v1 S) else (f8_comes_b38 rec10 v1 v2 v3 (((51 : Int32) + ((6 : Int32) * v2)) + v3) (0 : Int32) S)))))
def f8_comes_L10 : Nat → Int32 → Int32 → Int32 → (Nat → Int32) → Option (Int32 × (Nat → Int32))
  | 0, _, _, _, _ => none
  | n + 1, v1, v2, v3, S => f8_comes_b10 (f8_comes_L10 n) v1 v2 v3 S
def f8_comes (v1 : Int32) (S : (Nat → Int32)) : Option (Int32 × (Nat → Int32)) := (fo_ck (6 : Int32) 107 (f8_comes_L10 fo_fu v1 (S (6 : Int32).toNatClampNeg) (0 : Int32) S))
def f8_whyNoTurns_b37 (S : (Nat → Int32)) : Option Int32 := (some (-5 : Int32))
def f8_whyNoTurns (v1 : Int32) (S : (Nat → Int32)) : Option Int32 := ((fo_bd (f8_within v1 (1 : Int32) (99 : Int32)) (fun q4 => (if q4 = 0 then (some (-2 : Int32)) else ((fo_ck (6 : Int32) 107 (if (S (6 : Int32).toNatClampNeg) = 0 then (f8_whyNoTurns_b37 S) else ((fo_ck (5 : Int32) 107 (if ((S (5 : Int32).toNatClampNeg) + v1) ≤ (9999 : Int32) then (some (0 : Int32)) else (f8_whyNoTurns_b37 S)))))))))))
def f8_of (v1 : Int32) (v2 : Int32) (S : (Nat → Int32)) : Option Int32 := ((fo_bd (f8_isPlayer v1 S) (fun q2 => (if q2 = 0 then (some (-1 : Int32)) else ((if v2 = (0 : Int32) then (fo_bd (f8_playerPart v1 (0 : Int32) S) (fun q63 => (some q63))) else if v2 = (1 : Int32) then (fo_bd (f8_playerPart v1 (1 : Int32) S) (fun q70 => (some q70))) else if v2 = (2 : Int32) then (fo_bd (f8_ownedBy v1 S) (fun q76 => (some q76))) else if v2 = (3 : Int32) then (fo_bd (f8_owedBy v1 S) (fun q82 => (some q82))) else if v2 = (4 : Int32) then (fo_bd (f8_owedTo v1 S) (fun q88 => (some q88))) else if v2 = (5 : Int32) then (fo_bd (f8_playerPart v1 (2 : Int32) S) (fun q95 => (some q95))) else if v2 = (6 : Int32) then (fo_bd (f8_playerPart v1 (3 : Int32) S) (fun q102 => (some q102))) else if v2 = (7 : Int32) then (fo_bd (f8_playerPart v1 (4 : Int32) S) (fun q109 => (some q109))) else if v2 = (8 : Int32) then (fo_bd (f8_playerPart v1 (5 : Int32) S) (fun q116 => (some q116))) else (some (-2 : Int32))))))))
def f8_ofSquare (v1 : Int32) (v2 : Int32) (S : (Nat → Int32)) : Option Int32 := ((fo_bd (f8_isSquare v1) (fun q1 => (if q1 = 0 then (some (-1 : Int32)) else ((if v2 = (0 : Int32) then (fo_bd (f8_sortOf v1) (fun q45 => (some q45))) else if v2 = (1 : Int32) then (fo_ck ((11 : Int32) + v1) 107 (some (S ((11 : Int32) + v1).toNatClampNeg))) else if v2 = (2 : Int32) then (fo_ck ((31 : Int32) + v1) 107 (some (S ((31 : Int32) + v1).toNatClampNeg))) else if v2 = (3 : Int32) then (fo_bd (f8_tollOf v1 S) (fun q71 => (some q71))) else if v2 = (4 : Int32) then (fo_bd (f8_standingAt v1 S) (fun q77 => (some q77))) else (some (-2 : Int32))))))))
def f8_owes (v1 : Int32) (v2 : Int32) (v3 : Int32) (S : (Nat → Int32)) : Option Int32 := ((fo_bd (f8_isPlayer v1 S) (fun q2 => (if q2 = 0 then (some (-1 : Int32)) else ((fo_bd (f8_isPlayer v2 S) (fun q10 => (if q10 = 0 then (some (-1 : Int32)) else ((fo_bd (f8_within v3 (0 : Int32) (1 : Int32)) (fun q21 => (if q21 = 0 then (some (-2 : Int32)) else ((if v1 = v2 then (some (-2 : Int32)) else ((fo_bd (f8_debtOf v1 v2 S) (fun q38 => (if v3 = 0 then (some q38) else ((if q38 = 0 then (some (-6 : Int32)) else (fo_bd (f8_ageOf v1 v2 S) (fun q65 => (some q65)))))))))))))))))))))))
def f8_record_b49 (S : ms_T) : Option ms_T := (fo_bd (f8_moves 107 642 (S 0) (0 : Int32) ((S 8 0) * (107 : Int32)) (S 2)) (fun q65 => (some (ms_set (ms_set S 2 q65) 8 (upd ((ms_set S 2 q65) 8) 0 (((ms_set S 2 q65) 8 0) + (1 : Int32)))))))
def f8_record_b11 (rec11 : Int32 → ms_T → Option ms_T) (v1 : Int32) (S : ms_T) : Option ms_T := ((if (535 : Int32) ≤ v1 then (f8_record_b49 (ms_set S 8 (upd (S 8) 0 ((S 8 0) - (1 : Int32))))) else (fo_ck (v1 + (107 : Int32)) 642 (fo_ck v1 642 (rec11 (v1 + (1 : Int32)) (ms_set S 2 (upd (S 2) v1.toNatClampNeg ((S 2) (v1 + (107 : Int32)).toNatClampNeg))))))))
def f8_record_L11 : Nat → Int32 → ms_T → Option ms_T
  | 0, _, _ => none
  | n + 1, v1, S => f8_record_b11 (f8_record_L11 n) v1 S
def f8_record (S : ms_T) : Option ms_T := ((if (S 8 0) = (6 : Int32) then (f8_record_L11 fo_fu (0 : Int32) S) else (f8_record_b49 S)))
def f8_set (v1 : Int32) (v2 : Int32) (S : ms_T) : Option (Int32 × ms_T) := ((fo_bd (f8_isValue v1 v2) (fun q2 => (if q2 = 0 then (some ((-2 : Int32), S)) else (fo_bd (f8_record S) (fun q12 => (fo_ck v1 107 (fo_ck v1 107 (some (((q12 0) v1.toNatClampNeg), (ms_set q12 0 (upd (q12 0) v1.toNatClampNeg v2))))))))))))
def f8_player (v1 : Int32) (S : ms_T) : Option (Int32 × ms_T) := ((fo_bd (f8_whyNoPlayer v1 (S 0)) (fun q2 => (if 0 ≤ q2 then (fo_bd (f8_record S) (fun q13 => (fo_bd (f8_comes v1 (q13 0)) (fun q18 => (some (q18.1, (ms_set q13 0 q18.2))))))) else (some (q2, S))))))
def f8_seed (v1 : Int32) (S : ms_T) : Option (Int32 × ms_T) := ((fo_bd (f8_within v1 (0 : Int32) (9999 : Int32)) (fun q5 => (if q5 = 0 then (some ((-2 : Int32), S)) else (fo_bd (f8_record S) (fun q15 => (fo_ck (8 : Int32) 107 (fo_ck (8 : Int32) 107 (some (((q15 0) (8 : Int32).toNatClampNeg), (ms_set q15 0 (upd (q15 0) (8 : Int32).toNatClampNeg v1))))))))))))
def f8_go (v1 : Int32) (S : ms_T) : Option (Int32 × ms_T) := ((fo_bd (f8_whyNoTurns v1 (S 0)) (fun q2 => (if 0 ≤ q2 then (fo_bd (f8_record S) (fun q13 => (fo_bd (f8_doTurns v1 (q13 0)) (fun q18 => (some (q18.1, (ms_set q13 0 q18.2))))))) else (some (q2, S))))))
def f8_takesRing (v1 : Int32) (v2 : Int32) (v3 : Int32) (v4 : Int32) (v5 : Int32) (S : ms_T) : Option ms_T := (fo_ck (0 : Int32) 4 (fo_ck (1 : Int32) 4 (fo_ck (2 : Int32) 4 (fo_ck (3 : Int32) 4 (some (ms_set (ms_set (ms_set (ms_set (ms_set S 6 (upd (S 6) (0 : Int32).toNatClampNeg v1)) 6 (upd ((ms_set S 6 (upd (S 6) (0 : Int32).toNatClampNeg v1)) 6) (1 : Int32).toNatClampNeg v2)) 6 (upd ((ms_set (ms_set S 6 (upd (S 6) (0 : Int32).toNatClampNeg v1)) 6 (upd ((ms_set S 6 (upd (S 6) (0 : Int32).toNatClampNeg v1)) 6) (1 : Int32).toNatClampNeg v2)) 6) (2 : Int32).toNatClampNeg v3)) 6 (upd ((ms_set (ms_set (ms_set S 6 (upd (S 6) (0 : Int32).toNatClampNeg v1)) 6 (upd ((ms_set S 6 (upd (S 6) (0 : Int32).toNatClampNeg v1)) 6) (1 : Int32).toNatClampNeg v2)) 6 (upd ((ms_set (ms_set S 6 (upd (S 6) (0 : Int32).toNatClampNeg v1)) 6 (upd ((ms_set S 6 (upd (S 6) (0 : Int32).toNatClampNeg v1)) 6) (1 : Int32).toNatClampNeg v2)) 6) (2 : Int32).toNatClampNeg v3)) 6) (3 : Int32).toNatClampNeg v4)) 8 (upd ((ms_set (ms_set (ms_set (ms_set S 6 (upd (S 6) (0 : Int32).toNatClampNeg v1)) 6 (upd ((ms_set S 6 (upd (S 6) (0 : Int32).toNatClampNeg v1)) 6) (1 : Int32).toNatClampNeg v2)) 6 (upd ((ms_set (ms_set S 6 (upd (S 6) (0 : Int32).toNatClampNeg v1)) 6 (upd ((ms_set S 6 (upd (S 6) (0 : Int32).toNatClampNeg v1)) 6) (1 : Int32).toNatClampNeg v2)) 6) (2 : Int32).toNatClampNeg v3)) 6 (upd ((ms_set (ms_set (ms_set S 6 (upd (S 6) (0 : Int32).toNatClampNeg v1)) 6 (upd ((ms_set S 6 (upd (S 6) (0 : Int32).toNatClampNeg v1)) 6) (1 : Int32).toNatClampNeg v2)) 6 (upd ((ms_set (ms_set S 6 (upd (S 6) (0 : Int32).toNatClampNeg v1)) 6 (upd ((ms_set S 6 (upd (S 6) (0 : Int32).toNatClampNeg v1)) 6) (1 : Int32).toNatClampNeg v2)) 6) (2 : Int32).toNatClampNeg v3)) 6) (3 : Int32).toNatClampNeg v4)) 8) 5 v5)))))))
def f8_findRing_b150 (rec2 : Int32 → Int32 → Int32 → ms_T → Option (Int32 × ms_T)) (v1 : Int32) (v2 : Int32) (v3 : Int32) (v4 : Int32) (v5 : Int32) (v6 : Int32) (t0 : Int32) (S : ms_T) : Option (Int32 × ms_T) := ((if t0 = 0 then (rec2 v1 v2 (v3 + (1 : Int32)) S) else (fo_bd (f8_takesRing v1 v4 v5 v6 v2 S) (fun q166 => (some ((1 : Int32), q166))))))
def f8_findRing_b149 (rec2 : Int32 → Int32 → Int32 → ms_T → Option (Int32 × ms_T)) (v1 : Int32) (v2 : Int32) (v3 : Int32) (v4 : Int32) (v5 : Int32) (v6 : Int32) (S : ms_T) : Option (Int32 × ms_T) := (f8_findRing_b150 rec2 v1 v2 v3 v4 v5 v6 (0 : Int32) S)
def f8_findRing_b145 (rec2 : Int32 → Int32 → Int32 → ms_T → Option (Int32 × ms_T)) (v1 : Int32) (v2 : Int32) (v3 : Int32) (v4 : Int32) (v5 : Int32) (v6 : Int32) (S : ms_T) : Option (Int32 × ms_T) := (f8_findRing_b150 rec2 v1 v2 v3 v4 v5 v6 (1 : Int32) S)
def f8_findRing_b110 (rec2 : Int32 → Int32 → Int32 → ms_T → Option (Int32 × ms_T)) (v1 : Int32) (v2 : Int32) (v3 : Int32) (v4 : Int32) (v5 : Int32) (v6 : Int32) (t0 : Int32) (S : ms_T) : Option (Int32 × ms_T) := ((if t0 = 0 then (f8_findRing_b149 rec2 v1 v2 v3 v4 v5 v6 S) else ((if v2 < (4 : Int32) then (f8_findRing_b145 rec2 v1 v2 v3 v4 v5 v6 S) else ((if v6 = v1 then (f8_findRing_b149 rec2 v1 v2 v3 v4 v5 v6 S) else ((if v6 = v4 then (f8_findRing_b149 rec2 v1 v2 v3 v4 v5 v6 S) else ((fo_bd (f8_debtOf v6 v1 (S 0)) (fun q139 => (if q139 ≤ 0 then (f8_findRing_b149 rec2 v1 v2 v3 v4 v5 v6 S) else (f8_findRing_b145 rec2 v1 v2 v3 v4 v5 v6 S)))))))))))))
def f8_findRing_b109 (rec2 : Int32 → Int32 → Int32 → ms_T → Option (Int32 × ms_T)) (v1 : Int32) (v2 : Int32) (v3 : Int32) (v4 : Int32) (v5 : Int32) (v6 : Int32) (S : ms_T) : Option (Int32 × ms_T) := (f8_findRing_b110 rec2 v1 v2 v3 v4 v5 v6 (0 : Int32) S)
def f8_findRing_b105 (rec2 : Int32 → Int32 → Int32 → ms_T → Option (Int32 × ms_T)) (v1 : Int32) (v2 : Int32) (v3 : Int32) (v4 : Int32) (v5 : Int32) (v6 : Int32) (S : ms_T) : Option (Int32 × ms_T) := (f8_findRing_b110 rec2 v1 v2 v3 v4 v5 v6 (1 : Int32) S)
def f8_findRing_b76 (rec2 : Int32 → Int32 → Int32 → ms_T → Option (Int32 × ms_T)) (v1 : Int32) (v2 : Int32) (v3 : Int32) (v4 : Int32) (v5 : Int32) (v6 : Int32) (t0 : Int32) (S : ms_T) : Option (Int32 × ms_T) := ((if t0 = 0 then (f8_findRing_b109 rec2 v1 v2 v3 v4 v5 v6 S) else ((if v2 < (3 : Int32) then (f8_findRing_b105 rec2 v1 v2 v3 v4 v5 v6 S) else ((if v5 = v1 then (f8_findRing_b109 rec2 v1 v2 v3 v4 v5 v6 S) else ((fo_bd (f8_debtOf v5 v6 (S 0)) (fun q99 => (if q99 ≤ 0 then (f8_findRing_b109 rec2 v1 v2 v3 v4 v5 v6 S) else (f8_findRing_b105 rec2 v1 v2 v3 v4 v5 v6 S)))))))))))
def f8_findRing_b75 (rec2 : Int32 → Int32 → Int32 → ms_T → Option (Int32 × ms_T)) (v1 : Int32) (v2 : Int32) (v3 : Int32) (v4 : Int32) (v5 : Int32) (v6 : Int32) (S : ms_T) : Option (Int32 × ms_T) := (f8_findRing_b76 rec2 v1 v2 v3 v4 v5 v6 (0 : Int32) S)
def f8_findRing_b42 (rec2 : Int32 → Int32 → Int32 → ms_T → Option (Int32 × ms_T)) (v1 : Int32) (v2 : Int32) (v3 : Int32) (v4 : Int32) (v5 : Int32) (t0 : Int32) (S : ms_T) : Option (Int32 × ms_T) := ((if v4 = v1 then (f8_findRing_b75 rec2 v1 v2 v3 v4 v5 t0 S) else ((fo_bd (f8_debtOf v1 v4 (S 0)) (fun q54 => (if q54 ≤ 0 then (f8_findRing_b75 rec2 v1 v2 v3 v4 v5 t0 S) else ((fo_bd (f8_debtOf v4 v5 (S 0)) (fun q65 => (if q65 ≤ 0 then (f8_findRing_b75 rec2 v1 v2 v3 v4 v5 t0 S) else (f8_findRing_b76 rec2 v1 v2 v3 v4 v5 t0 (1 : Int32) S)))))))))))
def f8_findRing_b28 (rec2 : Int32 → Int32 → Int32 → ms_T → Option (Int32 × ms_T)) (v1 : Int32) (v2 : Int32) (v3 : Int32) (v4 : Int32) (t0 : Int32) (S : ms_T) : Option (Int32 × ms_T) := ((if v2 ≤ (3 : Int32) then (f8_findRing_b42 rec2 v1 v2 v3 v4 t0 v1 S) else (f8_findRing_b42 rec2 v1 v2 v3 v4 t0 (v3 - v3 / (4 : Int32) * (4 : Int32)) S)))
def f8_findRing_b2 (rec2 : Int32 → Int32 → Int32 → ms_T → Option (Int32 × ms_T)) (v1 : Int32) (v2 : Int32) (v3 : Int32) (S : ms_T) : Option (Int32 × ms_T) := ((if (64 : Int32) ≤ v3 then (some ((0 : Int32), S)) else ((if v2 ≤ (2 : Int32) then (f8_findRing_b28 rec2 v1 v2 v3 (v3 / (16 : Int32)) v1 S) else (f8_findRing_b28 rec2 v1 v2 v3 (v3 / (16 : Int32)) ((v3 / (4 : Int32)) - (v3 / (4 : Int32)) / (4 : Int32) * (4 : Int32)) S)))))
def f8_findRing_L2 : Nat → Int32 → Int32 → Int32 → ms_T → Option (Int32 × ms_T)
  | 0, _, _, _, _ => none
  | n + 1, v1, v2, v3, S => f8_findRing_b2 (f8_findRing_L2 n) v1 v2 v3 S
def f8_findRing (v1 : Int32) (v2 : Int32) (S : ms_T) : Option (Int32 × ms_T) := (f8_findRing_L2 fo_fu v1 v2 (0 : Int32) S)
def f8_clearsRing_b70 (rec70 : Int32 → Int32 → ms_T → Option (Int32 × ms_T)) (v1 : Int32) (v2 : Int32) (S : ms_T) : Option (Int32 × ms_T) := ((if (S 8 5) ≤ v2 then (some (v1, S)) else (fo_ck v2 4 (fo_nz (S 8 5) (fo_ck ((v2 + (1 : Int32)) - (v2 + (1 : Int32)) / (S 8 5) * (S 8 5)) 4 (fo_bd (f8_addsDebt ((S 6) v2.toNatClampNeg) ((S 6) ((v2 + (1 : Int32)) - (v2 + (1 : Int32)) / (S 8 5) * (S 8 5)).toNatClampNeg) (-v1) (S 0)) (fun q100 => (rec70 v1 (v2 + (1 : Int32)) (ms_set S 0 q100)))))))))
def f8_clearsRing_L70 : Nat → Int32 → Int32 → ms_T → Option (Int32 × ms_T)
  | 0, _, _, _ => none
  | n + 1, v1, v2, S => f8_clearsRing_b70 (f8_clearsRing_L70 n) v1 v2 S
def f8_clearsRing_b61 (rec19 : Int32 → Int32 → ms_T → Option (Int32 × ms_T)) (v2 : Int32) (t0 : Int32) (S : ms_T) : Option (Int32 × ms_T) := (rec19 t0 (v2 + (1 : Int32)) S)
def f8_clearsRing_b19 (rec19 : Int32 → Int32 → ms_T → Option (Int32 × ms_T)) (v1 : Int32) (v2 : Int32) (S : ms_T) : Option (Int32 × ms_T) := ((if (S 8 5) ≤ v2 then (f8_clearsRing_L70 fo_fu v1 (0 : Int32) S) else ((fo_ck v2 4 (fo_nz (S 8 5) (fo_ck ((v2 + (1 : Int32)) - (v2 + (1 : Int32)) / (S 8 5) * (S 8 5)) 4 (fo_bd (f8_debtOf ((S 6) v2.toNatClampNeg) ((S 6) ((v2 + (1 : Int32)) - (v2 + (1 : Int32)) / (S 8 5) * (S 8 5)).toNatClampNeg) (S 0)) (fun q47 => (if v1 ≤ q47 then (f8_clearsRing_b61 rec19 v2 v1 S) else (f8_clearsRing_b61 rec19 v2 q47 S))))))))))
def f8_clearsRing_L19 : Nat → Int32 → Int32 → ms_T → Option (Int32 × ms_T)
  | 0, _, _, _ => none
  | n + 1, v1, v2, S => f8_clearsRing_b19 (f8_clearsRing_L19 n) v1 v2 S
def f8_clearsRing (S : ms_T) : Option (Int32 × ms_T) := (fo_ck (0 : Int32) 4 (fo_ck (1 : Int32) 4 (fo_bd (f8_debtOf ((S 6) (0 : Int32).toNatClampNeg) ((S 6) (1 : Int32).toNatClampNeg) (S 0)) (fun q13 => (f8_clearsRing_L19 fo_fu q13 (1 : Int32) S)))))
def f8_clears_b29 (rec2 : Int32 → Int32 → ms_T → Option (Int32 × ms_T)) (v1 : Int32) (v2 : Int32) (S : ms_T) : Option (Int32 × ms_T) := (fo_bd (f8_clearsRing S) (fun q31 => (rec2 v1 (v2 + q31.1) q31.2)))
def f8_clears_b2 (rec2 : Int32 → Int32 → ms_T → Option (Int32 × ms_T)) (v1 : Int32) (v2 : Int32) (S : ms_T) : Option (Int32 × ms_T) := ((fo_bd (f8_findRing v1 (2 : Int32) S) (fun q5 => (if q5.1 = 0 then ((fo_bd (f8_findRing v1 (3 : Int32) q5.2) (fun q14 => (if q14.1 = 0 then ((fo_bd (f8_findRing v1 (4 : Int32) q14.2) (fun q23 => (if q23.1 = 0 then (some (v2, q23.2)) else (f8_clears_b29 rec2 v1 v2 q23.2))))) else (f8_clears_b29 rec2 v1 v2 q14.2))))) else (f8_clears_b29 rec2 v1 v2 q5.2)))))
def f8_clears_L2 : Nat → Int32 → Int32 → ms_T → Option (Int32 × ms_T)
  | 0, _, _, _ => none
  | n + 1, v1, v2, S => f8_clears_b2 (f8_clears_L2 n) v1 v2 S
def f8_clears (v1 : Int32) (S : ms_T) : Option (Int32 × ms_T) := (f8_clears_L2 fo_fu v1 (0 : Int32) S)
def f8_clear (v1 : Int32) (S : ms_T) : Option (Int32 × ms_T) := ((fo_bd (f8_isPlayer v1 (S 0)) (fun q2 => (if q2 = 0 then (some ((-1 : Int32), S)) else (fo_bd (f8_record S) (fun q11 => (fo_bd (f8_clears v1 q11) (fun q16 => (some (q16.1, q16.2))))))))))
def f8_writesSign_b20 (t1 : Int32) (S : ms_T) : Option ms_T := (some (ms_set (ms_set S 8 (upd (S 8) 4 t1)) 8 (upd ((ms_set S 8 (upd (S 8) 4 t1)) 8) 2 (((ms_set S 8 (upd (S 8) 4 t1)) 8 2) + (1 : Int32)))))
def f8_writesSign (v1 : Int32) (S : ms_T) : Option ms_T := ((if (S 8 2) = (S 8 3) then (f8_writesSign_b20 v1 S) else (f8_writesSign_b20 (S 8 4) S)))
def f8_writesSquare_b122 (rec93 : Int32 → Int32 → ms_T → Option ms_T) (v1 : Int32) (v2 : Int32) (S : ms_T) : Option ms_T := (rec93 v1 (v2 + (1 : Int32)) S)
def f8_writesSquare_b93 (rec93 : Int32 → Int32 → ms_T → Option ms_T) (v1 : Int32) (v2 : Int32) (S : ms_T) : Option ms_T := ((fo_ck (6 : Int32) 107 (if ((S 0) (6 : Int32).toNatClampNeg) ≤ v2 then (some S) else ((fo_bd (f8_playerPart v2 (1 : Int32) (S 0)) (fun q107 => (if q107 = v1 then (fo_bd (f8_writesSign ((65 : Int32) + v2) S) (fun q119 => (f8_writesSquare_b122 rec93 v1 v2 q119))) else (f8_writesSquare_b122 rec93 v1 v2 S))))))))
def f8_writesSquare_L93 : Nat → Int32 → Int32 → ms_T → Option ms_T
  | 0, _, _, _ => none
  | n + 1, v1, v2, S => f8_writesSquare_b93 (f8_writesSquare_L93 n) v1 v2 S
def f8_writesSquare_b91 (v1 : Int32) (S : ms_T) : Option ms_T := (f8_writesSquare_L93 fo_fu v1 (0 : Int32) S)
def f8_writesSquare_b61 (v1 : Int32) (S : ms_T) : Option ms_T := ((fo_ck ((31 : Int32) + v1) 107 (if ((S 0) ((31 : Int32) + v1).toNatClampNeg) = (-6 : Int32) then (f8_writesSquare_b91 v1 S) else (fo_ck ((31 : Int32) + v1) 107 (fo_bd (f8_writesSign ((97 : Int32) + ((S 0) ((31 : Int32) + v1).toNatClampNeg)) S) (fun q88 => (f8_writesSquare_b91 v1 q88)))))))
def f8_writesSquare_b28 (v1 : Int32) (t1 : Int32) (S : ms_T) : Option ms_T := ((fo_bd (f8_writesSign t1 S) (fun q28 => (fo_ck ((11 : Int32) + v1) 107 (if ((q28 0) ((11 : Int32) + v1).toNatClampNeg) = (-6 : Int32) then (f8_writesSquare_b61 v1 q28) else (fo_ck ((11 : Int32) + v1) 107 (fo_bd (f8_writesSign ((97 : Int32) + ((q28 0) ((11 : Int32) + v1).toNatClampNeg)) q28) (fun q58 => (f8_writesSquare_b61 v1 q58)))))))))
def f8_writesSquare (v1 : Int32) (S : ms_T) : Option ms_T := ((fo_bd (f8_sortOf v1) (fun q2 => (if q2 = 0 then (f8_writesSquare_b28 v1 (111 : Int32) S) else ((fo_bd (f8_sortOf v1) (fun q14 => (if q14 = (1 : Int32) then (f8_writesSquare_b28 v1 (45 : Int32) S) else (f8_writesSquare_b28 v1 (61 : Int32) S)))))))))
def f8_writes_b17 (rec17 : Int32 → ms_T → Option ms_T) (v2 : Int32) (S : ms_T) : Option ms_T := ((if (20 : Int32) ≤ v2 then (some S) else (fo_bd (f8_writesSquare v2 S) (fun q25 => (rec17 (v2 + (1 : Int32)) q25)))))
def f8_writes_L17 : Nat → Int32 → ms_T → Option ms_T
  | 0, _, _ => none
  | n + 1, v2, S => f8_writes_b17 (f8_writes_L17 n) v2 S
def f8_writes (v1 : Int32) (S : ms_T) : Option ms_T := (f8_writes_L17 fo_fu (0 : Int32) (ms_set (ms_set (ms_set S 8 (upd (S 8) 2 (0 : Int32))) 8 (upd ((ms_set S 8 (upd (S 8) 2 (0 : Int32))) 8) 3 v1)) 8 (upd ((ms_set (ms_set S 8 (upd (S 8) 2 (0 : Int32))) 8 (upd ((ms_set S 8 (upd (S 8) 2 (0 : Int32))) 8) 3 v1)) 8) 4 (-1 : Int32))))
def f8_count (v1 : Int32) (S : ms_T) : Option (Int32 × ms_T) := ((fo_bd (f8_within v1 (9 : Int32) (13 : Int32)) (fun q5 => (if q5 = 0 then ((if v1 = (0 : Int32) then (fo_ck (5 : Int32) 107 (some (((S 0) (5 : Int32).toNatClampNeg), S))) else if v1 = (1 : Int32) then (fo_ck (6 : Int32) 107 (some (((S 0) (6 : Int32).toNatClampNeg), S))) else if v1 = (2 : Int32) then ((fo_ck (6 : Int32) 107 (if ((S 0) (6 : Int32).toNatClampNeg) = 0 then (some ((-6 : Int32), S)) else (fo_ck (7 : Int32) 107 (some (((S 0) (7 : Int32).toNatClampNeg), S)))))) else if v1 = (3 : Int32) then (fo_bd (f8_debtsMany (S 0)) (fun q143 => (some (q143, S)))) else if v1 = (4 : Int32) then (fo_bd (f8_sumOf (0 : Int32) (S 0)) (fun q149 => (some (q149, S)))) else if v1 = (5 : Int32) then (fo_bd (f8_sumOfDebts (S 0)) (fun q154 => (some (q154, S)))) else if v1 = (6 : Int32) then (fo_ck (9 : Int32) 107 (some (((S 0) (9 : Int32).toNatClampNeg), S))) else if v1 = (7 : Int32) then (fo_ck (10 : Int32) 107 (some (((S 0) (10 : Int32).toNatClampNeg), S))) else if v1 = (8 : Int32) then (fo_ck (8 : Int32) 107 (some (((S 0) (8 : Int32).toNatClampNeg), S))) else if v1 = (9 : Int32) then (some ((-2 : Int32), S)) else if v1 = (10 : Int32) then (some ((-2 : Int32), S)) else if v1 = (11 : Int32) then (some ((-2 : Int32), S)) else if v1 = (12 : Int32) then (some ((-2 : Int32), S)) else if v1 = (13 : Int32) then (some ((-2 : Int32), S)) else if v1 = (14 : Int32) then (fo_bd (f8_writes (-6 : Int32) S) (fun q185 => (some ((q185 8 2), q185)))) else if v1 = (15 : Int32) then (some ((S 8 1), S)) else if v1 = (16 : Int32) then (some ((S 8 0), S)) else (some ((-2 : Int32), S)))) else (fo_ck (v1 - (9 : Int32)) 107 (some (((S 0) (v1 - (9 : Int32)).toNatClampNeg), S)))))))
def f8_sign (v1 : Int32) (S : ms_T) : Option (Int32 × ms_T) := (fo_bd (f8_writes v1 S) (fun q2 => (some ((q2 8 4), q2))))
def f8_chain_b184 (rec65 : Int32 → Int32 → ms_T → Option (Int32 × ms_T)) (rec73 : Int32 → Int32 → Int32 → ms_T → Option (Int32 × ms_T)) (v2 : Int32) (v3 : Int32) (v4 : Int32) (S : ms_T) : Option (Int32 × ms_T) := (rec73 v2 v3 (v4 + (1 : Int32)) S)
def f8_chain_b177 (rec65 : Int32 → Int32 → ms_T → Option (Int32 × ms_T)) (rec73 : Int32 → Int32 → Int32 → ms_T → Option (Int32 × ms_T)) (rec82 : Int32 → Int32 → Int32 → Int32 → ms_T → Option (Int32 × ms_T)) (v2 : Int32) (v3 : Int32) (v4 : Int32) (v5 : Int32) (t1 : Int32) (t2 : Int32) (S : ms_T) : Option (Int32 × ms_T) := (fo_ck t1 4 (rec82 v2 v3 v4 (v5 + (1 : Int32)) (ms_set S 7 (upd (S 7) t1.toNatClampNeg t2))))
def f8_chain_b145 (rec65 : Int32 → Int32 → ms_T → Option (Int32 × ms_T)) (rec73 : Int32 → Int32 → Int32 → ms_T → Option (Int32 × ms_T)) (rec82 : Int32 → Int32 → Int32 → Int32 → ms_T → Option (Int32 × ms_T)) (v2 : Int32) (v3 : Int32) (v4 : Int32) (v5 : Int32) (t0 : Int32) (S : ms_T) : Option (Int32 × ms_T) := ((if t0 = 0 then (fo_ck v5 4 (f8_chain_b177 rec65 rec73 rec82 v2 v3 v4 v5 v5 ((S 7) v5.toNatClampNeg) S)) else (fo_ck v4 4 (f8_chain_b177 rec65 rec73 rec82 v2 v3 v4 v5 v5 (((S 7) v4.toNatClampNeg) + (1 : Int32)) S))))
def f8_chain_b144 (rec65 : Int32 → Int32 → ms_T → Option (Int32 × ms_T)) (rec73 : Int32 → Int32 → Int32 → ms_T → Option (Int32 × ms_T)) (rec82 : Int32 → Int32 → Int32 → Int32 → ms_T → Option (Int32 × ms_T)) (v2 : Int32) (v3 : Int32) (v4 : Int32) (v5 : Int32) (S : ms_T) : Option (Int32 × ms_T) := (f8_chain_b145 rec65 rec73 rec82 v2 v3 v4 v5 (0 : Int32) S)
def f8_chain_b140 (rec65 : Int32 → Int32 → ms_T → Option (Int32 × ms_T)) (rec73 : Int32 → Int32 → Int32 → ms_T → Option (Int32 × ms_T)) (rec82 : Int32 → Int32 → Int32 → Int32 → ms_T → Option (Int32 × ms_T)) (v2 : Int32) (v3 : Int32) (v4 : Int32) (v5 : Int32) (S : ms_T) : Option (Int32 × ms_T) := (f8_chain_b145 rec65 rec73 rec82 v2 v3 v4 v5 (1 : Int32) S)
def f8_chain_b82 (rec65 : Int32 → Int32 → ms_T → Option (Int32 × ms_T)) (rec73 : Int32 → Int32 → Int32 → ms_T → Option (Int32 × ms_T)) (rec82 : Int32 → Int32 → Int32 → Int32 → ms_T → Option (Int32 × ms_T)) (v2 : Int32) (v3 : Int32) (v4 : Int32) (v5 : Int32) (S : ms_T) : Option (Int32 × ms_T) := ((if (4 : Int32) ≤ v5 then (f8_chain_b184 rec65 rec73 v2 v3 v4 S) else ((fo_ck v4 4 (if ((S 7) v4.toNatClampNeg) ≤ 0 then (f8_chain_b184 rec65 rec73 v2 v3 v4 S) else ((fo_bd (f8_debtOf v4 v5 (S 0)) (fun q103 => (if q103 ≤ 0 then (f8_chain_b144 rec65 rec73 rec82 v2 v3 v4 v5 S) else ((fo_ck v5 4 (if ((S 7) v5.toNatClampNeg) = (-6 : Int32) then (f8_chain_b140 rec65 rec73 rec82 v2 v3 v4 v5 S) else ((fo_ck v4 4 (fo_ck v5 4 (if ((S 7) v5.toNatClampNeg) ≤ (((S 7) v4.toNatClampNeg) + (1 : Int32)) then (f8_chain_b144 rec65 rec73 rec82 v2 v3 v4 v5 S) else (f8_chain_b140 rec65 rec73 rec82 v2 v3 v4 v5 S)))))))))))))))))
def f8_chain_L82 (rec65 : Int32 → Int32 → ms_T → Option (Int32 × ms_T)) (rec73 : Int32 → Int32 → Int32 → ms_T → Option (Int32 × ms_T)) : Nat → Int32 → Int32 → Int32 → Int32 → ms_T → Option (Int32 × ms_T)
  | 0, _, _, _, _, _ => none
  | n + 1, v2, v3, v4, v5, S => f8_chain_b82 rec65 rec73 (f8_chain_L82 rec65 rec73 n) v2 v3 v4 v5 S
def f8_chain_b73 (rec65 : Int32 → Int32 → ms_T → Option (Int32 × ms_T)) (rec73 : Int32 → Int32 → Int32 → ms_T → Option (Int32 × ms_T)) (v2 : Int32) (v3 : Int32) (v4 : Int32) (S : ms_T) : Option (Int32 × ms_T) := ((if (4 : Int32) ≤ v4 then (rec65 v2 (v3 + (1 : Int32)) S) else (f8_chain_L82 rec65 rec73 fo_fu v2 v3 v4 (0 : Int32) S)))
def f8_chain_L73 (rec65 : Int32 → Int32 → ms_T → Option (Int32 × ms_T)) : Nat → Int32 → Int32 → Int32 → ms_T → Option (Int32 × ms_T)
  | 0, _, _, _, _ => none
  | n + 1, v2, v3, v4, S => f8_chain_b73 rec65 (f8_chain_L73 rec65 n) v2 v3 v4 S
def f8_chain_b65 (rec65 : Int32 → Int32 → ms_T → Option (Int32 × ms_T)) (v2 : Int32) (v3 : Int32) (S : ms_T) : Option (Int32 × ms_T) := ((if (4 : Int32) ≤ v3 then (fo_ck v2 4 (some (((S 7) v2.toNatClampNeg), S))) else (f8_chain_L73 rec65 fo_fu v2 v3 (0 : Int32) S)))
def f8_chain_L65 : Nat → Int32 → Int32 → ms_T → Option (Int32 × ms_T)
  | 0, _, _, _ => none
  | n + 1, v2, v3, S => f8_chain_b65 (f8_chain_L65 n) v2 v3 S
def f8_chain_b56 (rec20 : Int32 → Int32 → Int32 → ms_T → Option (Int32 × ms_T)) (v1 : Int32) (v2 : Int32) (v3 : Int32) (t1 : Int32) (t2 : Int32) (S : ms_T) : Option (Int32 × ms_T) := (fo_ck t1 4 (rec20 v1 v2 (v3 + (1 : Int32)) (ms_set S 7 (upd (S 7) t1.toNatClampNeg t2))))
def f8_chain_b54 (rec20 : Int32 → Int32 → Int32 → ms_T → Option (Int32 × ms_T)) (v1 : Int32) (v2 : Int32) (v3 : Int32) (t1 : Int32) (S : ms_T) : Option (Int32 × ms_T) := (f8_chain_b56 rec20 v1 v2 v3 t1 (-6 : Int32) S)
def f8_chain_b20 (rec20 : Int32 → Int32 → Int32 → ms_T → Option (Int32 × ms_T)) (v1 : Int32) (v2 : Int32) (v3 : Int32) (S : ms_T) : Option (Int32 × ms_T) := ((if (4 : Int32) ≤ v3 then (f8_chain_L65 fo_fu v2 (0 : Int32) S) else ((fo_ck (6 : Int32) 107 (if ((S 0) (6 : Int32).toNatClampNeg) ≤ v3 then (f8_chain_b54 rec20 v1 v2 v3 v3 S) else ((fo_bd (f8_debtOf v1 v3 (S 0)) (fun q44 => (if q44 ≤ 0 then (f8_chain_b54 rec20 v1 v2 v3 v3 S) else (f8_chain_b56 rec20 v1 v2 v3 v3 (1 : Int32) S))))))))))
def f8_chain_L20 : Nat → Int32 → Int32 → Int32 → ms_T → Option (Int32 × ms_T)
  | 0, _, _, _, _ => none
  | n + 1, v1, v2, v3, S => f8_chain_b20 (f8_chain_L20 n) v1 v2 v3 S
def f8_chain (v1 : Int32) (v2 : Int32) (S : ms_T) : Option (Int32 × ms_T) := ((fo_bd (f8_isPlayer v1 (S 0)) (fun q2 => (if q2 = 0 then (some ((-1 : Int32), S)) else ((fo_bd (f8_isPlayer v2 (S 0)) (fun q10 => (if q10 = 0 then (some ((-1 : Int32), S)) else (f8_chain_L20 fo_fu v1 v2 (0 : Int32) S)))))))))
def f8_emptyIn_b66 (t0 : Int32) (S : ms_T) : Option (Int32 × ms_T) := (fo_bd (f8_moves 107 107 (S 1) (0 : Int32) (0 : Int32) (S 0)) (fun q77 => (some (t0, (ms_set S 0 q77)))))
def f8_emptyIn_b51 (v1 : Int32) (v2 : Int32) (S : ms_T) : Option (Int32 × ms_T) := ((fo_bd (f8_playerPart v1 (0 : Int32) (S 0)) (fun q54 => (if q54 = 0 then (f8_emptyIn_b66 v2 S) else (f8_emptyIn_b66 (-6 : Int32) S)))))
def f8_emptyIn_b25 (rec25 : Int32 → Int32 → ms_T → Option (Int32 × ms_T)) (v1 : Int32) (v2 : Int32) (S : ms_T) : Option (Int32 × ms_T) := ((fo_bd (f8_playerPart v1 (0 : Int32) (S 0)) (fun q28 => (if q28 ≤ 0 then (f8_emptyIn_b51 v1 v2 S) else ((if (400 : Int32) ≤ v2 then (f8_emptyIn_b51 v1 v2 S) else (fo_bd (f8_turn (S 0)) (fun q42 => (rec25 v1 (v2 + (1 : Int32)) (ms_set S 0 q42))))))))))
def f8_emptyIn_L25 : Nat → Int32 → Int32 → ms_T → Option (Int32 × ms_T)
  | 0, _, _, _ => none
  | n + 1, v1, v2, S => f8_emptyIn_b25 (f8_emptyIn_L25 n) v1 v2 S
def f8_emptyIn (v1 : Int32) (S : ms_T) : Option (Int32 × ms_T) := ((fo_bd (f8_isPlayer v1 (S 0)) (fun q2 => (if q2 = 0 then (some ((-1 : Int32), S)) else (fo_bd (f8_moves 107 107 (S 0) (0 : Int32) (0 : Int32) (S 1)) (fun q20 => (f8_emptyIn_L25 fo_fu v1 (0 : Int32) (ms_set S 1 q20))))))))
def f8_purseIn (v1 : Int32) (v2 : Int32) (S : ms_T) : Option (Int32 × ms_T) := ((fo_bd (f8_isPlayer v1 (S 0)) (fun q2 => (if q2 = 0 then (some ((-1 : Int32), S)) else ((fo_bd (f8_within v2 (1 : Int32) (99 : Int32)) (fun q14 => (if q14 = 0 then (some ((-2 : Int32), S)) else (fo_bd (f8_moves 107 107 (S 0) (0 : Int32) (0 : Int32) (S 1)) (fun q33 => (fo_bd (f8_doTurns v2 ((ms_set S 1 q33) 0)) (fun q38 => (fo_bd (f8_playerPart v1 (0 : Int32) ((ms_set (ms_set S 1 q33) 0 q38.2) 0)) (fun q45 => (fo_bd (f8_moves 107 107 ((ms_set (ms_set S 1 q33) 0 q38.2) 1) (0 : Int32) (0 : Int32) ((ms_set (ms_set S 1 q33) 0 q38.2) 0)) (fun q59 => (some (q45, (ms_set (ms_set (ms_set S 1 q33) 0 q38.2) 0 q59)))))))))))))))))))
def f8_bestSeed_b144 (rec45 : Int32 → Int32 → Int32 → Int32 → Int32 → ms_T → Option (Int32 × ms_T)) (v1 : Int32) (v2 : Int32) (v3 : Int32) (v5 : Int32) (t0 : Int32) (S : ms_T) : Option (Int32 × ms_T) := (rec45 v1 v2 v3 t0 (v5 + (1 : Int32)) S)
def f8_bestSeed_b131 (rec45 : Int32 → Int32 → Int32 → Int32 → Int32 → ms_T → Option (Int32 × ms_T)) (v1 : Int32) (v2 : Int32) (v4 : Int32) (v5 : Int32) (v6 : Int32) (v7 : Int32) (t0 : Int32) (S : ms_T) : Option (Int32 × ms_T) := ((if v7 = 0 then (f8_bestSeed_b144 rec45 v1 v2 t0 v5 v4 S) else (f8_bestSeed_b144 rec45 v1 v2 t0 v5 v6 S)))
def f8_bestSeed_b118 (rec45 : Int32 → Int32 → Int32 → Int32 → Int32 → ms_T → Option (Int32 × ms_T)) (v1 : Int32) (v2 : Int32) (v3 : Int32) (v4 : Int32) (v5 : Int32) (v6 : Int32) (t0 : Int32) (S : ms_T) : Option (Int32 × ms_T) := ((if t0 = 0 then (f8_bestSeed_b131 rec45 v1 v2 v4 v5 v6 t0 v3 S) else (f8_bestSeed_b131 rec45 v1 v2 v4 v5 v6 t0 v5 S)))
def f8_bestSeed_b113 (rec45 : Int32 → Int32 → Int32 → Int32 → Int32 → ms_T → Option (Int32 × ms_T)) (v1 : Int32) (v2 : Int32) (v3 : Int32) (v4 : Int32) (v5 : Int32) (v6 : Int32) (S : ms_T) : Option (Int32 × ms_T) := (f8_bestSeed_b118 rec45 v1 v2 v3 v4 v5 v6 (1 : Int32) S)
def f8_bestSeed_b45 (rec45 : Int32 → Int32 → Int32 → Int32 → Int32 → ms_T → Option (Int32 × ms_T)) (v1 : Int32) (v2 : Int32) (v3 : Int32) (v4 : Int32) (v5 : Int32) (S : ms_T) : Option (Int32 × ms_T) := ((if (50 : Int32) ≤ v5 then (some (v3, S)) else ((fo_ck (8 : Int32) 107 (fo_bd (f8_doTurns v2 ((ms_set S 0 (upd (S 0) (8 : Int32).toNatClampNeg v5)) 0)) (fun q63 => (fo_bd (f8_playerPart v1 (0 : Int32) ((ms_set (ms_set S 0 (upd (S 0) (8 : Int32).toNatClampNeg v5)) 0 q63.2) 0)) (fun q70 => (fo_bd (f8_owedTo v1 ((ms_set (ms_set S 0 (upd (S 0) (8 : Int32).toNatClampNeg v5)) 0 q63.2) 0)) (fun q75 => (fo_bd (f8_owedBy v1 ((ms_set (ms_set S 0 (upd (S 0) (8 : Int32).toNatClampNeg v5)) 0 q63.2) 0)) (fun q81 => (fo_bd (f8_moves 107 107 ((ms_set (ms_set S 0 (upd (S 0) (8 : Int32).toNatClampNeg v5)) 0 q63.2) 1) (0 : Int32) (0 : Int32) ((ms_set (ms_set S 0 (upd (S 0) (8 : Int32).toNatClampNeg v5)) 0 q63.2) 0)) (fun q97 => (if v3 = (-6 : Int32) then (f8_bestSeed_b113 rec45 v1 v2 v3 v4 v5 ((q70 + q75) - q81) (ms_set (ms_set (ms_set S 0 (upd (S 0) (8 : Int32).toNatClampNeg v5)) 0 q63.2) 0 q97)) else ((if ((q70 + q75) - q81) ≤ v4 then (f8_bestSeed_b118 rec45 v1 v2 v3 v4 v5 ((q70 + q75) - q81) (0 : Int32) (ms_set (ms_set (ms_set S 0 (upd (S 0) (8 : Int32).toNatClampNeg v5)) 0 q63.2) 0 q97)) else (f8_bestSeed_b113 rec45 v1 v2 v3 v4 v5 ((q70 + q75) - q81) (ms_set (ms_set (ms_set S 0 (upd (S 0) (8 : Int32).toNatClampNeg v5)) 0 q63.2) 0 q97)))))))))))))))))))
def f8_bestSeed_L45 : Nat → Int32 → Int32 → Int32 → Int32 → Int32 → ms_T → Option (Int32 × ms_T)
  | 0, _, _, _, _, _, _ => none
  | n + 1, v1, v2, v3, v4, v5, S => f8_bestSeed_b45 (f8_bestSeed_L45 n) v1 v2 v3 v4 v5 S
def f8_bestSeed (v1 : Int32) (v2 : Int32) (S : ms_T) : Option (Int32 × ms_T) := ((fo_bd (f8_isPlayer v1 (S 0)) (fun q2 => (if q2 = 0 then (some ((-1 : Int32), S)) else ((fo_bd (f8_within v2 (1 : Int32) (60 : Int32)) (fun q14 => (if q14 = 0 then (some ((-2 : Int32), S)) else (fo_bd (f8_moves 107 107 (S 0) (0 : Int32) (0 : Int32) (S 1)) (fun q33 => (f8_bestSeed_L45 fo_fu v1 v2 (-6 : Int32) (0 : Int32) (0 : Int32) (ms_set S 1 q33))))))))))))
def f8_put_b105 (rec105 : Int64 → Int32 → ms_T → Option (Int32 × ms_T)) (v1 : Int64) (v7 : Int32) (S : ms_T) : Option (Int32 × ms_T) := ((if v7 < 0 then (some ((S 8 1), S)) else (fo_ck (S 8 1) 80 (rec105 v1 (v7 + (-1 : Int32)) (ms_set (ms_set S 5 (upd (S 5) (S 8 1).toNatClampNeg ((((v1.toUInt64 >>> (((8 : Int32) * v7).toInt64.toUInt64 &&& Int64.toUInt64 63)).toInt64) &&& (255 : Int64)).toInt32))) 8 (upd ((ms_set S 5 (upd (S 5) (S 8 1).toNatClampNeg ((((v1.toUInt64 >>> (((8 : Int32) * v7).toInt64.toUInt64 &&& Int64.toUInt64 63)).toInt64) &&& (255 : Int64)).toInt32))) 8) 1 (((ms_set S 5 (upd (S 5) (S 8 1).toNatClampNeg ((((v1.toUInt64 >>> (((8 : Int32) * v7).toInt64.toUInt64 &&& Int64.toUInt64 63)).toInt64) &&& (255 : Int64)).toInt32))) 8 1) + (1 : Int32))))))))
def f8_put_L105 : Nat → Int64 → Int32 → ms_T → Option (Int32 × ms_T)
  | 0, _, _, _ => none
  | n + 1, v1, v7, S => f8_put_b105 (f8_put_L105 n) v1 v7 S
def f8_put_b67 (v1 : Int64) (v3 : Int32) (v4 : Int64) (v6 : Int32) (S : ms_T) : Option (Int32 × ms_T) := ((if v3 = 0 then (some ((-2 : Int32), S)) else ((if v6 = 0 then (some ((-2 : Int32), S)) else ((if (lg_cmp v4 (0 : Int64)) = 0 then ((if ((S 8 1) + v3) ≤ (80 : Int32) then (f8_put_L105 fo_fu v1 (v3 - (1 : Int32)) S) else (some ((-4 : Int32), S)))) else (some ((-2 : Int32), S))))))))
def f8_put_b52 (rec8 : Int64 → Int32 → Int64 → Int32 → ms_T → Option (Int32 × ms_T)) (v1 : Int64) (v3 : Int32) (v4 : Int64) (t0 : Int32) (S : ms_T) : Option (Int32 × ms_T) := (rec8 v1 (v3 + (1 : Int32)) ((v4.toUInt64 >>> ((8 : Int32).toInt64.toUInt64 &&& Int64.toUInt64 63)).toInt64) t0 S)
def f8_put_b51 (rec8 : Int64 → Int32 → Int64 → Int32 → ms_T → Option (Int32 × ms_T)) (v1 : Int64) (v3 : Int32) (v4 : Int64) (S : ms_T) : Option (Int32 × ms_T) := (f8_put_b52 rec8 v1 v3 v4 (0 : Int32) S)
def f8_put_b8 (rec8 : Int64 → Int32 → Int64 → Int32 → ms_T → Option (Int32 × ms_T)) (v1 : Int64) (v3 : Int32) (v4 : Int64) (v6 : Int32) (S : ms_T) : Option (Int32 × ms_T) := ((if (8 : Int32) ≤ v3 then (f8_put_b67 v1 v3 v4 v6 S) else ((if (lg_cmp (v4 &&& (255 : Int64)) (0 : Int64)) = 0 then (f8_put_b67 v1 v3 v4 v6 S) else ((if v6 = 0 then (f8_put_b51 rec8 v1 v3 v4 S) else ((fo_bd (f8_within ((v4 &&& (255 : Int64)).toInt32) (33 : Int32) (126 : Int32)) (fun q41 => (if q41 = 0 then (f8_put_b51 rec8 v1 v3 v4 S) else (f8_put_b52 rec8 v1 v3 v4 (1 : Int32) S)))))))))))
def f8_put_L8 : Nat → Int64 → Int32 → Int64 → Int32 → ms_T → Option (Int32 × ms_T)
  | 0, _, _, _, _, _ => none
  | n + 1, v1, v3, v4, v6, S => f8_put_b8 (f8_put_L8 n) v1 v3 v4 v6 S
def f8_put (v1 : Int64) (S : ms_T) : Option (Int32 × ms_T) := (f8_put_L8 fo_fu v1 (0 : Int32) v1 (1 : Int32) S)
def f8_wipe (S : ms_T) : Option (Int32 × ms_T) := (some ((S 8 1), (ms_set S 8 (upd (S 8) 1 (0 : Int32)))))
def f8_character (v1 : Int32) (S : ms_T) : Option Int32 := ((if (S 8 1) ≤ v1 then (some (-1 : Int32)) else (fo_ck v1 80 (some ((S 5) v1.toNatClampNeg)))))
def f8_isNext_b32 (v2 : Int32) (t1 : Int32) (t2 : Int32) (S : ms_T) : Option (Int32 × ms_T) := (fo_zz v2 (some (v2, (ms_set S 8 (upd (S 8) 6 (t1 + t2))))))
def f8_isNext_b17 (t0 : Int32) (S : ms_T) : Option (Int32 × ms_T) := ((if t0 = 0 then (f8_isNext_b32 t0 (S 8 6) (0 : Int32) S) else (f8_isNext_b32 t0 (S 8 6) (1 : Int32) S)))
def f8_isNext (v1 : Int32) (S : ms_T) : Option (Int32 × ms_T) := ((fo_bd (f8_character (S 8 6) S) (fun q5 => (if q5 = v1 then (f8_isNext_b17 (1 : Int32) S) else (f8_isNext_b17 (0 : Int32) S)))))
def f8_isDigit (S : ms_T) : Option Int32 := (fo_bd (f8_character (S 8 6) S) (fun q5 => (fo_bd (f8_within q5 (48 : Int32) (57 : Int32)) (fun q12 => (fo_zz q12 (some q12))))))
def f8_takesNumber_b34 (rec34 : Int32 → ms_T → Option (Int32 × ms_T)) (v1 : Int32) (S : ms_T) : Option (Int32 × ms_T) := ((if (S 8 8) ≤ 0 then (some ((1 : Int32), S)) else ((if v1 ≤ ((10 : Int32) * (S 8 8)) then (some ((1 : Int32), S)) else ((fo_bd (f8_isDigit S) (fun q53 => (if q53 = 0 then (some ((1 : Int32), S)) else (fo_bd (f8_character (S 8 6) S) (fun q72 => (rec34 v1 (ms_set (ms_set S 8 (upd (S 8) 8 ((((10 : Int32) * (S 8 8)) + q72) - (48 : Int32)))) 8 (upd ((ms_set S 8 (upd (S 8) 8 ((((10 : Int32) * (S 8 8)) + q72) - (48 : Int32)))) 8) 6 (((ms_set S 8 (upd (S 8) 8 ((((10 : Int32) * (S 8 8)) + q72) - (48 : Int32)))) 8 6) + (1 : Int32)))))))))))))))
def f8_takesNumber_L34 : Nat → Int32 → ms_T → Option (Int32 × ms_T)
  | 0, _, _ => none
  | n + 1, v1, S => f8_takesNumber_b34 (f8_takesNumber_L34 n) v1 S
def f8_takesNumber (v1 : Int32) (S : ms_T) : Option (Int32 × ms_T) := ((fo_bd (f8_isDigit S) (fun q1 => (if q1 = 0 then (some ((0 : Int32), S)) else (fo_bd (f8_character (S 8 6) S) (fun q15 => (f8_takesNumber_L34 fo_fu v1 (ms_set (ms_set S 8 (upd (S 8) 8 (q15 - (48 : Int32)))) 8 (upd ((ms_set S 8 (upd (S 8) 8 (q15 - (48 : Int32)))) 8) 6 (((ms_set S 8 (upd (S 8) 8 (q15 - (48 : Int32)))) 8 6) + (1 : Int32)))))))))))
def f8_readsOrder (S : ms_T) : Option (Int32 × ms_T) := ((fo_bd (f8_character (S 8 6) S) (fun q6 => (if ((ms_set (ms_set S 8 (upd (S 8) 7 q6)) 8 (upd ((ms_set S 8 (upd (S 8) 7 q6)) 8) 6 (((ms_set S 8 (upd (S 8) 7 q6)) 8 6) + (1 : Int32)))) 8 7) = (99 : Int32) then (fo_bd (f8_takesNumber (10 : Int32) (ms_set (ms_set S 8 (upd (S 8) 7 q6)) 8 (upd ((ms_set S 8 (upd (S 8) 7 q6)) 8) 6 (((ms_set S 8 (upd (S 8) 7 q6)) 8 6) + (1 : Int32))))) (fun q79 => (fo_zz q79.1 (some (q79.1, q79.2))))) else if ((ms_set (ms_set S 8 (upd (S 8) 7 q6)) 8 (upd ((ms_set S 8 (upd (S 8) 7 q6)) 8) 6 (((ms_set S 8 (upd (S 8) 7 q6)) 8 6) + (1 : Int32)))) 8 7) = (112 : Int32) then (fo_bd (f8_takesNumber (10000 : Int32) (ms_set (ms_set S 8 (upd (S 8) 7 q6)) 8 (upd ((ms_set S 8 (upd (S 8) 7 q6)) 8) 6 (((ms_set S 8 (upd (S 8) 7 q6)) 8 6) + (1 : Int32))))) (fun q72 => (fo_zz q72.1 (some (q72.1, q72.2))))) else if ((ms_set (ms_set S 8 (upd (S 8) 7 q6)) 8 (upd ((ms_set S 8 (upd (S 8) 7 q6)) 8) 6 (((ms_set S 8 (upd (S 8) 7 q6)) 8 6) + (1 : Int32)))) 8 7) = (116 : Int32) then (fo_bd (f8_takesNumber (10000 : Int32) (ms_set (ms_set S 8 (upd (S 8) 7 q6)) 8 (upd ((ms_set S 8 (upd (S 8) 7 q6)) 8) 6 (((ms_set S 8 (upd (S 8) 7 q6)) 8 6) + (1 : Int32))))) (fun q72 => (fo_zz q72.1 (some (q72.1, q72.2))))) else if ((ms_set (ms_set S 8 (upd (S 8) 7 q6)) 8 (upd ((ms_set S 8 (upd (S 8) 7 q6)) 8) 6 (((ms_set S 8 (upd (S 8) 7 q6)) 8 6) + (1 : Int32)))) 8 7) = (120 : Int32) then (fo_bd (f8_takesNumber (10000 : Int32) (ms_set (ms_set S 8 (upd (S 8) 7 q6)) 8 (upd ((ms_set S 8 (upd (S 8) 7 q6)) 8) 6 (((ms_set S 8 (upd (S 8) 7 q6)) 8 6) + (1 : Int32))))) (fun q72 => (fo_zz q72.1 (some (q72.1, q72.2))))) else (some ((0 : Int32), (ms_set (ms_set (ms_set S 8 (upd (S 8) 7 q6)) 8 (upd ((ms_set S 8 (upd (S 8) 7 q6)) 8) 6 (((ms_set S 8 (upd (S 8) 7 q6)) 8 6) + (1 : Int32)))) 8 (upd ((ms_set (ms_set S 8 (upd (S 8) 7 q6)) 8 (upd ((ms_set S 8 (upd (S 8) 7 q6)) 8) 6 (((ms_set S 8 (upd (S 8) 7 q6)) 8 6) + (1 : Int32)))) 8) 6 (((ms_set (ms_set S 8 (upd (S 8) 7 q6)) 8 (upd ((ms_set S 8 (upd (S 8) 7 q6)) 8) 6 (((ms_set S 8 (upd (S 8) 7 q6)) 8 6) + (1 : Int32)))) 8 6) - (1 : Int32))))))))))
def f8_findFault_b5 (rec5 : ms_T → Option (Int32 × ms_T)) (S : ms_T) : Option (Int32 × ms_T) := ((fo_bd (f8_readsOrder S) (fun q6 => (if q6.1 = 0 then (some ((q6.2 8 6), q6.2)) else ((if (q6.2 8 6) = (q6.2 8 1) then (some ((-6 : Int32), q6.2)) else ((fo_bd (f8_isNext (59 : Int32) q6.2) (fun q34 => (if q34.1 = 0 then (some ((q34.2 8 6), q34.2)) else (rec5 q34.2)))))))))))
def f8_findFault_L5 : Nat → ms_T → Option (Int32 × ms_T)
  | 0, _ => none
  | n + 1, S => f8_findFault_b5 (f8_findFault_L5 n) S
def f8_findFault (S : ms_T) : Option (Int32 × ms_T) := (f8_findFault_L5 fo_fu (ms_set S 8 (upd (S 8) 6 (0 : Int32))))
def f8_fault (S : ms_T) : Option (Int32 × ms_T) := (fo_bd (f8_findFault S) (fun q1 => (some (q1.1, q1.2))))
def f8_whyNotDone (S : ms_T) : Option Int32 := ((if (S 8 7) = (99 : Int32) then ((fo_bd (f8_isPlayer (S 8 8) (S 0)) (fun q63 => (if q63 = 0 then (some (-1 : Int32)) else (some (0 : Int32)))))) else if (S 8 7) = (112 : Int32) then (fo_bd (f8_whyNoPlayer (S 8 8) (S 0)) (fun q45 => (some q45))) else if (S 8 7) = (116 : Int32) then (fo_bd (f8_whyNoTurns (S 8 8) (S 0)) (fun q54 => (some q54))) else (some (0 : Int32))))
def f8_does (S : ms_T) : Option ms_T := ((if (S 8 7) = (99 : Int32) then (fo_bd (f8_clears (S 8 8) S) (fun q69 => (some q69.2))) else if (S 8 7) = (112 : Int32) then (fo_bd (f8_comes (S 8 8) (S 0)) (fun q45 => (some (ms_set S 0 q45.2)))) else if (S 8 7) = (116 : Int32) then (fo_bd (f8_doTurns (S 8 8) (S 0)) (fun q57 => (some (ms_set S 0 q57.2)))) else (fo_ck (8 : Int32) 107 (some (ms_set S 0 (upd (S 0) (8 : Int32).toNatClampNeg (S 8 8)))))))
def f8_carryOut_b79 (v1 : Int32) (S : ms_T) : Option (Int32 × ms_T) := (some (v1, (ms_set S 8 (upd (S 8) 1 (0 : Int32)))))
def f8_carryOut_b64 (rec25 : Int32 → Int32 → ms_T → Option (Int32 × ms_T)) (v1 : Int32) (t0 : Int32) (S : ms_T) : Option (Int32 × ms_T) := ((if t0 = 0 then (rec25 v1 t0 S) else (fo_bd (f8_does S) (fun q70 => (rec25 (v1 + (1 : Int32)) t0 q70)))))
def f8_carryOut_b25 (rec25 : Int32 → Int32 → ms_T → Option (Int32 × ms_T)) (v1 : Int32) (v2 : Int32) (S : ms_T) : Option (Int32 × ms_T) := ((if v2 = 0 then (f8_carryOut_b79 v1 S) else ((if (S 8 1) ≤ (S 8 6) then (f8_carryOut_b79 v1 S) else ((fo_bd (f8_readsOrder S) (fun q41 => (fo_bd (f8_isNext (59 : Int32) q41.2) (fun q48 => (fo_bd (f8_whyNotDone q48.2) (fun q53 => (if q53 = 0 then (f8_carryOut_b64 rec25 v1 (1 : Int32) q48.2) else (f8_carryOut_b64 rec25 v1 (0 : Int32) q48.2)))))))))))))
def f8_carryOut_L25 : Nat → Int32 → Int32 → ms_T → Option (Int32 × ms_T)
  | 0, _, _, _ => none
  | n + 1, v1, v2, S => f8_carryOut_b25 (f8_carryOut_L25 n) v1 v2 S
def f8_carryOut (S : ms_T) : Option (Int32 × ms_T) := ((fo_bd (f8_findFault S) (fun q1 => (if q1.1 = (-6 : Int32) then (fo_bd (f8_record q1.2) (fun q13 => (f8_carryOut_L25 fo_fu (0 : Int32) (1 : Int32) (ms_set q13 8 (upd (q13 8) 6 (0 : Int32)))))) else (some ((-3 : Int32), q1.2))))))
def f8_undo (S : ms_T) : Option (Int32 × ms_T) := ((if (S 8 0) = 0 then (some ((-5 : Int32), S)) else (fo_bd (f8_moves 642 107 ((ms_set S 8 (upd (S 8) 0 ((S 8 0) - (1 : Int32)))) 2) (((ms_set S 8 (upd (S 8) 0 ((S 8 0) - (1 : Int32)))) 8 0) * (107 : Int32)) (0 : Int32) ((ms_set S 8 (upd (S 8) 0 ((S 8 0) - (1 : Int32)))) 0)) (fun q36 => (some (((ms_set (ms_set S 8 (upd (S 8) 0 ((S 8 0) - (1 : Int32)))) 0 q36) 8 0), (ms_set (ms_set S 8 (upd (S 8) 0 ((S 8 0) - (1 : Int32)))) 0 q36)))))))
def f8_save (v1 : Int32) (S : ms_T) : Option (Int32 × ms_T) := ((fo_bd (f8_within v1 (0 : Int32) (1 : Int32)) (fun q3 => (if q3 = 0 then (some ((-2 : Int32), S)) else (fo_bd (f8_moves 107 214 (S 0) (0 : Int32) ((107 : Int32) * v1) (S 3)) (fun q25 => (fo_ck v1 2 (fo_ck (6 : Int32) 107 (some ((((ms_set (ms_set S 3 q25) 4 (upd ((ms_set S 3 q25) 4) v1.toNatClampNeg (1 : Int32))) 0) (6 : Int32).toNatClampNeg), (ms_set (ms_set S 3 q25) 4 (upd ((ms_set S 3 q25) 4) v1.toNatClampNeg (1 : Int32)))))))))))))
def f8_restore (v1 : Int32) (S : ms_T) : Option (Int32 × ms_T) := ((fo_bd (f8_within v1 (0 : Int32) (1 : Int32)) (fun q3 => (if q3 = 0 then (some ((-2 : Int32), S)) else ((fo_ck v1 2 (if ((S 4) v1.toNatClampNeg) = 0 then (some ((-5 : Int32), S)) else (fo_bd (f8_record S) (fun q25 => (fo_bd (f8_moves 214 107 (q25 3) ((107 : Int32) * v1) (0 : Int32) (q25 0)) (fun q41 => (fo_ck (6 : Int32) 107 (some ((((ms_set q25 0 q41) 0) (6 : Int32).toNatClampNeg), (ms_set q25 0 q41)))))))))))))))
def f6_at_b22 (v : Int32) (n : Nat) (S : (Nat → Int32)) : Option Int32 := (some v)
def f6_at (v : Int32) (n : Nat) (v1 : Int32) (S : (Nat → Int32)) : Option Int32 := ((if v1 < 0 then (f6_at_b22 v n S) else ((if (nI n) ≤ v1 then (f6_at_b22 v n S) else (fo_ck v1 n (some (S v1.toNatClampNeg)))))))
def f6_write (v : Int32) (n : Nat) (v1 : Int32) (v2 : Int32) (S : (Nat → Int32)) : Option (Nat → Int32) := ((if v1 < 0 then (some S) else ((if (nI n) ≤ v1 then (some S) else (fo_ck v1 n (some (upd S v1.toNatClampNeg v2)))))))
def f6_add (v : Int32) (n : Nat) (v1 : Int32) (v2 : Int32) (S : (Nat → Int32)) : Option (Nat → Int32) := ((if v1 < 0 then (some S) else ((if (nI n) ≤ v1 then (some S) else (fo_ck v1 n (fo_ck v1 n (some (upd S v1.toNatClampNeg ((S v1.toNatClampNeg) + v2)))))))))
def f6_sum_b4 (v : Int32) (n : Nat) (rec4 : Int32 → Int32 → (Nat → Int32) → Option Int32) (v1 : Int32) (v2 : Int32) (S : (Nat → Int32)) : Option Int32 := ((if (nI n) ≤ v2 then (some v1) else (fo_ck v2 n (rec4 (v1 + (S v2.toNatClampNeg)) (v2 + (1 : Int32)) S))))
def f6_sum_L4 (v : Int32) (n : Nat) : Nat → Int32 → Int32 → (Nat → Int32) → Option Int32
  | 0, _, _, _ => none
  | n + 1, v1, v2, S => f6_sum_b4 v n (f6_sum_L4 v n n) v1 v2 S
def f6_sum (v : Int32) (n : Nat) (S : (Nat → Int32)) : Option Int32 := (f6_sum_L4 v n fo_fu (0 : Int32) (0 : Int32) S)
def f6_copyFrom_b2 (n : Nat) (F : Nat → Int32) (rec2 : Int32 → (Nat → Int32) → Option (Nat → Int32)) (v2 : Int32) (S : (Nat → Int32)) : Option (Nat → Int32) := ((if (nI n) ≤ v2 then (some S) else ((if (nI n) ≤ v2 then (some S) else (fo_ck v2 n (fo_ck v2 n (rec2 (v2 + (1 : Int32)) (upd S v2.toNatClampNeg (F v2.toNatClampNeg)))))))))
def f6_copyFrom_L2 (n : Nat) (F : Nat → Int32) : Nat → Int32 → (Nat → Int32) → Option (Nat → Int32)
  | 0, _, _ => none
  | n + 1, v2, S => f6_copyFrom_b2 n F (f6_copyFrom_L2 n F n) v2 S
def f6_copyFrom (n : Nat) (F : Nat → Int32) (S : (Nat → Int32)) : Option (Nat → Int32) := (f6_copyFrom_L2 n F fo_fu (0 : Int32) S)
def f5_sortOf (v0 : Int32) : Option Int32 := ((if (v0 - v0 / (5 : Int32) * (5 : Int32)) = 0 then ((if (v0 - v0 / (10 : Int32) * (10 : Int32)) = 0 then (some (0 : Int32)) else (some (2 : Int32)))) else (some (1 : Int32))))
def f5_firstOwner (v1 : Int32) (S : ms_T) : Option Int32 := (fo_bd (f6_at (-6) 20 v1 (S 0)) (fun q5 => (some q5)))
def f5_secondOwner (v1 : Int32) (S : ms_T) : Option Int32 := (fo_bd (f6_at (-6) 20 v1 (S 1)) (fun q5 => (some q5)))
def f5_isOwnedBy_b24 (S : ms_T) : Option Int32 := (some (1 : Int32))
def f5_isOwnedBy (v1 : Int32) (v2 : Int32) (S : ms_T) : Option Int32 := ((fo_bd (f6_at (-6) 20 v1 (S 0)) (fun q5 => (if q5 = v2 then (f5_isOwnedBy_b24 S) else ((fo_bd (f6_at (-6) 20 v1 (S 1)) (fun q17 => (if q17 = v2 then (f5_isOwnedBy_b24 S) else (some (0 : Int32))))))))))
def f5_hasFreePart_b41 (S : ms_T) : Option Int32 := (some (1 : Int32))
def f5_hasFreePart_b23 (v1 : Int32) (v2 : Int32) (S : ms_T) : Option Int32 := ((if v2 = (2 : Int32) then ((fo_bd (f6_at (-6) 20 v1 (S 1)) (fun q33 => (if q33 = (-6 : Int32) then (f5_hasFreePart_b41 S) else (some (0 : Int32)))))) else (some (0 : Int32))))
def f5_hasFreePart (v1 : Int32) (S : ms_T) : Option Int32 := ((fo_bd (f5_sortOf v1) (fun q1 => (if q1 = (1 : Int32) then ((fo_bd (f6_at (-6) 20 v1 (S 0)) (fun q15 => (if q15 = (-6 : Int32) then (f5_hasFreePart_b41 S) else (f5_hasFreePart_b23 v1 q1 S))))) else (f5_hasFreePart_b23 v1 q1 S)))))
def f5_giveFreePart (v1 : Int32) (v2 : Int32) (S : ms_T) : Option ms_T := ((fo_bd (f6_at (-6) 20 v1 (S 0)) (fun q5 => (if q5 = (-6 : Int32) then (fo_bd (f6_write (-6) 20 v1 v2 (S 0)) (fun q19 => (some (ms_set S 0 q19)))) else (fo_bd (f6_write (-6) 20 v1 v2 (S 1)) (fun q31 => (some (ms_set S 1 q31))))))))
def f5_handOn_b43 (v1 : Int32) (v3 : Int32) (v4 : Int32) (t0 : Int32) (S : ms_T) : Option ms_T := ((if t0 = v3 then (fo_bd (f6_write (-6) 20 v1 v3 (S 0)) (fun q57 => (fo_bd (f6_write (-6) 20 v1 (-6 : Int32) ((ms_set S 0 q57) 1)) (fun q67 => (some (ms_set (ms_set S 0 q57) 1 q67)))))) else ((if v4 = 0 then (fo_bd (f6_write (-6) 20 v1 v3 (S 1)) (fun q96 => (some (ms_set S 1 q96)))) else (fo_bd (f6_write (-6) 20 v1 v3 (S 0)) (fun q84 => (some (ms_set S 0 q84))))))))
def f5_handOn_b17 (v1 : Int32) (v3 : Int32) (t0 : Int32) (S : ms_T) : Option ms_T := ((if t0 = 0 then (fo_bd (f6_at (-6) 20 v1 (S 0)) (fun q40 => (f5_handOn_b43 v1 v3 t0 q40 S))) else (fo_bd (f6_at (-6) 20 v1 (S 1)) (fun q29 => (f5_handOn_b43 v1 v3 t0 q29 S)))))
def f5_handOn (v1 : Int32) (v2 : Int32) (v3 : Int32) (S : ms_T) : Option ms_T := ((fo_bd (f6_at (-6) 20 v1 (S 0)) (fun q5 => (if q5 = v2 then (f5_handOn_b17 v1 v3 (1 : Int32) S) else (f5_handOn_b17 v1 v3 (0 : Int32) S)))))
def f5_lowestOf_b2 (rec2 : Int32 → Int32 → ms_T → Option Int32) (v1 : Int32) (v2 : Int32) (S : ms_T) : Option Int32 := ((if (20 : Int32) ≤ v2 then (some (-6 : Int32)) else ((fo_bd (f6_at (-6) 20 v2 (S 0)) (fun q13 => (if q13 = v1 then (some v2) else ((fo_bd (f6_at (-6) 20 v2 (S 1)) (fun q25 => (if q25 = v1 then (some v2) else (rec2 v1 (v2 + (1 : Int32)) S)))))))))))
def f5_lowestOf_L2 : Nat → Int32 → Int32 → ms_T → Option Int32
  | 0, _, _, _ => none
  | n + 1, v1, v2, S => f5_lowestOf_b2 (f5_lowestOf_L2 n) v1 v2 S
def f5_lowestOf (v1 : Int32) (S : ms_T) : Option Int32 := (f5_lowestOf_L2 fo_fu v1 (0 : Int32) S)
def f5_squaresOf_b40 (rec4 : Int32 → Int32 → Int32 → ms_T → Option Int32) (v1 : Int32) (v2 : Int32) (v3 : Int32) (S : ms_T) : Option Int32 := (rec4 v1 v2 (v3 + (1 : Int32)) S)
def f5_squaresOf_b34 (rec4 : Int32 → Int32 → Int32 → ms_T → Option Int32) (v1 : Int32) (v2 : Int32) (v3 : Int32) (S : ms_T) : Option Int32 := (f5_squaresOf_b40 rec4 v1 (v2 ||| ((1 : Int32) <<< (v3 &&& 31))) v3 S)
def f5_squaresOf_b4 (rec4 : Int32 → Int32 → Int32 → ms_T → Option Int32) (v1 : Int32) (v2 : Int32) (v3 : Int32) (S : ms_T) : Option Int32 := ((if (20 : Int32) ≤ v3 then (some v2) else ((fo_bd (f6_at (-6) 20 v3 (S 0)) (fun q15 => (if q15 = v1 then (f5_squaresOf_b34 rec4 v1 v2 v3 S) else ((fo_bd (f6_at (-6) 20 v3 (S 1)) (fun q27 => (if q27 = v1 then (f5_squaresOf_b34 rec4 v1 v2 v3 S) else (f5_squaresOf_b40 rec4 v1 v2 v3 S)))))))))))
def f5_squaresOf_L4 : Nat → Int32 → Int32 → Int32 → ms_T → Option Int32
  | 0, _, _, _, _ => none
  | n + 1, v1, v2, v3, S => f5_squaresOf_b4 (f5_squaresOf_L4 n) v1 v2 v3 S
def f5_squaresOf (v1 : Int32) (S : ms_T) : Option Int32 := (f5_squaresOf_L4 fo_fu v1 (0 : Int32) (0 : Int32) S)
def f5_toll_b65 (rec31 : Int32 → Int32 → Int32 → Int32 → Int32 → ms_T → Option Int32) (v2 : Int32) (v3 : Int32) (v4 : Int32) (v5 : Int32) (v6 : Int32) (S : ms_T) : Option Int32 := (rec31 v2 v3 v4 v5 (v6 + (1 : Int32)) S)
def f5_toll_b31 (rec31 : Int32 → Int32 → Int32 → Int32 → Int32 → ms_T → Option Int32) (v2 : Int32) (v3 : Int32) (v4 : Int32) (v5 : Int32) (v6 : Int32) (S : ms_T) : Option Int32 := ((if (v4 + (5 : Int32)) ≤ v6 then (some (v2 * ((1 : Int32) + v5))) else ((fo_bd (f5_sortOf v6) (fun q42 => (if q42 = (1 : Int32) then ((fo_bd (f6_at (-6) 20 v6 (S 0)) (fun q55 => (if q55 = v3 then (f5_toll_b65 rec31 v2 v3 v4 (v5 + (1 : Int32)) v6 S) else (f5_toll_b65 rec31 v2 v3 v4 v5 v6 S))))) else (f5_toll_b65 rec31 v2 v3 v4 v5 v6 S)))))))
def f5_toll_L31 : Nat → Int32 → Int32 → Int32 → Int32 → Int32 → ms_T → Option Int32
  | 0, _, _, _, _, _, _ => none
  | n + 1, v2, v3, v4, v5, v6, S => f5_toll_b31 (f5_toll_L31 n) v2 v3 v4 v5 v6 S
def f5_toll (v1 : Int32) (v2 : Int32) (S : ms_T) : Option Int32 := ((fo_bd (f6_at (-6) 20 v1 (S 0)) (fun q5 => (if q5 = (-6 : Int32) then (some (0 : Int32)) else (f5_toll_L31 fo_fu v2 q5 ((v1 / (5 : Int32)) * (5 : Int32)) (0 : Int32) ((v1 / (5 : Int32)) * (5 : Int32)) S)))))
def f5_copyFrom (Z : ms_T) (S : ms_T) : Option ms_T := (fo_bd (f6_copyFrom 20 (Z 0) (S 0)) (fun q8 => (fo_bd (f6_copyFrom 20 (Z 1) ((ms_set S 0 q8) 1)) (fun q19 => (some (ms_set (ms_set S 0 q8) 1 q19))))))
def f1_coinsOf (v1 : Int32) (v2 : Int32) (S : ms_T) : Option Int32 := (fo_bd (f6_at 0 16 ((v1 * (4 : Int32)) + v2) (S 0)) (fun q9 => (some q9)))
def f1_ageOf (v1 : Int32) (v2 : Int32) (S : ms_T) : Option Int32 := (fo_bd (f6_at (-6) 16 ((v1 * (4 : Int32)) + v2) (S 1)) (fun q9 => (some q9)))
def f1_grow_b33 (v3 : Int32) (v4 : Int32) (S : ms_T) : Option ms_T := (fo_bd (f6_add 0 16 v4 v3 (S 0)) (fun q40 => (some (ms_set S 0 q40))))
def f1_grow (v1 : Int32) (v2 : Int32) (v3 : Int32) (S : ms_T) : Option ms_T := ((if v3 ≤ 0 then (f1_grow_b33 v3 ((v1 * (4 : Int32)) + v2) S) else ((fo_bd (f6_at 0 16 ((v1 * (4 : Int32)) + v2) (S 0)) (fun q17 => (if q17 = 0 then (fo_bd (f6_write (-6) 16 ((v1 * (4 : Int32)) + v2) (0 : Int32) (S 1)) (fun q30 => (f1_grow_b33 v3 ((v1 * (4 : Int32)) + v2) (ms_set S 1 q30)))) else (f1_grow_b33 v3 ((v1 * (4 : Int32)) + v2) S)))))))
def f1_shrink (v1 : Int32) (v2 : Int32) (v3 : Int32) (S : ms_T) : Option ms_T := ((fo_bd (f6_add 0 16 ((v1 * (4 : Int32)) + v2) (-v3) (S 0)) (fun q15 => (fo_bd (f6_at 0 16 ((v1 * (4 : Int32)) + v2) ((ms_set S 0 q15) 0)) (fun q24 => (if q24 = 0 then (fo_bd (f6_write (-6) 16 ((v1 * (4 : Int32)) + v2) (-6 : Int32) ((ms_set S 0 q15) 1)) (fun q38 => (some (ms_set (ms_set S 0 q15) 1 q38)))) else (some (ms_set S 0 q15))))))))
def f1_makeOlder_b33 (rec2 : Int32 → Int32 → ms_T → Option ms_T) (v1 : Int32) (v2 : Int32) (S : ms_T) : Option ms_T := (rec2 v1 (v2 + (1 : Int32)) S)
def f1_makeOlder_b2 (rec2 : Int32 → Int32 → ms_T → Option ms_T) (v1 : Int32) (v2 : Int32) (S : ms_T) : Option ms_T := ((if (4 : Int32) ≤ v2 then (some S) else ((fo_bd (f6_at 0 16 ((v1 * (4 : Int32)) + v2) (S 0)) (fun q18 => (if q18 ≤ 0 then (f1_makeOlder_b33 rec2 v1 v2 S) else (fo_bd (f6_add (-6) 16 ((v1 * (4 : Int32)) + v2) (1 : Int32) (S 1)) (fun q30 => (f1_makeOlder_b33 rec2 v1 v2 (ms_set S 1 q30))))))))))
def f1_makeOlder_L2 : Nat → Int32 → Int32 → ms_T → Option ms_T
  | 0, _, _, _ => none
  | n + 1, v1, v2, S => f1_makeOlder_b2 (f1_makeOlder_L2 n) v1 v2 S
def f1_makeOlder (v1 : Int32) (S : ms_T) : Option ms_T := (f1_makeOlder_L2 fo_fu v1 (0 : Int32) S)
def f1_oldestOf_b61 (rec9 : Int32 → Int32 → Int32 → Int32 → ms_T → Option Int32) (v1 : Int32) (v2 : Int32) (v3 : Int32) (v4 : Int32) (S : ms_T) : Option Int32 := (rec9 v1 v2 v3 (v4 + (1 : Int32)) S)
def f1_oldestOf_b9 (rec9 : Int32 → Int32 → Int32 → Int32 → ms_T → Option Int32) (v1 : Int32) (v2 : Int32) (v3 : Int32) (v4 : Int32) (S : ms_T) : Option Int32 := ((if (4 : Int32) ≤ v4 then (some v2) else ((fo_bd (f6_at 0 16 ((v1 * (4 : Int32)) + v4) (S 0)) (fun q29 => (if q29 ≤ 0 then (f1_oldestOf_b61 rec9 v1 v2 v3 v4 S) else ((fo_bd (f6_at (-6) 16 ((v1 * (4 : Int32)) + v4) (S 1)) (fun q41 => (if q41 ≤ v3 then (f1_oldestOf_b61 rec9 v1 v2 v3 v4 S) else (fo_bd (f6_at (-6) 16 ((v1 * (4 : Int32)) + v4) (S 1)) (fun q57 => (f1_oldestOf_b61 rec9 v1 v4 q57 v4 S)))))))))))))
def f1_oldestOf_L9 : Nat → Int32 → Int32 → Int32 → Int32 → ms_T → Option Int32
  | 0, _, _, _, _, _ => none
  | n + 1, v1, v2, v3, v4, S => f1_oldestOf_b9 (f1_oldestOf_L9 n) v1 v2 v3 v4 S
def f1_oldestOf (v1 : Int32) (S : ms_T) : Option Int32 := (f1_oldestOf_L9 fo_fu v1 (-6 : Int32) (-6 : Int32) (0 : Int32) S)
def f1_owedBy_b4 (rec4 : Int32 → Int32 → Int32 → ms_T → Option Int32) (v1 : Int32) (v2 : Int32) (v3 : Int32) (S : ms_T) : Option Int32 := ((if (4 : Int32) ≤ v3 then (some v2) else (fo_bd (f6_at 0 16 ((v1 * (4 : Int32)) + v3) (S 0)) (fun q19 => (rec4 v1 (v2 + q19) (v3 + (1 : Int32)) S)))))
def f1_owedBy_L4 : Nat → Int32 → Int32 → Int32 → ms_T → Option Int32
  | 0, _, _, _, _ => none
  | n + 1, v1, v2, v3, S => f1_owedBy_b4 (f1_owedBy_L4 n) v1 v2 v3 S
def f1_owedBy (v1 : Int32) (S : ms_T) : Option Int32 := (f1_owedBy_L4 fo_fu v1 (0 : Int32) (0 : Int32) S)
def f1_owedTo_b4 (rec4 : Int32 → Int32 → Int32 → ms_T → Option Int32) (v1 : Int32) (v2 : Int32) (v3 : Int32) (S : ms_T) : Option Int32 := ((if (4 : Int32) ≤ v3 then (some v2) else (fo_bd (f6_at 0 16 ((v3 * (4 : Int32)) + v1) (S 0)) (fun q19 => (rec4 v1 (v2 + q19) (v3 + (1 : Int32)) S)))))
def f1_owedTo_L4 : Nat → Int32 → Int32 → Int32 → ms_T → Option Int32
  | 0, _, _, _, _ => none
  | n + 1, v1, v2, v3, S => f1_owedTo_b4 (f1_owedTo_L4 n) v1 v2 v3 S
def f1_owedTo (v1 : Int32) (S : ms_T) : Option Int32 := (f1_owedTo_L4 fo_fu v1 (0 : Int32) (0 : Int32) S)
def f1_inAll (S : ms_T) : Option Int32 := (fo_bd (f6_sum 0 16 (S 0)) (fun q4 => (some q4)))
def f1_howMany_b27 (rec4 : Int32 → Int32 → ms_T → Option Int32) (v2 : Int32) (t0 : Int32) (t1 : Int32) (S : ms_T) : Option Int32 := (rec4 (t0 + t1) (v2 + (1 : Int32)) S)
def f1_howMany_b4 (rec4 : Int32 → Int32 → ms_T → Option Int32) (v1 : Int32) (v2 : Int32) (S : ms_T) : Option Int32 := ((if (16 : Int32) ≤ v2 then (some v1) else ((fo_bd (f6_at 0 16 v2 (S 0)) (fun q16 => (if q16 ≤ 0 then (f1_howMany_b27 rec4 v2 v1 (0 : Int32) S) else (f1_howMany_b27 rec4 v2 v1 (1 : Int32) S)))))))
def f1_howMany_L4 : Nat → Int32 → Int32 → ms_T → Option Int32
  | 0, _, _, _ => none
  | n + 1, v1, v2, S => f1_howMany_b4 (f1_howMany_L4 n) v1 v2 S
def f1_howMany (S : ms_T) : Option Int32 := (f1_howMany_L4 fo_fu (0 : Int32) (0 : Int32) S)
def f1_distance_b61 (rec7 : Int32 → Int32 → Int32 → ms_T → Option Int32) (rec19 : Int32 → Int32 → Int32 → Int32 → Int32 → ms_T → Option Int32) (v2 : Int32) (v3 : Int32) (v4 : Int32) (v5 : Int32) (v6 : Int32) (S : ms_T) : Option Int32 := (rec19 v2 v3 v4 v5 (v6 + (1 : Int32)) S)
def f1_distance_b19 (rec7 : Int32 → Int32 → Int32 → ms_T → Option Int32) (rec19 : Int32 → Int32 → Int32 → Int32 → Int32 → ms_T → Option Int32) (v2 : Int32) (v3 : Int32) (v4 : Int32) (v5 : Int32) (v6 : Int32) (S : ms_T) : Option Int32 := ((if (16 : Int32) ≤ v6 then ((if ((v5 >>> (v2 &&& 31)) &&& (1 : Int32)) = (1 : Int32) then (some v4) else (rec7 v2 v5 (v4 + (1 : Int32)) S))) else ((if ((v3 >>> ((v6 / (4 : Int32)) &&& 31)) &&& (1 : Int32)) = (1 : Int32) then ((fo_bd (f6_at 0 16 v6 (S 0)) (fun q44 => (if q44 ≤ 0 then (f1_distance_b61 rec7 rec19 v2 v3 v4 v5 v6 S) else (f1_distance_b61 rec7 rec19 v2 v3 v4 (v5 ||| ((1 : Int32) <<< ((v6 - v6 / (4 : Int32) * (4 : Int32)) &&& 31))) v6 S))))) else (f1_distance_b61 rec7 rec19 v2 v3 v4 v5 v6 S)))))
def f1_distance_L19 (rec7 : Int32 → Int32 → Int32 → ms_T → Option Int32) : Nat → Int32 → Int32 → Int32 → Int32 → Int32 → ms_T → Option Int32
  | 0, _, _, _, _, _, _ => none
  | n + 1, v2, v3, v4, v5, v6, S => f1_distance_b19 rec7 (f1_distance_L19 rec7 n) v2 v3 v4 v5 v6 S
def f1_distance_b7 (rec7 : Int32 → Int32 → Int32 → ms_T → Option Int32) (v2 : Int32) (v3 : Int32) (v4 : Int32) (S : ms_T) : Option Int32 := ((if (4 : Int32) < v4 then (some (-6 : Int32)) else (f1_distance_L19 rec7 fo_fu v2 v3 v4 (0 : Int32) (0 : Int32) S)))
def f1_distance_L7 : Nat → Int32 → Int32 → Int32 → ms_T → Option Int32
  | 0, _, _, _, _ => none
  | n + 1, v2, v3, v4, S => f1_distance_b7 (f1_distance_L7 n) v2 v3 v4 S
def f1_distance (v1 : Int32) (v2 : Int32) (S : ms_T) : Option Int32 := (f1_distance_L7 fo_fu v2 ((1 : Int32) <<< (v1 &&& 31)) (1 : Int32) S)
def f1_nextOnRing_b42 (rec10 : Int32 → Int32 → Int32 → Int32 → ms_T → Option Int32) (v1 : Int32) (v2 : Int32) (v3 : Int32) (v4 : Int32) (S : ms_T) : Option Int32 := (rec10 v1 v2 v3 (v4 + (1 : Int32)) S)
def f1_nextOnRing_b10 (rec10 : Int32 → Int32 → Int32 → Int32 → ms_T → Option Int32) (v1 : Int32) (v2 : Int32) (v3 : Int32) (v4 : Int32) (S : ms_T) : Option Int32 := ((if (4 : Int32) ≤ v4 then (some (-6 : Int32)) else ((fo_bd (f1_coinsOf v1 v4 S) (fun q20 => (if q20 ≤ 0 then (f1_nextOnRing_b42 rec10 v1 v2 v3 v4 S) else ((fo_bd (f1_distance v4 v2 S) (fun q30 => (if q30 = (v3 - (1 : Int32)) then (some v4) else (f1_nextOnRing_b42 rec10 v1 v2 v3 v4 S)))))))))))
def f1_nextOnRing_L10 : Nat → Int32 → Int32 → Int32 → Int32 → ms_T → Option Int32
  | 0, _, _, _, _, _ => none
  | n + 1, v1, v2, v3, v4, S => f1_nextOnRing_b10 (f1_nextOnRing_L10 n) v1 v2 v3 v4 S
def f1_nextOnRing (v1 : Int32) (v2 : Int32) (v3 : Int32) (S : ms_T) : Option Int32 := ((if v3 = (1 : Int32) then (some v2) else (f1_nextOnRing_L10 fo_fu v1 v2 v3 (0 : Int32) S)))
def f1_clearRing_b108 (rec108 : Int32 → Int32 → Int32 → ms_T → Option (Int32 × ms_T)) (v2 : Int32) (v3 : Int32) (v4 : Int32) (S : ms_T) : Option (Int32 × ms_T) := ((if v2 ≤ v4 then (some (v3, S)) else (fo_bd (f6_at (-6) 5 v4 (S 2)) (fun q121 => (fo_bd (f6_at (-6) 5 (v4 + (1 : Int32)) (S 2)) (fun q132 => (fo_bd (f1_shrink q121 q132 v3 S) (fun q136 => (rec108 v2 v3 (v4 + (1 : Int32)) q136)))))))))
def f1_clearRing_L108 : Nat → Int32 → Int32 → Int32 → ms_T → Option (Int32 × ms_T)
  | 0, _, _, _, _ => none
  | n + 1, v2, v3, v4, S => f1_clearRing_b108 (f1_clearRing_L108 n) v2 v3 v4 S
def f1_clearRing_b98 (rec29 : Int32 → Int32 → Int32 → Int32 → ms_T → Option (Int32 × ms_T)) (v1 : Int32) (v2 : Int32) (v4 : Int32) (t0 : Int32) (S : ms_T) : Option (Int32 × ms_T) := (rec29 v1 v2 t0 (v4 + (1 : Int32)) S)
def f1_clearRing_b29 (rec29 : Int32 → Int32 → Int32 → Int32 → ms_T → Option (Int32 × ms_T)) (v1 : Int32) (v2 : Int32) (v3 : Int32) (v4 : Int32) (S : ms_T) : Option (Int32 × ms_T) := ((if v2 ≤ v4 then (f1_clearRing_L108 fo_fu v2 v3 (0 : Int32) S) else ((fo_bd (f6_at (-6) 5 v4 (S 2)) (fun q41 => (fo_bd (f1_nextOnRing q41 v1 (v2 - v4) S) (fun q54 => (fo_bd (f6_write (-6) 5 (v4 + (1 : Int32)) q54 (S 2)) (fun q69 => (fo_bd (f1_coinsOf q41 q54 (ms_set S 2 q69)) (fun q77 => (if v4 = 0 then (f1_clearRing_b98 rec29 v1 v2 v4 q77 (ms_set S 2 q69)) else (f1_clearRing_b98 rec29 v1 v2 v4 (if q77 < v3 then q77 else v3) (ms_set S 2 q69))))))))))))))
def f1_clearRing_L29 : Nat → Int32 → Int32 → Int32 → Int32 → ms_T → Option (Int32 × ms_T)
  | 0, _, _, _, _, _ => none
  | n + 1, v1, v2, v3, v4, S => f1_clearRing_b29 (f1_clearRing_L29 n) v1 v2 v3 v4 S
def f1_clearRing (v1 : Int32) (S : ms_T) : Option (Int32 × ms_T) := ((fo_bd (f1_distance v1 v1 S) (fun q3 => (if q3 = (-6 : Int32) then (some ((0 : Int32), S)) else (fo_bd (f6_write (-6) 5 (0 : Int32) v1 (S 2)) (fun q21 => (f1_clearRing_L29 fo_fu v1 q3 (0 : Int32) (0 : Int32) (ms_set S 2 q21))))))))
def f1_copyFrom (Z : ms_T) (S : ms_T) : Option ms_T := (fo_bd (f6_copyFrom 16 (Z 0) (S 0)) (fun q8 => (fo_bd (f6_copyFrom 16 (Z 1) ((ms_set S 0 q8) 1)) (fun q19 => (some (ms_set (ms_set S 0 q8) 1 q19))))))
def f3_length (g : Nat) (S : ms_T) : Option Int32 := (some (S 1 0))
def f3_at (g : Nat) (v1 : Int32) (S : ms_T) : Option Int32 := ((if (S 1 0) ≤ v1 then (some (-1 : Int32)) else (fo_bd (f6_at (-1) g v1 (S 0)) (fun q13 => (some q13)))))
def f3_append (g : Nat) (v1 : Int32) (S : ms_T) : Option ms_T := ((if (nI g) ≤ (S 1 0) then (some S) else (fo_bd (f6_write (-1) g (S 1 0) v1 (S 0)) (fun q20 => (some (ms_set (ms_set S 0 q20) 1 (upd ((ms_set S 0 q20) 1) 0 (((ms_set S 0 q20) 1 0) + (1 : Int32)))))))))
def f3_makeEmpty (g : Nat) (S : ms_T) : Option ms_T := (some (ms_set S 1 (upd (S 1) 0 (0 : Int32))))
def f0_addPlayer (v1 : Int32) (S : ms_T) : Option (Int32 × ms_T) := ((if v1 < 0 then (some ((-2 : Int32), S)) else ((if v1 ≤ (9999 : Int32) then ((if (S 12 0) < (4 : Int32) then (fo_bd (f6_write 0 4 (S 12 0) v1 (S 6)) (fun q34 => (some ((((ms_set (ms_set S 6 q34) 12 (upd ((ms_set S 6 q34) 12) 0 (((ms_set S 6 q34) 12 0) + (1 : Int32)))) 12 0) - (1 : Int32)), (ms_set (ms_set S 6 q34) 12 (upd ((ms_set S 6 q34) 12) 0 (((ms_set S 6 q34) 12 0) + (1 : Int32)))))))) else (some ((-4 : Int32), S)))) else (some ((-2 : Int32), S))))))
def f0_changeDraws (v1 : Int32) (S : ms_T) : Option (Int32 × ms_T) := ((if v1 < 0 then (some ((-2 : Int32), S)) else ((if v1 ≤ (9999 : Int32) then (some ((S 12 2), (ms_set S 12 (upd (S 12) 2 v1)))) else (some ((-2 : Int32), S))))))
def f0_payWhatThereIs (v1 : Int32) (v2 : Int32) (v3 : Int32) (S : ms_T) : Option (Int32 × ms_T) := (fo_bd (f6_at 0 4 v1 (S 6)) (fun q6 => (fo_bd (f6_add 0 4 v1 (-(if q6 < v3 then q6 else v3)) (S 6)) (fun q22 => (fo_bd (f6_add 0 4 v2 (if q6 < v3 then q6 else v3) ((ms_set S 6 q22) 6)) (fun q32 => (fo_bd (f6_add 0 4 v1 (if q6 < v3 then q6 else v3) ((ms_set (ms_set S 6 q22) 6 q32) 8)) (fun q42 => (fo_bd (f6_add 0 4 v2 (if q6 < v3 then q6 else v3) ((ms_set (ms_set (ms_set S 6 q22) 6 q32) 8 q42) 9)) (fun q52 => (some ((if q6 < v3 then q6 else v3), (ms_set (ms_set (ms_set (ms_set S 6 q22) 6 q32) 8 q42) 9 q52)))))))))))))
def f0_payDebts_b2 (rec2 : Int32 → Int32 → ms_T → Option ms_T) (v1 : Int32) (v2 : Int32) (S : ms_T) : Option ms_T := ((if (4 : Int32) ≤ v2 then (some S) else ((fo_bd (f6_at 0 4 v1 (S 6)) (fun q12 => (if q12 ≤ 0 then (some S) else ((fo_bd (f1_oldestOf v1 (ms_from S 2)) (fun q23 => (if q23 = (-6 : Int32) then (some S) else (fo_bd (f1_coinsOf v1 q23 (ms_from S 2)) (fun q43 => (fo_bd (f0_payWhatThereIs v1 q23 q43 S) (fun q46 => (fo_bd (f1_shrink v1 q23 q46.1 (ms_from q46.2 2)) (fun q59 => (rec2 v1 (v2 + (1 : Int32)) (ms_sub q46.2 2 3 q59))))))))))))))))))
def f0_payDebts_L2 : Nat → Int32 → Int32 → ms_T → Option ms_T
  | 0, _, _, _ => none
  | n + 1, v1, v2, S => f0_payDebts_b2 (f0_payDebts_L2 n) v1 v2 S
def f0_payDebts (v1 : Int32) (S : ms_T) : Option ms_T := (f0_payDebts_L2 fo_fu v1 (0 : Int32) S)
def f0_throwDie (S : ms_T) : Option (Int32 × ms_T) := (some (((1 : Int32) + ((((ms_set S 12 (upd (S 12) 2 ((((75 : Int32) * (S 12 2)) + (74 : Int32)) - (((75 : Int32) * (S 12 2)) + (74 : Int32)) / (65537 : Int32) * (65537 : Int32)))) 12 2) / (8 : Int32)) - (((ms_set S 12 (upd (S 12) 2 ((((75 : Int32) * (S 12 2)) + (74 : Int32)) - (((75 : Int32) * (S 12 2)) + (74 : Int32)) / (65537 : Int32) * (65537 : Int32)))) 12 2) / (8 : Int32)) / (6 : Int32) * (6 : Int32))), (ms_set S 12 (upd (S 12) 2 ((((75 : Int32) * (S 12 2)) + (74 : Int32)) - (((75 : Int32) * (S 12 2)) + (74 : Int32)) / (65537 : Int32) * (65537 : Int32))))))
def f0_move (v1 : Int32) (S : ms_T) : Option ms_T := (fo_bd (f0_throwDie S) (fun q1 => (fo_bd (f6_at 0 4 v1 (q1.2 7)) (fun q10 => (fo_bd (f0_throwDie q1.2) (fun q16 => (fo_bd (f6_at 0 5 (0 : Int32) (q16.2 5)) (fun q30 => (fo_bd (f6_write 0 4 v1 (((q10 + q1.1) + q16.1) - ((q10 + q1.1) + q16.1) / (20 : Int32) * (20 : Int32)) (q16.2 7)) (fun q45 => (fo_bd (f6_add 0 4 v1 ((((q10 + q1.1) + q16.1) / (20 : Int32)) * q30) ((ms_set q16.2 7 q45) 6)) (fun q55 => (some (ms_set (ms_set (ms_set q16.2 7 q45) 6 q55) 12 (upd ((ms_set (ms_set q16.2 7 q45) 6 q55) 12) 5 (((ms_set (ms_set q16.2 7 q45) 6 q55) 12 5) + ((((q10 + q1.1) + q16.1) / (20 : Int32)) * q30)))))))))))))))))
def f0_tryToClaim_b120 (v1 : Int32) (v2 : Int32) (S : ms_T) : Option ms_T := (fo_bd (f5_giveFreePart v2 v1 S) (fun q126 => (some (ms_sub S 0 2 q126))))
def f0_tryToClaim (v1 : Int32) (S : ms_T) : Option ms_T := ((fo_bd (f6_at 0 4 v1 (S 7)) (fun q5 => (fo_bd (f5_isOwnedBy q5 v1 S) (fun q15 => (if q15 = 0 then ((fo_bd (f5_hasFreePart q5 S) (fun q26 => (if q26 = 0 then (some S) else ((fo_bd (f6_at 0 5 (1 : Int32) (S 5)) (fun q38 => (fo_bd (f0_throwDie S) (fun q43 => (fo_bd (f6_at 0 5 (3 : Int32) (q43.2 5)) (fun q51 => (if q43.1 < q51 then (some q43.2) else ((fo_bd (f6_at 0 4 v1 (q43.2 6)) (fun q62 => (if q38 ≤ q62 then ((fo_bd (f5_firstOwner q5 q43.2) (fun q75 => (fo_bd (f6_add 0 4 v1 (-q38) (q43.2 6)) (fun q87 => (if q75 = (-6 : Int32) then (f0_tryToClaim_b120 v1 q5 (ms_set (ms_set q43.2 6 q87) 12 (upd ((ms_set q43.2 6 q87) 12) 4 (((ms_set q43.2 6 q87) 12 4) + q38)))) else (fo_bd (f6_add 0 4 q75 q38 ((ms_set q43.2 6 q87) 6)) (fun q117 => (f0_tryToClaim_b120 v1 q5 (ms_set (ms_set q43.2 6 q87) 6 q117)))))))))) else (some q43.2))))))))))))))))) else (some S)))))))
def f0_payToll_b80 (v1 : Int32) (v3 : Int32) (v4 : Int32) (v5 : Int32) (t0 : Int32) (S : ms_T) : Option ms_T := ((fo_bd (f0_payWhatThereIs v1 v3 (v5 - t0) S) (fun q102 => (fo_bd (f1_grow v1 v3 ((v5 - t0) - q102.1) (ms_from q102.2 2)) (fun q106 => (if v4 = (-6 : Int32) then (some (ms_sub q102.2 2 3 q106)) else (fo_bd (f0_payWhatThereIs v1 v4 t0 (ms_sub q102.2 2 3 q106)) (fun q131 => (fo_bd (f1_grow v1 v4 (t0 - q131.1) (ms_from q131.2 2)) (fun q135 => (some (ms_sub q131.2 2 3 q135))))))))))))
def f0_payToll (v1 : Int32) (S : ms_T) : Option ms_T := ((fo_bd (f6_at 0 4 v1 (S 7)) (fun q5 => (fo_bd (f5_firstOwner q5 S) (fun q14 => (fo_bd (f5_secondOwner q5 S) (fun q23 => (if q14 = (-6 : Int32) then (some S) else ((fo_bd (f5_isOwnedBy q5 v1 S) (fun q40 => (if q40 = 0 then ((fo_bd (f6_at 0 5 (2 : Int32) (S 5)) (fun q57 => (fo_bd (f5_toll q5 q57 S) (fun q60 => (if q23 = (-6 : Int32) then (f0_payToll_b80 v1 q14 q23 q60 (0 : Int32) S) else (f0_payToll_b80 v1 q14 q23 q60 (q60 / (2 : Int32)) S))))))) else (some S)))))))))))))
def f0_loseSquares_b2 (rec2 : Int32 → Int32 → ms_T → Option ms_T) (v1 : Int32) (v2 : Int32) (S : ms_T) : Option ms_T := ((if (4 : Int32) ≤ v2 then (some S) else ((fo_bd (f1_oldestOf v1 (ms_from S 2)) (fun q12 => (if q12 = (-6 : Int32) then (some S) else ((fo_bd (f1_ageOf v1 q12 (ms_from S 2)) (fun q28 => (fo_bd (f6_at 0 5 (4 : Int32) (S 5)) (fun q36 => (if q36 < q28 then ((fo_bd (f5_lowestOf v1 S) (fun q48 => (if q48 = (-6 : Int32) then (some S) else (fo_bd (f5_handOn q48 v1 q12 S) (fun q69 => (fo_bd (f1_coinsOf v1 q12 (ms_from (ms_sub S 0 2 q69) 2)) (fun q84 => (fo_bd (f1_shrink v1 q12 q84 (ms_from (ms_sub S 0 2 q69) 2)) (fun q87 => (fo_bd (f6_add 0 4 v1 (1 : Int32) ((ms_sub (ms_sub S 0 2 q69) 2 3 q87) 11)) (fun q96 => (rec2 v1 (v2 + (1 : Int32)) (ms_set (ms_sub (ms_sub S 0 2 q69) 2 3 q87) 11 q96)))))))))))))) else (some S)))))))))))))
def f0_loseSquares_L2 : Nat → Int32 → Int32 → ms_T → Option ms_T
  | 0, _, _, _ => none
  | n + 1, v1, v2, S => f0_loseSquares_b2 (f0_loseSquares_L2 n) v1 v2 S
def f0_loseSquares (v1 : Int32) (S : ms_T) : Option ms_T := (f0_loseSquares_L2 fo_fu v1 (0 : Int32) S)
def f0_takeTurn_b89 (t1 : Int32) (S : ms_T) : Option ms_T := (some (ms_set S 12 (upd (S 12) 1 t1)))
def f0_takeTurn (S : ms_T) : Option ms_T := ((if (S 12 0) = 0 then (some S) else ((fo_bd (f0_payDebts (S 12 1) S) (fun q15 => (fo_bd (f0_move (S 12 1) q15) (fun q20 => (fo_bd (f0_tryToClaim (S 12 1) q20) (fun q25 => (fo_bd (f0_payToll (S 12 1) q25) (fun q30 => (fo_bd (f1_makeOlder (S 12 1) (ms_from q30 2)) (fun q38 => (fo_bd (f0_loseSquares (S 12 1) (ms_sub q30 2 3 q38)) (fun q43 => (fo_bd (f6_add 0 4 (S 12 1) (1 : Int32) (q43 10)) (fun q52 => (if ((ms_set (ms_set q43 10 q52) 12 (upd ((ms_set q43 10 q52) 12) 3 (((ms_set q43 10 q52) 12 3) + (1 : Int32)))) 12 0) ≤ (((ms_set (ms_set q43 10 q52) 12 (upd ((ms_set q43 10 q52) 12) 3 (((ms_set q43 10 q52) 12 3) + (1 : Int32)))) 12 1) + (1 : Int32)) then (f0_takeTurn_b89 (0 : Int32) (ms_set (ms_set q43 10 q52) 12 (upd ((ms_set q43 10 q52) 12) 3 (((ms_set q43 10 q52) 12 3) + (1 : Int32))))) else (f0_takeTurn_b89 (((ms_set (ms_set q43 10 q52) 12 (upd ((ms_set q43 10 q52) 12) 3 (((ms_set q43 10 q52) 12 3) + (1 : Int32)))) 12 1) + (1 : Int32)) (ms_set (ms_set q43 10 q52) 12 (upd ((ms_set q43 10 q52) 12) 3 (((ms_set q43 10 q52) 12 3) + (1 : Int32)))))))))))))))))))))))
def f0_doTurns_b46 (rec46 : Int32 → Int32 → Int32 → ms_T → Option (Int32 × ms_T)) (v1 : Int32) (v2 : Int32) (v3 : Int32) (S : ms_T) : Option (Int32 × ms_T) := ((if v1 ≤ v3 then (fo_bd (f6_sum 0 4 (S 8)) (fun q65 => (some ((q65 - v2), S)))) else (fo_bd (f0_takeTurn S) (fun q52 => (rec46 v1 v2 (v3 + (1 : Int32)) q52)))))
def f0_doTurns_L46 : Nat → Int32 → Int32 → Int32 → ms_T → Option (Int32 × ms_T)
  | 0, _, _, _, _ => none
  | n + 1, v1, v2, v3, S => f0_doTurns_b46 (f0_doTurns_L46 n) v1 v2 v3 S
def f0_doTurns (v1 : Int32) (S : ms_T) : Option (Int32 × ms_T) := ((if v1 < (1 : Int32) then (some ((-2 : Int32), S)) else ((if v1 ≤ (99 : Int32) then ((if (S 12 0) = 0 then (some ((-5 : Int32), S)) else ((if ((S 12 3) + v1) ≤ (9999 : Int32) then (fo_bd (f6_sum 0 4 (S 8)) (fun q40 => (f0_doTurns_L46 fo_fu v1 q40 (0 : Int32) S))) else (some ((-5 : Int32), S)))))) else (some ((-2 : Int32), S))))))
def f0_hasPlayer (v1 : Int32) (S : ms_T) : Option Int32 := ((if v1 < 0 then (some (0 : Int32)) else ((if (S 12 0) ≤ v1 then (some (0 : Int32)) else (some (1 : Int32))))))
def f0_clearAround_b14 (rec14 : Int32 → Int32 → Int32 → ms_T → Option (Int32 × ms_T)) (v1 : Int32) (v2 : Int32) (v3 : Int32) (S : ms_T) : Option (Int32 × ms_T) := ((if (16 : Int32) ≤ v3 then (some (v2, S)) else ((fo_bd (f1_clearRing v1 (ms_from S 2)) (fun q25 => (if q25.1 = 0 then (some (v2, (ms_sub S 2 3 q25.2))) else (rec14 v1 (v2 + q25.1) (v3 + (1 : Int32)) (ms_sub S 2 3 q25.2))))))))
def f0_clearAround_L14 : Nat → Int32 → Int32 → Int32 → ms_T → Option (Int32 × ms_T)
  | 0, _, _, _, _ => none
  | n + 1, v1, v2, v3, S => f0_clearAround_b14 (f0_clearAround_L14 n) v1 v2 v3 S
def f0_clearAround (v1 : Int32) (S : ms_T) : Option (Int32 × ms_T) := ((fo_bd (f0_hasPlayer v1 S) (fun q2 => (if q2 = 0 then (some ((-1 : Int32), S)) else (f0_clearAround_L14 fo_fu v1 (0 : Int32) (0 : Int32) S)))))
def f0_takeTurns_b2 (rec2 : Int32 → Int32 → ms_T → Option ms_T) (v1 : Int32) (v2 : Int32) (S : ms_T) : Option ms_T := ((if v1 ≤ v2 then (some S) else (fo_bd (f0_takeTurn S) (fun q8 => (rec2 v1 (v2 + (1 : Int32)) q8)))))
def f0_takeTurns_L2 : Nat → Int32 → Int32 → ms_T → Option ms_T
  | 0, _, _, _ => none
  | n + 1, v1, v2, S => f0_takeTurns_b2 (f0_takeTurns_L2 n) v1 v2 S
def f0_takeTurns (v1 : Int32) (S : ms_T) : Option ms_T := (f0_takeTurns_L2 fo_fu v1 (0 : Int32) S)
def f0_players (S : ms_T) : Option Int32 := (some (S 12 0))
def f0_purseOf (v1 : Int32) (S : ms_T) : Option Int32 := (fo_bd (f6_at 0 4 v1 (S 6)) (fun q5 => (some q5)))
def f0_wealthOf (v1 : Int32) (S : ms_T) : Option Int32 := (fo_bd (f6_at 0 4 v1 (S 6)) (fun q5 => (fo_bd (f1_owedTo v1 (ms_from S 2)) (fun q13 => (fo_bd (f1_owedBy v1 (ms_from S 2)) (fun q22 => (some ((q5 + q13) - q22))))))))
def f0_factOfPlayer (v1 : Int32) (v2 : Int32) (S : ms_T) : Option Int32 := ((if v2 = (0 : Int32) then (fo_bd (f6_at 0 4 v1 (S 6)) (fun q57 => (some q57))) else if v2 = (1 : Int32) then (fo_bd (f6_at 0 4 v1 (S 7)) (fun q66 => (some q66))) else if v2 = (2 : Int32) then (fo_bd (f5_squaresOf v1 S) (fun q75 => (some q75))) else if v2 = (3 : Int32) then (fo_bd (f1_owedBy v1 (ms_from S 2)) (fun q84 => (some q84))) else if v2 = (4 : Int32) then (fo_bd (f1_owedTo v1 (ms_from S 2)) (fun q93 => (some q93))) else if v2 = (5 : Int32) then (fo_bd (f6_at 0 4 v1 (S 8)) (fun q102 => (some q102))) else if v2 = (6 : Int32) then (fo_bd (f6_at 0 4 v1 (S 9)) (fun q111 => (some q111))) else if v2 = (7 : Int32) then (fo_bd (f6_at 0 4 v1 (S 10)) (fun q120 => (some q120))) else if v2 = (8 : Int32) then (fo_bd (f6_at 0 4 v1 (S 11)) (fun q129 => (some q129))) else (some (-2 : Int32))))
def f0_playersOn_b30 (rec4 : Int32 → Int32 → Int32 → ms_T → Option Int32) (v1 : Int32) (v2 : Int32) (v3 : Int32) (S : ms_T) : Option Int32 := (rec4 v1 v2 (v3 + (1 : Int32)) S)
def f0_playersOn_b4 (rec4 : Int32 → Int32 → Int32 → ms_T → Option Int32) (v1 : Int32) (v2 : Int32) (v3 : Int32) (S : ms_T) : Option Int32 := ((if (S 12 0) ≤ v3 then (some v2) else ((fo_bd (f6_at 0 4 v3 (S 7)) (fun q17 => (if q17 = v1 then (f0_playersOn_b30 rec4 v1 (v2 ||| ((1 : Int32) <<< (v3 &&& 31))) v3 S) else (f0_playersOn_b30 rec4 v1 v2 v3 S)))))))
def f0_playersOn_L4 : Nat → Int32 → Int32 → Int32 → ms_T → Option Int32
  | 0, _, _, _, _ => none
  | n + 1, v1, v2, v3, S => f0_playersOn_b4 (f0_playersOn_L4 n) v1 v2 v3 S
def f0_playersOn (v1 : Int32) (S : ms_T) : Option Int32 := (f0_playersOn_L4 fo_fu v1 (0 : Int32) (0 : Int32) S)
def f0_factOfSquare (v1 : Int32) (v2 : Int32) (S : ms_T) : Option Int32 := ((if v2 = (0 : Int32) then (fo_bd (f5_sortOf v1) (fun q37 => (some q37))) else if v2 = (1 : Int32) then (fo_bd (f5_firstOwner v1 S) (fun q46 => (some q46))) else if v2 = (2 : Int32) then (fo_bd (f5_secondOwner v1 S) (fun q55 => (some q55))) else if v2 = (3 : Int32) then (fo_bd (f6_at 0 5 (2 : Int32) (S 5)) (fun q69 => (fo_bd (f5_toll v1 q69 S) (fun q72 => (some q72))))) else if v2 = (4 : Int32) then (fo_bd (f0_playersOn v1 S) (fun q78 => (some q78))) else (some (-2 : Int32))))
def f0_fact (v1 : Int32) (S : ms_T) : Option Int32 := ((if v1 = (0 : Int32) then (some (S 12 3)) else if v1 = (1 : Int32) then (some (S 12 0)) else if v1 = (2 : Int32) then ((if (S 12 0) = 0 then (some (-6 : Int32)) else (some (S 12 1)))) else if v1 = (3 : Int32) then (fo_bd (f1_howMany (ms_from S 2)) (fun q83 => (some q83))) else if v1 = (4 : Int32) then (fo_bd (f6_sum 0 4 (S 6)) (fun q91 => (some q91))) else if v1 = (5 : Int32) then (fo_bd (f1_inAll (ms_from S 2)) (fun q99 => (some q99))) else if v1 = (6 : Int32) then (some (S 12 4)) else if v1 = (7 : Int32) then (some (S 12 5)) else if v1 = (8 : Int32) then (some (S 12 2)) else ((if v1 < (9 : Int32) then (some (-2 : Int32)) else ((if (14 : Int32) ≤ v1 then (some (-2 : Int32)) else (fo_bd (f6_at 0 5 (v1 - (9 : Int32)) (S 5)) (fun q138 => (some q138)))))))))
def f0_copyFrom (Z : ms_T) (S : ms_T) : Option ms_T := (fo_bd (f5_copyFrom Z S) (fun q8 => (fo_bd (f1_copyFrom (ms_from Z 2) (ms_from (ms_sub S 0 2 q8) 2)) (fun q19 => (fo_bd (f6_copyFrom 5 (Z 5) ((ms_sub (ms_sub S 0 2 q8) 2 3 q19) 5)) (fun q30 => (fo_bd (f6_copyFrom 4 (Z 6) ((ms_set (ms_sub (ms_sub S 0 2 q8) 2 3 q19) 5 q30) 6)) (fun q41 => (fo_bd (f6_copyFrom 4 (Z 7) ((ms_set (ms_set (ms_sub (ms_sub S 0 2 q8) 2 3 q19) 5 q30) 6 q41) 7)) (fun q52 => (fo_bd (f6_copyFrom 4 (Z 8) ((ms_set (ms_set (ms_set (ms_sub (ms_sub S 0 2 q8) 2 3 q19) 5 q30) 6 q41) 7 q52) 8)) (fun q63 => (fo_bd (f6_copyFrom 4 (Z 9) ((ms_set (ms_set (ms_set (ms_set (ms_sub (ms_sub S 0 2 q8) 2 3 q19) 5 q30) 6 q41) 7 q52) 8 q63) 9)) (fun q74 => (fo_bd (f6_copyFrom 4 (Z 10) ((ms_set (ms_set (ms_set (ms_set (ms_set (ms_sub (ms_sub S 0 2 q8) 2 3 q19) 5 q30) 6 q41) 7 q52) 8 q63) 9 q74) 10)) (fun q85 => (fo_bd (f6_copyFrom 4 (Z 11) ((ms_set (ms_set (ms_set (ms_set (ms_set (ms_set (ms_sub (ms_sub S 0 2 q8) 2 3 q19) 5 q30) 6 q41) 7 q52) 8 q63) 9 q74) 10 q85) 11)) (fun q96 => (some (ms_set (ms_set (ms_set (ms_set (ms_set (ms_set (ms_set (ms_set (ms_set (ms_set (ms_set (ms_set (ms_set (ms_sub (ms_sub S 0 2 q8) 2 3 q19) 5 q30) 6 q41) 7 q52) 8 q63) 9 q74) 10 q85) 11 q96) 12 (upd ((ms_set (ms_set (ms_set (ms_set (ms_set (ms_set (ms_set (ms_sub (ms_sub S 0 2 q8) 2 3 q19) 5 q30) 6 q41) 7 q52) 8 q63) 9 q74) 10 q85) 11 q96) 12) 0 ((Z 12) 0))) 12 (upd ((ms_set (ms_set (ms_set (ms_set (ms_set (ms_set (ms_set (ms_set (ms_sub (ms_sub S 0 2 q8) 2 3 q19) 5 q30) 6 q41) 7 q52) 8 q63) 9 q74) 10 q85) 11 q96) 12 (upd ((ms_set (ms_set (ms_set (ms_set (ms_set (ms_set (ms_set (ms_sub (ms_sub S 0 2 q8) 2 3 q19) 5 q30) 6 q41) 7 q52) 8 q63) 9 q74) 10 q85) 11 q96) 12) 0 ((Z 12) 0))) 12) 1 ((Z 12) 1))) 12 (upd ((ms_set (ms_set (ms_set (ms_set (ms_set (ms_set (ms_set (ms_set (ms_set (ms_sub (ms_sub S 0 2 q8) 2 3 q19) 5 q30) 6 q41) 7 q52) 8 q63) 9 q74) 10 q85) 11 q96) 12 (upd ((ms_set (ms_set (ms_set (ms_set (ms_set (ms_set (ms_set (ms_sub (ms_sub S 0 2 q8) 2 3 q19) 5 q30) 6 q41) 7 q52) 8 q63) 9 q74) 10 q85) 11 q96) 12) 0 ((Z 12) 0))) 12 (upd ((ms_set (ms_set (ms_set (ms_set (ms_set (ms_set (ms_set (ms_set (ms_sub (ms_sub S 0 2 q8) 2 3 q19) 5 q30) 6 q41) 7 q52) 8 q63) 9 q74) 10 q85) 11 q96) 12 (upd ((ms_set (ms_set (ms_set (ms_set (ms_set (ms_set (ms_set (ms_sub (ms_sub S 0 2 q8) 2 3 q19) 5 q30) 6 q41) 7 q52) 8 q63) 9 q74) 10 q85) 11 q96) 12) 0 ((Z 12) 0))) 12) 1 ((Z 12) 1))) 12) 2 ((Z 12) 2))) 12 (upd ((ms_set (ms_set (ms_set (ms_set (ms_set (ms_set (ms_set (ms_set (ms_set (ms_set (ms_sub (ms_sub S 0 2 q8) 2 3 q19) 5 q30) 6 q41) 7 q52) 8 q63) 9 q74) 10 q85) 11 q96) 12 (upd ((ms_set (ms_set (ms_set (ms_set (ms_set (ms_set (ms_set (ms_sub (ms_sub S 0 2 q8) 2 3 q19) 5 q30) 6 q41) 7 q52) 8 q63) 9 q74) 10 q85) 11 q96) 12) 0 ((Z 12) 0))) 12 (upd ((ms_set (ms_set (ms_set (ms_set (ms_set (ms_set (ms_set (ms_set (ms_sub (ms_sub S 0 2 q8) 2 3 q19) 5 q30) 6 q41) 7 q52) 8 q63) 9 q74) 10 q85) 11 q96) 12 (upd ((ms_set (ms_set (ms_set (ms_set (ms_set (ms_set (ms_set (ms_sub (ms_sub S 0 2 q8) 2 3 q19) 5 q30) 6 q41) 7 q52) 8 q63) 9 q74) 10 q85) 11 q96) 12) 0 ((Z 12) 0))) 12) 1 ((Z 12) 1))) 12 (upd ((ms_set (ms_set (ms_set (ms_set (ms_set (ms_set (ms_set (ms_set (ms_set (ms_sub (ms_sub S 0 2 q8) 2 3 q19) 5 q30) 6 q41) 7 q52) 8 q63) 9 q74) 10 q85) 11 q96) 12 (upd ((ms_set (ms_set (ms_set (ms_set (ms_set (ms_set (ms_set (ms_sub (ms_sub S 0 2 q8) 2 3 q19) 5 q30) 6 q41) 7 q52) 8 q63) 9 q74) 10 q85) 11 q96) 12) 0 ((Z 12) 0))) 12 (upd ((ms_set (ms_set (ms_set (ms_set (ms_set (ms_set (ms_set (ms_set (ms_sub (ms_sub S 0 2 q8) 2 3 q19) 5 q30) 6 q41) 7 q52) 8 q63) 9 q74) 10 q85) 11 q96) 12 (upd ((ms_set (ms_set (ms_set (ms_set (ms_set (ms_set (ms_set (ms_sub (ms_sub S 0 2 q8) 2 3 q19) 5 q30) 6 q41) 7 q52) 8 q63) 9 q74) 10 q85) 11 q96) 12) 0 ((Z 12) 0))) 12) 1 ((Z 12) 1))) 12) 2 ((Z 12) 2))) 12) 3 ((Z 12) 3))) 12 (upd ((ms_set (ms_set (ms_set (ms_set (ms_set (ms_set (ms_set (ms_set (ms_set (ms_set (ms_set (ms_sub (ms_sub S 0 2 q8) 2 3 q19) 5 q30) 6 q41) 7 q52) 8 q63) 9 q74) 10 q85) 11 q96) 12 (upd ((ms_set (ms_set (ms_set (ms_set (ms_set (ms_set (ms_set (ms_sub (ms_sub S 0 2 q8) 2 3 q19) 5 q30) 6 q41) 7 q52) 8 q63) 9 q74) 10 q85) 11 q96) 12) 0 ((Z 12) 0))) 12 (upd ((ms_set (ms_set (ms_set (ms_set (ms_set (ms_set (ms_set (ms_set (ms_sub (ms_sub S 0 2 q8) 2 3 q19) 5 q30) 6 q41) 7 q52) 8 q63) 9 q74) 10 q85) 11 q96) 12 (upd ((ms_set (ms_set (ms_set (ms_set (ms_set (ms_set (ms_set (ms_sub (ms_sub S 0 2 q8) 2 3 q19) 5 q30) 6 q41) 7 q52) 8 q63) 9 q74) 10 q85) 11 q96) 12) 0 ((Z 12) 0))) 12) 1 ((Z 12) 1))) 12 (upd ((ms_set (ms_set (ms_set (ms_set (ms_set (ms_set (ms_set (ms_set (ms_set (ms_sub (ms_sub S 0 2 q8) 2 3 q19) 5 q30) 6 q41) 7 q52) 8 q63) 9 q74) 10 q85) 11 q96) 12 (upd ((ms_set (ms_set (ms_set (ms_set (ms_set (ms_set (ms_set (ms_sub (ms_sub S 0 2 q8) 2 3 q19) 5 q30) 6 q41) 7 q52) 8 q63) 9 q74) 10 q85) 11 q96) 12) 0 ((Z 12) 0))) 12 (upd ((ms_set (ms_set (ms_set (ms_set (ms_set (ms_set (ms_set (ms_set (ms_sub (ms_sub S 0 2 q8) 2 3 q19) 5 q30) 6 q41) 7 q52) 8 q63) 9 q74) 10 q85) 11 q96) 12 (upd ((ms_set (ms_set (ms_set (ms_set (ms_set (ms_set (ms_set (ms_sub (ms_sub S 0 2 q8) 2 3 q19) 5 q30) 6 q41) 7 q52) 8 q63) 9 q74) 10 q85) 11 q96) 12) 0 ((Z 12) 0))) 12) 1 ((Z 12) 1))) 12) 2 ((Z 12) 2))) 12 (upd ((ms_set (ms_set (ms_set (ms_set (ms_set (ms_set (ms_set (ms_set (ms_set (ms_set (ms_sub (ms_sub S 0 2 q8) 2 3 q19) 5 q30) 6 q41) 7 q52) 8 q63) 9 q74) 10 q85) 11 q96) 12 (upd ((ms_set (ms_set (ms_set (ms_set (ms_set (ms_set (ms_set (ms_sub (ms_sub S 0 2 q8) 2 3 q19) 5 q30) 6 q41) 7 q52) 8 q63) 9 q74) 10 q85) 11 q96) 12) 0 ((Z 12) 0))) 12 (upd ((ms_set (ms_set (ms_set (ms_set (ms_set (ms_set (ms_set (ms_set (ms_sub (ms_sub S 0 2 q8) 2 3 q19) 5 q30) 6 q41) 7 q52) 8 q63) 9 q74) 10 q85) 11 q96) 12 (upd ((ms_set (ms_set (ms_set (ms_set (ms_set (ms_set (ms_set (ms_sub (ms_sub S 0 2 q8) 2 3 q19) 5 q30) 6 q41) 7 q52) 8 q63) 9 q74) 10 q85) 11 q96) 12) 0 ((Z 12) 0))) 12) 1 ((Z 12) 1))) 12 (upd ((ms_set (ms_set (ms_set (ms_set (ms_set (ms_set (ms_set (ms_set (ms_set (ms_sub (ms_sub S 0 2 q8) 2 3 q19) 5 q30) 6 q41) 7 q52) 8 q63) 9 q74) 10 q85) 11 q96) 12 (upd ((ms_set (ms_set (ms_set (ms_set (ms_set (ms_set (ms_set (ms_sub (ms_sub S 0 2 q8) 2 3 q19) 5 q30) 6 q41) 7 q52) 8 q63) 9 q74) 10 q85) 11 q96) 12) 0 ((Z 12) 0))) 12 (upd ((ms_set (ms_set (ms_set (ms_set (ms_set (ms_set (ms_set (ms_set (ms_sub (ms_sub S 0 2 q8) 2 3 q19) 5 q30) 6 q41) 7 q52) 8 q63) 9 q74) 10 q85) 11 q96) 12 (upd ((ms_set (ms_set (ms_set (ms_set (ms_set (ms_set (ms_set (ms_sub (ms_sub S 0 2 q8) 2 3 q19) 5 q30) 6 q41) 7 q52) 8 q63) 9 q74) 10 q85) 11 q96) 12) 0 ((Z 12) 0))) 12) 1 ((Z 12) 1))) 12) 2 ((Z 12) 2))) 12) 3 ((Z 12) 3))) 12) 4 ((Z 12) 4))) 12 (upd ((ms_set (ms_set (ms_set (ms_set (ms_set (ms_set (ms_set (ms_set (ms_set (ms_set (ms_set (ms_set (ms_sub (ms_sub S 0 2 q8) 2 3 q19) 5 q30) 6 q41) 7 q52) 8 q63) 9 q74) 10 q85) 11 q96) 12 (upd ((ms_set (ms_set (ms_set (ms_set (ms_set (ms_set (ms_set (ms_sub (ms_sub S 0 2 q8) 2 3 q19) 5 q30) 6 q41) 7 q52) 8 q63) 9 q74) 10 q85) 11 q96) 12) 0 ((Z 12) 0))) 12 (upd ((ms_set (ms_set (ms_set (ms_set (ms_set (ms_set (ms_set (ms_set (ms_sub (ms_sub S 0 2 q8) 2 3 q19) 5 q30) 6 q41) 7 q52) 8 q63) 9 q74) 10 q85) 11 q96) 12 (upd ((ms_set (ms_set (ms_set (ms_set (ms_set (ms_set (ms_set (ms_sub (ms_sub S 0 2 q8) 2 3 q19) 5 q30) 6 q41) 7 q52) 8 q63) 9 q74) 10 q85) 11 q96) 12) 0 ((Z 12) 0))) 12) 1 ((Z 12) 1))) 12 (upd ((ms_set (ms_set (ms_set (ms_set (ms_set (ms_set (ms_set (ms_set (ms_set (ms_sub (ms_sub S 0 2 q8) 2 3 q19) 5 q30) 6 q41) 7 q52) 8 q63) 9 q74) 10 q85) 11 q96) 12 (upd ((ms_set (ms_set (ms_set (ms_set (ms_set (ms_set (ms_set (ms_sub (ms_sub S 0 2 q8) 2 3 q19) 5 q30) 6 q41) 7 q52) 8 q63) 9 q74) 10 q85) 11 q96) 12) 0 ((Z 12) 0))) 12 (upd ((ms_set (ms_set (ms_set (ms_set (ms_set (ms_set (ms_set (ms_set (ms_sub (ms_sub S 0 2 q8) 2 3 q19) 5 q30) 6 q41) 7 q52) 8 q63) 9 q74) 10 q85) 11 q96) 12 (upd ((ms_set (ms_set (ms_set (ms_set (ms_set (ms_set (ms_set (ms_sub (ms_sub S 0 2 q8) 2 3 q19) 5 q30) 6 q41) 7 q52) 8 q63) 9 q74) 10 q85) 11 q96) 12) 0 ((Z 12) 0))) 12) 1 ((Z 12) 1))) 12) 2 ((Z 12) 2))) 12 (upd ((ms_set (ms_set (ms_set (ms_set (ms_set (ms_set (ms_set (ms_set (ms_set (ms_set (ms_sub (ms_sub S 0 2 q8) 2 3 q19) 5 q30) 6 q41) 7 q52) 8 q63) 9 q74) 10 q85) 11 q96) 12 (upd ((ms_set (ms_set (ms_set (ms_set (ms_set (ms_set (ms_set (ms_sub (ms_sub S 0 2 q8) 2 3 q19) 5 q30) 6 q41) 7 q52) 8 q63) 9 q74) 10 q85) 11 q96) 12) 0 ((Z 12) 0))) 12 (upd ((ms_set (ms_set (ms_set (ms_set (ms_set (ms_set (ms_set (ms_set (ms_sub (ms_sub S 0 2 q8) 2 3 q19) 5 q30) 6 q41) 7 q52) 8 q63) 9 q74) 10 q85) 11 q96) 12 (upd ((ms_set (ms_set (ms_set (ms_set (ms_set (ms_set (ms_set (ms_sub (ms_sub S 0 2 q8) 2 3 q19) 5 q30) 6 q41) 7 q52) 8 q63) 9 q74) 10 q85) 11 q96) 12) 0 ((Z 12) 0))) 12) 1 ((Z 12) 1))) 12 (upd ((ms_set (ms_set (ms_set (ms_set (ms_set (ms_set (ms_set (ms_set (ms_set (ms_sub (ms_sub S 0 2 q8) 2 3 q19) 5 q30) 6 q41) 7 q52) 8 q63) 9 q74) 10 q85) 11 q96) 12 (upd ((ms_set (ms_set (ms_set (ms_set (ms_set (ms_set (ms_set (ms_sub (ms_sub S 0 2 q8) 2 3 q19) 5 q30) 6 q41) 7 q52) 8 q63) 9 q74) 10 q85) 11 q96) 12) 0 ((Z 12) 0))) 12 (upd ((ms_set (ms_set (ms_set (ms_set (ms_set (ms_set (ms_set (ms_set (ms_sub (ms_sub S 0 2 q8) 2 3 q19) 5 q30) 6 q41) 7 q52) 8 q63) 9 q74) 10 q85) 11 q96) 12 (upd ((ms_set (ms_set (ms_set (ms_set (ms_set (ms_set (ms_set (ms_sub (ms_sub S 0 2 q8) 2 3 q19) 5 q30) 6 q41) 7 q52) 8 q63) 9 q74) 10 q85) 11 q96) 12) 0 ((Z 12) 0))) 12) 1 ((Z 12) 1))) 12) 2 ((Z 12) 2))) 12) 3 ((Z 12) 3))) 12 (upd ((ms_set (ms_set (ms_set (ms_set (ms_set (ms_set (ms_set (ms_set (ms_set (ms_set (ms_set (ms_sub (ms_sub S 0 2 q8) 2 3 q19) 5 q30) 6 q41) 7 q52) 8 q63) 9 q74) 10 q85) 11 q96) 12 (upd ((ms_set (ms_set (ms_set (ms_set (ms_set (ms_set (ms_set (ms_sub (ms_sub S 0 2 q8) 2 3 q19) 5 q30) 6 q41) 7 q52) 8 q63) 9 q74) 10 q85) 11 q96) 12) 0 ((Z 12) 0))) 12 (upd ((ms_set (ms_set (ms_set (ms_set (ms_set (ms_set (ms_set (ms_set (ms_sub (ms_sub S 0 2 q8) 2 3 q19) 5 q30) 6 q41) 7 q52) 8 q63) 9 q74) 10 q85) 11 q96) 12 (upd ((ms_set (ms_set (ms_set (ms_set (ms_set (ms_set (ms_set (ms_sub (ms_sub S 0 2 q8) 2 3 q19) 5 q30) 6 q41) 7 q52) 8 q63) 9 q74) 10 q85) 11 q96) 12) 0 ((Z 12) 0))) 12) 1 ((Z 12) 1))) 12 (upd ((ms_set (ms_set (ms_set (ms_set (ms_set (ms_set (ms_set (ms_set (ms_set (ms_sub (ms_sub S 0 2 q8) 2 3 q19) 5 q30) 6 q41) 7 q52) 8 q63) 9 q74) 10 q85) 11 q96) 12 (upd ((ms_set (ms_set (ms_set (ms_set (ms_set (ms_set (ms_set (ms_sub (ms_sub S 0 2 q8) 2 3 q19) 5 q30) 6 q41) 7 q52) 8 q63) 9 q74) 10 q85) 11 q96) 12) 0 ((Z 12) 0))) 12 (upd ((ms_set (ms_set (ms_set (ms_set (ms_set (ms_set (ms_set (ms_set (ms_sub (ms_sub S 0 2 q8) 2 3 q19) 5 q30) 6 q41) 7 q52) 8 q63) 9 q74) 10 q85) 11 q96) 12 (upd ((ms_set (ms_set (ms_set (ms_set (ms_set (ms_set (ms_set (ms_sub (ms_sub S 0 2 q8) 2 3 q19) 5 q30) 6 q41) 7 q52) 8 q63) 9 q74) 10 q85) 11 q96) 12) 0 ((Z 12) 0))) 12) 1 ((Z 12) 1))) 12) 2 ((Z 12) 2))) 12 (upd ((ms_set (ms_set (ms_set (ms_set (ms_set (ms_set (ms_set (ms_set (ms_set (ms_set (ms_sub (ms_sub S 0 2 q8) 2 3 q19) 5 q30) 6 q41) 7 q52) 8 q63) 9 q74) 10 q85) 11 q96) 12 (upd ((ms_set (ms_set (ms_set (ms_set (ms_set (ms_set (ms_set (ms_sub (ms_sub S 0 2 q8) 2 3 q19) 5 q30) 6 q41) 7 q52) 8 q63) 9 q74) 10 q85) 11 q96) 12) 0 ((Z 12) 0))) 12 (upd ((ms_set (ms_set (ms_set (ms_set (ms_set (ms_set (ms_set (ms_set (ms_sub (ms_sub S 0 2 q8) 2 3 q19) 5 q30) 6 q41) 7 q52) 8 q63) 9 q74) 10 q85) 11 q96) 12 (upd ((ms_set (ms_set (ms_set (ms_set (ms_set (ms_set (ms_set (ms_sub (ms_sub S 0 2 q8) 2 3 q19) 5 q30) 6 q41) 7 q52) 8 q63) 9 q74) 10 q85) 11 q96) 12) 0 ((Z 12) 0))) 12) 1 ((Z 12) 1))) 12 (upd ((ms_set (ms_set (ms_set (ms_set (ms_set (ms_set (ms_set (ms_set (ms_set (ms_sub (ms_sub S 0 2 q8) 2 3 q19) 5 q30) 6 q41) 7 q52) 8 q63) 9 q74) 10 q85) 11 q96) 12 (upd ((ms_set (ms_set (ms_set (ms_set (ms_set (ms_set (ms_set (ms_sub (ms_sub S 0 2 q8) 2 3 q19) 5 q30) 6 q41) 7 q52) 8 q63) 9 q74) 10 q85) 11 q96) 12) 0 ((Z 12) 0))) 12 (upd ((ms_set (ms_set (ms_set (ms_set (ms_set (ms_set (ms_set (ms_set (ms_sub (ms_sub S 0 2 q8) 2 3 q19) 5 q30) 6 q41) 7 q52) 8 q63) 9 q74) 10 q85) 11 q96) 12 (upd ((ms_set (ms_set (ms_set (ms_set (ms_set (ms_set (ms_set (ms_sub (ms_sub S 0 2 q8) 2 3 q19) 5 q30) 6 q41) 7 q52) 8 q63) 9 q74) 10 q85) 11 q96) 12) 0 ((Z 12) 0))) 12) 1 ((Z 12) 1))) 12) 2 ((Z 12) 2))) 12) 3 ((Z 12) 3))) 12) 4 ((Z 12) 4))) 12) 5 ((Z 12) 5))))))))))))))))))))))
def f0_describe_b132 (g : Nat) (rec6 : Int32 → ms_T → Option ms_T) (rec101 : Int32 → Int32 → ms_T → Option ms_T) (v2 : Int32) (v4 : Int32) (S : ms_T) : Option ms_T := (rec101 v2 (v4 + (1 : Int32)) S)
def f0_describe_b101 (g : Nat) (rec6 : Int32 → ms_T → Option ms_T) (rec101 : Int32 → Int32 → ms_T → Option ms_T) (v2 : Int32) (v4 : Int32) (S : ms_T) : Option ms_T := ((if (S 12 0) ≤ v4 then (rec6 (v2 + (1 : Int32)) S) else ((fo_bd (f6_at 0 4 v4 (S 7)) (fun q116 => (if q116 = v2 then (fo_bd (f3_append g ((65 : Int32) + v4) (ms_from S 13)) (fun q129 => (f0_describe_b132 g rec6 rec101 v2 v4 (ms_sub S 13 2 q129)))) else (f0_describe_b132 g rec6 rec101 v2 v4 S)))))))
def f0_describe_L101 (g : Nat) (rec6 : Int32 → ms_T → Option ms_T) : Nat → Int32 → Int32 → ms_T → Option ms_T
  | 0, _, _, _ => none
  | n + 1, v2, v4, S => f0_describe_b101 g rec6 (f0_describe_L101 g rec6 n) v2 v4 S
def f0_describe_b98 (g : Nat) (rec6 : Int32 → ms_T → Option ms_T) (v2 : Int32) (S : ms_T) : Option ms_T := (f0_describe_L101 g rec6 fo_fu v2 (0 : Int32) S)
def f0_describe_b70 (g : Nat) (rec6 : Int32 → ms_T → Option ms_T) (v2 : Int32) (S : ms_T) : Option ms_T := ((fo_bd (f5_secondOwner v2 S) (fun q75 => (if q75 = (-6 : Int32) then (f0_describe_b98 g rec6 v2 S) else (fo_bd (f5_secondOwner v2 S) (fun q91 => (fo_bd (f3_append g ((97 : Int32) + q91) (ms_from S 13)) (fun q95 => (f0_describe_b98 g rec6 v2 (ms_sub S 13 2 q95))))))))))
def f0_describe_b39 (g : Nat) (rec6 : Int32 → ms_T → Option ms_T) (v2 : Int32) (t1 : Int32) (S : ms_T) : Option ms_T := ((fo_bd (f3_append g t1 (ms_from S 13)) (fun q39 => (fo_bd (f5_firstOwner v2 (ms_sub S 13 2 q39)) (fun q47 => (if q47 = (-6 : Int32) then (f0_describe_b70 g rec6 v2 (ms_sub S 13 2 q39)) else (fo_bd (f5_firstOwner v2 (ms_sub S 13 2 q39)) (fun q63 => (fo_bd (f3_append g ((97 : Int32) + q63) (ms_from (ms_sub S 13 2 q39) 13)) (fun q67 => (f0_describe_b70 g rec6 v2 (ms_sub (ms_sub S 13 2 q39) 13 2 q67))))))))))))
def f0_describe_b6 (g : Nat) (rec6 : Int32 → ms_T → Option ms_T) (v2 : Int32) (S : ms_T) : Option ms_T := ((if (20 : Int32) ≤ v2 then (some S) else ((fo_bd (f5_sortOf v2) (fun q13 => (if q13 = 0 then (f0_describe_b39 g rec6 v2 (111 : Int32) S) else ((if q13 = (1 : Int32) then (f0_describe_b39 g rec6 v2 (45 : Int32) S) else (f0_describe_b39 g rec6 v2 (61 : Int32) S)))))))))
def f0_describe_L6 (g : Nat) : Nat → Int32 → ms_T → Option ms_T
  | 0, _, _ => none
  | n + 1, v2, S => f0_describe_b6 g (f0_describe_L6 g n) v2 S
def f0_describe (g : Nat) (S : ms_T) : Option ms_T := (fo_bd (f3_makeEmpty g (ms_from S 13)) (fun q1 => (f0_describe_L6 g fo_fu (0 : Int32) (ms_sub S 13 2 q1))))
def f4_signsIn_b8 (rec8 : Int64 → Int32 → Int32 → Option Int32) (v2 : Int64) (v4 : Int32) (v5 : Int32) : Option Int32 := ((if (8 : Int32) ≤ v5 then (some v4) else ((if (lg_cmp v2 (0 : Int64)) = 0 then (some v4) else ((if ((v2 &&& (255 : Int64)).toInt32) < (33 : Int32) then (some (0 : Int32)) else ((if ((v2 &&& (255 : Int64)).toInt32) ≤ (126 : Int32) then (rec8 ((v2.toUInt64 >>> ((8 : Int32).toInt64.toUInt64 &&& Int64.toUInt64 63)).toInt64) (v4 + (1 : Int32)) (v5 + (1 : Int32))) else (some (0 : Int32))))))))))
def f4_signsIn_L8 : Nat → Int64 → Int32 → Int32 → Option Int32
  | 0, _, _, _ => none
  | n + 1, v2, v4, v5 => f4_signsIn_b8 (f4_signsIn_L8 n) v2 v4 v5
def f4_signsIn (v0 : Int64) : Option Int32 := (f4_signsIn_L8 fo_fu v0 (0 : Int32) (0 : Int32))
def f4_signOf (v0 : Int64) (v2 : Int32) : Option Int32 := (some ((((v0.toUInt64 >>> (((8 : Int32) * v2).toInt64.toUInt64 &&& Int64.toUInt64 63)).toInt64) &&& (255 : Int64)).toInt32))
def f4_isDigit (v0 : Int32) : Option Int32 := ((if v0 < (48 : Int32) then (some (0 : Int32)) else ((if (57 : Int32) < v0 then (some (0 : Int32)) else (some (1 : Int32))))))
def f4_dueBehindLetter (v0 : Int32) : Option Int32 := ((if v0 = (112 : Int32) then (some (1 : Int32)) else ((if v0 = (116 : Int32) then (some (1 : Int32)) else ((if v0 = (120 : Int32) then (some (1 : Int32)) else ((if v0 = (99 : Int32) then (some (2 : Int32)) else (some (-1 : Int32))))))))))
def f4_dueBehind_b22 (v0 : Int32) (v1 : Int32) : Option Int32 := ((fo_bd (f4_isDigit v1) (fun q23 => (if q23 = 0 then (some (-1 : Int32)) else ((if v0 = (3 : Int32) then (some (-1 : Int32)) else ((if v0 = (1 : Int32) then ((if v1 = (48 : Int32) then (some (3 : Int32)) else (some (6 : Int32)))) else ((if v0 = (2 : Int32) then (some (3 : Int32)) else (some (v0 - (1 : Int32)))))))))))))
def f4_dueBehind (v0 : Int32) (v1 : Int32) : Option Int32 := ((if v0 = 0 then (fo_bd (f4_dueBehindLetter v1) (fun q5 => (some q5))) else ((if v0 < (3 : Int32) then (f4_dueBehind_b22 v0 v1) else ((if v1 = (59 : Int32) then (some (0 : Int32)) else (f4_dueBehind_b22 v0 v1)))))))
def f4_firstFault_b4 (g : Nat) (rec4 : Int32 → Int32 → ms_T → Option Int32) (v1 : Int32) (v2 : Int32) (S : ms_T) : Option Int32 := ((fo_bd (f3_length g S) (fun q6 => (if q6 ≤ v2 then ((if v1 < (3 : Int32) then (fo_bd (f3_length g S) (fun q46 => (some q46))) else (some (-6 : Int32)))) else ((fo_bd (f3_at g v2 S) (fun q15 => (fo_bd (f4_dueBehind v1 q15) (fun q18 => (if q18 = (-1 : Int32) then (some v2) else (rec4 q18 (v2 + (1 : Int32)) S)))))))))))
def f4_firstFault_L4 (g : Nat) : Nat → Int32 → Int32 → ms_T → Option Int32
  | 0, _, _, _ => none
  | n + 1, v1, v2, S => f4_firstFault_b4 g (f4_firstFault_L4 g n) v1 v2 S
def f4_firstFault (g : Nat) (S : ms_T) : Option Int32 := (f4_firstFault_L4 g fo_fu (0 : Int32) (0 : Int32) S)
end
section
/-! ## DiceRoadsModel.within(III)Z -/
section
variable {p : Program} {l : Launch} {e : Env} {s : State} {m : MethodId} {args : Array Value} {below : List Frame} {meth : Method} {c : Code} {dC : Nat → ClassId} {dI : Nat → Nat → Nat} {cI : ClassId} {A : Nat → Prop}
set_option maxRecDepth 100000 in
set_option maxHeartbeats 4000000 in
theorem w8_within (C : cx_M p s m args meth c RX8 cX8_within (some .boolean) 3) (hK : va_K (dC, dI) vwCl [] s) (hA : ∀ q, s.heap.size ≤ q → A q) {a : Nat → Nat} {q : Int32} {v0 : Int32} {v1 : Int32} {v2 : Int32} (h : f8_within v0 v1 v2 = some q) {H : Heap} {locs : List Loc} {ls : Array Slot} (hG : gd_W (dC, dI) A s ([] : va_W) H locs) (hl : lv_has ls 3 [(0, .int v0), (1, .int v1), (2, .int v2)]) : W p l e RM8_within s m args below meth c H locs 0 0 (MQ below (qi_W (dC, dI) [] A q ([] : va_W)) args s 0 0 A) (F0 m 0 ls []) := by
  unfold f8_within at h
  obtain ⟨hx, hb, hr, hts, hown, hlocks, hml⟩ := id C
  refine lv_iload_n hx hb dX8_within_0 rfl (lv_at hl 0 rfl) ?_
  refine lv_iload_n hx hb dX8_within_1 rfl (lv_at hl 1 rfl) ?_
  refine lv_icmp_lt (tgt := 14) hx hb dX8_within_2 (by decide) (fun hc => ?_) (fun hc => ?_)
  · have h := fo_it h hc
    refine lv_iconst (v := (0 : Int32)) hx hb dX8_within_14 (by decide) ?_
    exact gr_z hx hb hr hlocks hK hG (Option.some.inj h) rfl dX8_within_15
  · have h := fo_if h hc
    refine lv_iload_n hx hb dX8_within_5 rfl (lv_at hl 0 rfl) ?_
    refine lv_iload_n hx hb dX8_within_6 rfl (lv_at hl 2 rfl) ?_
    refine lv_icmp_gt (tgt := 14) hx hb dX8_within_7 (by decide) (fun hc => ?_) (fun hc => ?_)
    · have h := fo_it h hc
      refine lv_iconst (v := (0 : Int32)) hx hb dX8_within_14 (by decide) ?_
      exact gr_z hx hb hr hlocks hK hG (Option.some.inj h) rfl dX8_within_15
    · have h := fo_if h hc
      refine lv_iconst (v := (1 : Int32)) hx hb dX8_within_10 (by decide) ?_
      refine lv_goto (tgt := 15) hx hb dX8_within_11 (by decide) ?_
      exact gr_z hx hb hr hlocks hK hG (Option.some.inj h) rfl dX8_within_15
set_option maxRecDepth 100000 in
set_option maxHeartbeats 4000000 in
theorem c8_within (l : Launch) {dC : Nat → ClassId} {dI : Nat → Nat → Nat} {a : Nat → Nat} {v0 : Int32} {v1 : Int32} {v2 : Int32} {q : Int32} (h : f8_within v0 v1 v2 = some q) : mi_M l yX8_within wm8_within RM8_within (dC, dI) [] [.int v0, .int v1, .int v2] ([] : va_W) q ([] : va_W) := by
  intro sz
  refine Met.ofW (cc := cX8_within) (maxL := 3) (ret := (some .boolean)) (by decide) rfl ?_
  intro p e s m args below meth c s₁ B hml hv
  obtain ⟨rfl, hsz, hP, hK, hD0⟩ := hv
  subst hsz
  have hl := lv_entry ([.int v0, .int v1, .int v2] : List Value) (n := 3) (Nat.le_of_ble_eq_true rfl)
  rw [lg_entry_eq]
  generalize (lg_sl ([.int v0, .int v1, .int v2] : List Value) ++ List.replicate (3 - (lg_sl ([.int v0, .int v1, .int v2] : List Value)).length) Slot.unset).toArray = ls at hl ⊢
  exact w8_within (a := a) ⟨B.exec, B.bytes, B.returns, fun w hw => atoms_spec (ws := wm8_within) B.pre w (List.mem_cons_of_mem _ hw), findClass_of_methodNamed B.named, B.notSynchronized, hml⟩ hK (fun _ h => Or.inr h) h ⟨hP, hD0.self, va_S.rf⟩ hl
end
/-! ## DiceRoadsModel.playerPart(II)I -/
section
variable {p : Program} {l : Launch} {e : Env} {s : State} {m : MethodId} {args : Array Value} {below : List Frame} {meth : Method} {c : Code} {dC : Nat → ClassId} {dI : Nat → Nat → Nat} {cI : ClassId} {A : Nat → Prop}
set_option maxRecDepth 100000 in
set_option maxHeartbeats 4000000 in
theorem w8_playerPart (C : cx_M p s m args meth c RX8 cX8_playerPart (some .int) 3) (hK : va_K (dC, dI) vwCl [(cI, .int)] s) (hA : ∀ q, s.heap.size ≤ q → A q) {a : Nat → Nat} {X : Nat → Int32} {q : Int32} {v1 : Int32} {v2 : Int32} {S : (Nat → Int32)} (h : f8_playerPart v1 v2 S = some q) {H : Heap} {locs : List Loc} {ls : Array Slot} (hG : gd_W (dC, dI) A s (wd_M0 cI a X S) H locs) (hl : lv_has ls 3 [(0, .ref (a 0)), (1, .int v1), (2, .int v2)]) : W p l e RM8_playerPart s m args below meth c H locs 0 0 (MQ below (qi_W (dC, dI) [(cI, .int)] A q (wd_M0 cI a X S)) args s 0 0 A) (F0 m 0 ls []) := by
  unfold f8_playerPart at h
  obtain ⟨hx, hb, hr, hts, hown, hlocks, hml⟩ := id C
  refine lv_aload_n hx hb dX8_playerPart_0 rfl (lv_at hl 0 rfl) ?_
  refine va_get (D := (dC, dI)) (ci := 7) (v := .ref (a 1)) (C := RX8) (T := TX8) (N := 17) hx hb hts inlX8 hown hK hG.1 0 rfl rfl 0 (by decide) (hts (Cond.fieldLink RX8 7 "DiceRoadsModel" "state" "[I") wq_637) (fun _ h9 => h9) rfl dX8_playerPart_1 ?_
  refine lv_bipush (v := (51 : Int32)) hx hb dX8_playerPart_4 (by decide) ?_
  refine lv_bipush (v := (6 : Int32)) hx hb dX8_playerPart_6 (by decide) ?_
  refine lv_iload_n hx hb dX8_playerPart_8 rfl (lv_at hl 1 rfl) ?_
  refine lv_imul hx hb dX8_playerPart_9 ?_
  refine lv_iadd hx hb dX8_playerPart_10 ?_
  refine lv_iload_n hx hb dX8_playerPart_11 rfl (lv_at hl 2 rfl) ?_
  refine lv_iadd hx hb dX8_playerPart_12 ?_
  obtain ⟨hi, h⟩ := fo_ck_some h
  refine va_iald hx hb hK hG.1 1 0 rfl rfl hi dX8_playerPart_13 ?_
  exact gr_i hx hb hr hlocks hK hG (Option.some.inj h) dX8_playerPart_14
set_option maxRecDepth 100000 in
set_option maxHeartbeats 4000000 in
theorem c8_playerPart (l : Launch) {dC : Nat → ClassId} {dI : Nat → Nat → Nat} {cI : ClassId} {a : Nat → Nat} {X : Nat → Int32} {v1 : Int32} {v2 : Int32} {S : (Nat → Int32)} {q : Int32} (h : f8_playerPart v1 v2 S = some q) : mi_M l yX8_playerPart wm8_playerPart RM8_playerPart (dC, dI) [(cI, .int)] [.ref (a 0), .int v1, .int v2] (wd_M0 cI a X S) q (wd_M0 cI a X S) := by
  intro sz
  refine Met.ofW (cc := cX8_playerPart) (maxL := 3) (ret := (some .int)) (by decide) rfl ?_
  intro p e s m args below meth c s₁ B hml hv
  obtain ⟨rfl, hsz, hP, hK, hD0⟩ := hv
  subst hsz
  have hl := lv_entry ([.ref (a 0), .int v1, .int v2] : List Value) (n := 3) (Nat.le_of_ble_eq_true rfl)
  rw [lg_entry_eq]
  generalize (lg_sl ([.ref (a 0), .int v1, .int v2] : List Value) ++ List.replicate (3 - (lg_sl ([.ref (a 0), .int v1, .int v2] : List Value)).length) Slot.unset).toArray = ls at hl ⊢
  exact w8_playerPart (a := a) ⟨B.exec, B.bytes, B.returns, fun w hw => atoms_spec (ws := wm8_playerPart) B.pre w (List.mem_cons_of_mem _ hw), findClass_of_methodNamed B.named, B.notSynchronized, hml⟩ hK (fun _ h => Or.inr h) h ⟨hP, hD0.self, va_S.rf⟩ hl
end
/-! ## DiceRoadsModel.isPlayer(I)Z -/
section
variable {p : Program} {l : Launch} {e : Env} {s : State} {m : MethodId} {args : Array Value} {below : List Frame} {meth : Method} {c : Code} {dC : Nat → ClassId} {dI : Nat → Nat → Nat} {cI : ClassId} {A : Nat → Prop}
set_option maxRecDepth 100000 in
set_option maxHeartbeats 4000000 in
theorem w8_isPlayer (C : cx_M p s m args meth c RX8 cX8_isPlayer (some .boolean) 2) (hK : va_K (dC, dI) vwCl [(cI, .int)] s) (hA : ∀ q, s.heap.size ≤ q → A q) {a : Nat → Nat} {X : Nat → Int32} {q : Int32} {v1 : Int32} {S : (Nat → Int32)} (h : f8_isPlayer v1 S = some q) {H : Heap} {locs : List Loc} {ls : Array Slot} (hG : gd_W (dC, dI) A s (wd_M0 cI a X S) H locs) (hl : lv_has ls 2 [(0, .ref (a 0)), (1, .int v1)]) : W p l e RM8_isPlayer s m args below meth c H locs 0 0 (MQ below (qi_W (dC, dI) [(cI, .int)] A q (wd_M0 cI a X S)) args s 0 0 A) (F0 m 0 ls []) := by
  unfold f8_isPlayer at h
  obtain ⟨hx, hb, hr, hts, hown, hlocks, hml⟩ := id C
  refine lv_iload_n hx hb dX8_isPlayer_0 rfl (lv_at hl 1 rfl) ?_
  refine lv_iconst (v := (0 : Int32)) hx hb dX8_isPlayer_1 (by decide) ?_
  refine lv_aload_n hx hb dX8_isPlayer_2 rfl (lv_at hl 0 rfl) ?_
  refine va_get (D := (dC, dI)) (ci := 7) (v := .ref (a 1)) (C := RX8) (T := TX8) (N := 17) hx hb hts inlX8 hown hK hG.1 0 rfl rfl 0 (by decide) (hts (Cond.fieldLink RX8 7 "DiceRoadsModel" "state" "[I") wq_637) (fun _ h9 => h9) rfl dX8_isPlayer_3 ?_
  refine lv_bipush (v := (6 : Int32)) hx hb dX8_isPlayer_6 (by decide) ?_
  obtain ⟨hi, h⟩ := fo_ck_some h
  refine va_iald hx hb hK hG.1 1 0 rfl rfl hi dX8_isPlayer_8 ?_
  refine lv_iconst (v := (1 : Int32)) hx hb dX8_isPlayer_9 (by decide) ?_
  refine lv_isub hx hb dX8_isPlayer_10 ?_
  obtain ⟨q11, hq11, h⟩ := fo_bd_some h
  refine gc_iS (As := [.int v1, .int (0 : Int32), .int ((S (6 : Int32).toNatClampNeg) - (1 : Int32))]) (rest := []) (wc := ([] : va_W)) (w1 := ([] : va_W)) ⟨hx, hb, hml, hown, hts⟩ (c8_within l (a := a) hq11) (va_cwS 3 hts gv_X8_42 rfl rfl rfl hd8_within ⟨Nat.le_of_ble_eq_true rfl, Nat.le_of_ble_eq_true rfl⟩) hK [] rfl hA hG [] rfl rfl rfl rfl hl.1 rfl (by decide) dX8_isPlayer_11 ⟨Nat.zero_le _, Nat.zero_le _⟩ (fun H locs hG9 => ?_)
  have hG : gd_W (dC, dI) A s (wd_M0 cI a X S) H locs := hG9
  obtain ⟨hz, h⟩ := fo_zz_some h
  exact gr_z hx hb hr hlocks hK hG (Option.some.inj h) (nar_b hz) dX8_isPlayer_14
set_option maxRecDepth 100000 in
set_option maxHeartbeats 4000000 in
theorem c8_isPlayer (l : Launch) {dC : Nat → ClassId} {dI : Nat → Nat → Nat} {cI : ClassId} {a : Nat → Nat} {X : Nat → Int32} {v1 : Int32} {S : (Nat → Int32)} {q : Int32} (h : f8_isPlayer v1 S = some q) : mi_M l yX8_isPlayer wm8_isPlayer RM8_isPlayer (dC, dI) [(cI, .int)] [.ref (a 0), .int v1] (wd_M0 cI a X S) q (wd_M0 cI a X S) := by
  intro sz
  refine Met.ofW (cc := cX8_isPlayer) (maxL := 2) (ret := (some .boolean)) (by decide) rfl ?_
  intro p e s m args below meth c s₁ B hml hv
  obtain ⟨rfl, hsz, hP, hK, hD0⟩ := hv
  subst hsz
  have hl := lv_entry ([.ref (a 0), .int v1] : List Value) (n := 2) (Nat.le_of_ble_eq_true rfl)
  rw [lg_entry_eq]
  generalize (lg_sl ([.ref (a 0), .int v1] : List Value) ++ List.replicate (2 - (lg_sl ([.ref (a 0), .int v1] : List Value)).length) Slot.unset).toArray = ls at hl ⊢
  exact w8_isPlayer (a := a) ⟨B.exec, B.bytes, B.returns, fun w hw => atoms_spec (ws := wm8_isPlayer) B.pre w (List.mem_cons_of_mem _ hw), findClass_of_methodNamed B.named, B.notSynchronized, hml⟩ hK (fun _ h => Or.inr h) h ⟨hP, hD0.self, va_S.rf⟩ hl
end
/-! ## DiceRoadsModel.adds(III)V -/
section
variable {p : Program} {l : Launch} {e : Env} {s : State} {m : MethodId} {args : Array Value} {below : List Frame} {meth : Method} {c : Code} {dC : Nat → ClassId} {dI : Nat → Nat → Nat} {cI : ClassId} {A : Nat → Prop}
set_option maxRecDepth 100000 in
set_option maxHeartbeats 4000000 in
theorem w8_adds (C : cx_M p s m args meth c RX8 cX8_adds none 4) (hK : va_K (dC, dI) vwCl [(cI, .int)] s) (hA : ∀ q, s.heap.size ≤ q → A q) {a : Nat → Nat} {X : Nat → Int32} {q : (Nat → Int32)} {v1 : Int32} {v2 : Int32} {v3 : Int32} {S : (Nat → Int32)} (h : f8_adds v1 v2 v3 S = some q) {H : Heap} {locs : List Loc} {ls : Array Slot} (hG : gd_W (dC, dI) A s (wd_M0 cI a X S) H locs) (hl : lv_has ls 4 [(0, .ref (a 0)), (1, .int v1), (2, .int v2), (3, .int v3)]) : W p l e RM8_adds s m args below meth c H locs 0 0 (MQ below (qv_W (dC, dI) [(cI, .int)] A (wd_M0 cI a X q)) args s 0 0 A) (F0 m 0 ls []) := by
  unfold f8_adds at h
  obtain ⟨hx, hb, hr, hts, hown, hlocks, hml⟩ := id C
  refine lv_aload_n hx hb dX8_adds_0 rfl (lv_at hl 0 rfl) ?_
  refine va_get (D := (dC, dI)) (ci := 7) (v := .ref (a 1)) (C := RX8) (T := TX8) (N := 17) hx hb hts inlX8 hown hK hG.1 0 rfl rfl 0 (by decide) (hts (Cond.fieldLink RX8 7 "DiceRoadsModel" "state" "[I") wq_637) (fun _ h9 => h9) rfl dX8_adds_1 ?_
  refine lv_bipush (v := (51 : Int32)) hx hb dX8_adds_4 (by decide) ?_
  refine lv_bipush (v := (6 : Int32)) hx hb dX8_adds_6 (by decide) ?_
  refine lv_iload_n hx hb dX8_adds_8 rfl (lv_at hl 1 rfl) ?_
  refine lv_imul hx hb dX8_adds_9 ?_
  refine lv_iadd hx hb dX8_adds_10 ?_
  refine lv_iload_n hx hb dX8_adds_11 rfl (lv_at hl 2 rfl) ?_
  refine lv_iadd hx hb dX8_adds_12 ?_
  refine lv_dup2_11 hx hb dX8_adds_13 rfl rfl ?_
  obtain ⟨hi, h⟩ := fo_ck_some h
  refine va_iald hx hb hK hG.1 1 0 rfl rfl hi dX8_adds_14 ?_
  refine lv_iload_n hx hb dX8_adds_15 rfl (lv_at hl 3 rfl) ?_
  refine lv_iadd hx hb dX8_adds_16 ?_
  obtain ⟨hi, h⟩ := fo_ck_some h
  refine va_iast hx hb hK hG.1 hG.2.1 hG.2.2 1 0 rfl rfl hi dX8_adds_17 (fun H locs hP9 hD9 hS9 => ?_)
  have hG : gd_W (dC, dI) A s (wd_M0 cI a X (upd S (((51 : Int32) + ((6 : Int32) * v1)) + v2).toNatClampNeg ((S (((51 : Int32) + ((6 : Int32) * v1)) + v2).toNatClampNeg) + v3))) H locs := ⟨hP9, hD9, hS9⟩
  obtain rfl := Option.some.inj h
  exact gr_v hx hb hr hlocks hK hG dX8_adds_18
set_option maxRecDepth 100000 in
set_option maxHeartbeats 4000000 in
theorem c8_adds (l : Launch) {dC : Nat → ClassId} {dI : Nat → Nat → Nat} {cI : ClassId} {a : Nat → Nat} {X : Nat → Int32} {v1 : Int32} {v2 : Int32} {v3 : Int32} {S : (Nat → Int32)} {q : (Nat → Int32)} (h : f8_adds v1 v2 v3 S = some q) : mv_M l yX8_adds wm8_adds RM8_adds (dC, dI) [(cI, .int)] [.ref (a 0), .int v1, .int v2, .int v3] (wd_M0 cI a X S) (wd_M0 cI a X q) := by
  intro sz
  refine Met.ofW (cc := cX8_adds) (maxL := 4) (ret := none) (by decide) rfl ?_
  intro p e s m args below meth c s₁ B hml hv
  obtain ⟨rfl, hsz, hP, hK, hD0⟩ := hv
  subst hsz
  have hl := lv_entry ([.ref (a 0), .int v1, .int v2, .int v3] : List Value) (n := 4) (Nat.le_of_ble_eq_true rfl)
  rw [lg_entry_eq]
  generalize (lg_sl ([.ref (a 0), .int v1, .int v2, .int v3] : List Value) ++ List.replicate (4 - (lg_sl ([.ref (a 0), .int v1, .int v2, .int v3] : List Value)).length) Slot.unset).toArray = ls at hl ⊢
  exact w8_adds (a := a) ⟨B.exec, B.bytes, B.returns, fun w hw => atoms_spec (ws := wm8_adds) B.pre w (List.mem_cons_of_mem _ hw), findClass_of_methodNamed B.named, B.notSynchronized, hml⟩ hK (fun _ h => Or.inr h) h ⟨hP, hD0.self, va_S.rf⟩ hl
end
/-! ## DiceRoadsModel.debtOf(II)I -/
section
variable {p : Program} {l : Launch} {e : Env} {s : State} {m : MethodId} {args : Array Value} {below : List Frame} {meth : Method} {c : Code} {dC : Nat → ClassId} {dI : Nat → Nat → Nat} {cI : ClassId} {A : Nat → Prop}
set_option maxRecDepth 100000 in
set_option maxHeartbeats 4000000 in
theorem w8_debtOf (C : cx_M p s m args meth c RX8 cX8_debtOf (some .int) 3) (hK : va_K (dC, dI) vwCl [(cI, .int)] s) (hA : ∀ q, s.heap.size ≤ q → A q) {a : Nat → Nat} {X : Nat → Int32} {q : Int32} {v1 : Int32} {v2 : Int32} {S : (Nat → Int32)} (h : f8_debtOf v1 v2 S = some q) {H : Heap} {locs : List Loc} {ls : Array Slot} (hG : gd_W (dC, dI) A s (wd_M0 cI a X S) H locs) (hl : lv_has ls 3 [(0, .ref (a 0)), (1, .int v1), (2, .int v2)]) : W p l e RM8_debtOf s m args below meth c H locs 0 0 (MQ below (qi_W (dC, dI) [(cI, .int)] A q (wd_M0 cI a X S)) args s 0 0 A) (F0 m 0 ls []) := by
  unfold f8_debtOf at h
  obtain ⟨hx, hb, hr, hts, hown, hlocks, hml⟩ := id C
  refine lv_aload_n hx hb dX8_debtOf_0 rfl (lv_at hl 0 rfl) ?_
  refine va_get (D := (dC, dI)) (ci := 7) (v := .ref (a 1)) (C := RX8) (T := TX8) (N := 17) hx hb hts inlX8 hown hK hG.1 0 rfl rfl 0 (by decide) (hts (Cond.fieldLink RX8 7 "DiceRoadsModel" "state" "[I") wq_637) (fun _ h9 => h9) rfl dX8_debtOf_1 ?_
  refine lv_bipush (v := (75 : Int32)) hx hb dX8_debtOf_4 (by decide) ?_
  refine lv_iconst (v := (4 : Int32)) hx hb dX8_debtOf_6 (by decide) ?_
  refine lv_iload_n hx hb dX8_debtOf_7 rfl (lv_at hl 1 rfl) ?_
  refine lv_imul hx hb dX8_debtOf_8 ?_
  refine lv_iadd hx hb dX8_debtOf_9 ?_
  refine lv_iload_n hx hb dX8_debtOf_10 rfl (lv_at hl 2 rfl) ?_
  refine lv_iadd hx hb dX8_debtOf_11 ?_
  obtain ⟨hi, h⟩ := fo_ck_some h
  refine va_iald hx hb hK hG.1 1 0 rfl rfl hi dX8_debtOf_12 ?_
  exact gr_i hx hb hr hlocks hK hG (Option.some.inj h) dX8_debtOf_13
set_option maxRecDepth 100000 in
set_option maxHeartbeats 4000000 in
theorem c8_debtOf (l : Launch) {dC : Nat → ClassId} {dI : Nat → Nat → Nat} {cI : ClassId} {a : Nat → Nat} {X : Nat → Int32} {v1 : Int32} {v2 : Int32} {S : (Nat → Int32)} {q : Int32} (h : f8_debtOf v1 v2 S = some q) : mi_M l yX8_debtOf wm8_debtOf RM8_debtOf (dC, dI) [(cI, .int)] [.ref (a 0), .int v1, .int v2] (wd_M0 cI a X S) q (wd_M0 cI a X S) := by
  intro sz
  refine Met.ofW (cc := cX8_debtOf) (maxL := 3) (ret := (some .int)) (by decide) rfl ?_
  intro p e s m args below meth c s₁ B hml hv
  obtain ⟨rfl, hsz, hP, hK, hD0⟩ := hv
  subst hsz
  have hl := lv_entry ([.ref (a 0), .int v1, .int v2] : List Value) (n := 3) (Nat.le_of_ble_eq_true rfl)
  rw [lg_entry_eq]
  generalize (lg_sl ([.ref (a 0), .int v1, .int v2] : List Value) ++ List.replicate (3 - (lg_sl ([.ref (a 0), .int v1, .int v2] : List Value)).length) Slot.unset).toArray = ls at hl ⊢
  exact w8_debtOf (a := a) ⟨B.exec, B.bytes, B.returns, fun w hw => atoms_spec (ws := wm8_debtOf) B.pre w (List.mem_cons_of_mem _ hw), findClass_of_methodNamed B.named, B.notSynchronized, hml⟩ hK (fun _ h => Or.inr h) h ⟨hP, hD0.self, va_S.rf⟩ hl
end
/-! ## DiceRoadsModel.ageOf(II)I -/
section
variable {p : Program} {l : Launch} {e : Env} {s : State} {m : MethodId} {args : Array Value} {below : List Frame} {meth : Method} {c : Code} {dC : Nat → ClassId} {dI : Nat → Nat → Nat} {cI : ClassId} {A : Nat → Prop}
set_option maxRecDepth 100000 in
set_option maxHeartbeats 4000000 in
theorem w8_ageOf (C : cx_M p s m args meth c RX8 cX8_ageOf (some .int) 3) (hK : va_K (dC, dI) vwCl [(cI, .int)] s) (hA : ∀ q, s.heap.size ≤ q → A q) {a : Nat → Nat} {X : Nat → Int32} {q : Int32} {v1 : Int32} {v2 : Int32} {S : (Nat → Int32)} (h : f8_ageOf v1 v2 S = some q) {H : Heap} {locs : List Loc} {ls : Array Slot} (hG : gd_W (dC, dI) A s (wd_M0 cI a X S) H locs) (hl : lv_has ls 3 [(0, .ref (a 0)), (1, .int v1), (2, .int v2)]) : W p l e RM8_ageOf s m args below meth c H locs 0 0 (MQ below (qi_W (dC, dI) [(cI, .int)] A q (wd_M0 cI a X S)) args s 0 0 A) (F0 m 0 ls []) := by
  unfold f8_ageOf at h
  obtain ⟨hx, hb, hr, hts, hown, hlocks, hml⟩ := id C
  refine lv_aload_n hx hb dX8_ageOf_0 rfl (lv_at hl 0 rfl) ?_
  refine va_get (D := (dC, dI)) (ci := 7) (v := .ref (a 1)) (C := RX8) (T := TX8) (N := 17) hx hb hts inlX8 hown hK hG.1 0 rfl rfl 0 (by decide) (hts (Cond.fieldLink RX8 7 "DiceRoadsModel" "state" "[I") wq_637) (fun _ h9 => h9) rfl dX8_ageOf_1 ?_
  refine lv_bipush (v := (91 : Int32)) hx hb dX8_ageOf_4 (by decide) ?_
  refine lv_iconst (v := (4 : Int32)) hx hb dX8_ageOf_6 (by decide) ?_
  refine lv_iload_n hx hb dX8_ageOf_7 rfl (lv_at hl 1 rfl) ?_
  refine lv_imul hx hb dX8_ageOf_8 ?_
  refine lv_iadd hx hb dX8_ageOf_9 ?_
  refine lv_iload_n hx hb dX8_ageOf_10 rfl (lv_at hl 2 rfl) ?_
  refine lv_iadd hx hb dX8_ageOf_11 ?_
  obtain ⟨hi, h⟩ := fo_ck_some h
  refine va_iald hx hb hK hG.1 1 0 rfl rfl hi dX8_ageOf_12 ?_
  exact gr_i hx hb hr hlocks hK hG (Option.some.inj h) dX8_ageOf_13
set_option maxRecDepth 100000 in
set_option maxHeartbeats 4000000 in
theorem c8_ageOf (l : Launch) {dC : Nat → ClassId} {dI : Nat → Nat → Nat} {cI : ClassId} {a : Nat → Nat} {X : Nat → Int32} {v1 : Int32} {v2 : Int32} {S : (Nat → Int32)} {q : Int32} (h : f8_ageOf v1 v2 S = some q) : mi_M l yX8_ageOf wm8_ageOf RM8_ageOf (dC, dI) [(cI, .int)] [.ref (a 0), .int v1, .int v2] (wd_M0 cI a X S) q (wd_M0 cI a X S) := by
  intro sz
  refine Met.ofW (cc := cX8_ageOf) (maxL := 3) (ret := (some .int)) (by decide) rfl ?_
  intro p e s m args below meth c s₁ B hml hv
  obtain ⟨rfl, hsz, hP, hK, hD0⟩ := hv
  subst hsz
  have hl := lv_entry ([.ref (a 0), .int v1, .int v2] : List Value) (n := 3) (Nat.le_of_ble_eq_true rfl)
  rw [lg_entry_eq]
  generalize (lg_sl ([.ref (a 0), .int v1, .int v2] : List Value) ++ List.replicate (3 - (lg_sl ([.ref (a 0), .int v1, .int v2] : List Value)).length) Slot.unset).toArray = ls at hl ⊢
  exact w8_ageOf (a := a) ⟨B.exec, B.bytes, B.returns, fun w hw => atoms_spec (ws := wm8_ageOf) B.pre w (List.mem_cons_of_mem _ hw), findClass_of_methodNamed B.named, B.notSynchronized, hml⟩ hK (fun _ h => Or.inr h) h ⟨hP, hD0.self, va_S.rf⟩ hl
end
/-! ## DiceRoadsModel.addsDebt(III)V -/
section
variable {p : Program} {l : Launch} {e : Env} {s : State} {m : MethodId} {args : Array Value} {below : List Frame} {meth : Method} {c : Code} {dC : Nat → ClassId} {dI : Nat → Nat → Nat} {cI : ClassId} {A : Nat → Prop}
set_option maxRecDepth 100000 in
set_option maxHeartbeats 4000000 in
theorem w8_addsDebt_b37 (C : cx_M p s m args meth c RX8 cX8_addsDebt none 5) (hK : va_K (dC, dI) vwCl [(cI, .int)] s) (hA : ∀ q, s.heap.size ≤ q → A q) {a : Nat → Nat} {X : Nat → Int32} {q : (Nat → Int32)} {v1 : Int32} {v2 : Int32} {S : (Nat → Int32)} (h : f8_addsDebt_b37 v1 v2 S = some q) {H : Heap} {locs : List Loc} {ls : Array Slot} (hG : gd_W (dC, dI) A s (wd_M0 cI a X S) H locs) (hl : lv_has ls 5 [(0, .ref (a 0)), (1, .int v1), (2, .int v2)]) : W p l e RM8_addsDebt s m args below meth c H locs 0 0 (MQ below (qv_W (dC, dI) [(cI, .int)] A (wd_M0 cI a X q)) args s 0 0 A) (F0 m 37 ls []) := by
  unfold f8_addsDebt_b37 at h
  obtain ⟨hx, hb, hr, hts, hown, hlocks, hml⟩ := id C
  refine lv_aload_n hx hb dX8_addsDebt_37 rfl (lv_at hl 0 rfl) ?_
  refine va_get (D := (dC, dI)) (ci := 7) (v := .ref (a 1)) (C := RX8) (T := TX8) (N := 17) hx hb hts inlX8 hown hK hG.1 0 rfl rfl 0 (by decide) (hts (Cond.fieldLink RX8 7 "DiceRoadsModel" "state" "[I") wq_637) (fun _ h9 => h9) rfl dX8_addsDebt_38 ?_
  refine lv_bipush (v := (91 : Int32)) hx hb dX8_addsDebt_41 (by decide) ?_
  refine lv_iconst (v := (4 : Int32)) hx hb dX8_addsDebt_43 (by decide) ?_
  refine lv_iload_n hx hb dX8_addsDebt_44 rfl (lv_at hl 1 rfl) ?_
  refine lv_imul hx hb dX8_addsDebt_45 ?_
  refine lv_iadd hx hb dX8_addsDebt_46 ?_
  refine lv_iload_n hx hb dX8_addsDebt_47 rfl (lv_at hl 2 rfl) ?_
  refine lv_iadd hx hb dX8_addsDebt_48 ?_
  refine lv_iconst (v := (0 : Int32)) hx hb dX8_addsDebt_49 (by decide) ?_
  obtain ⟨hi, h⟩ := fo_ck_some h
  refine va_iast hx hb hK hG.1 hG.2.1 hG.2.2 1 0 rfl rfl hi dX8_addsDebt_50 (fun H locs hP9 hD9 hS9 => ?_)
  have hG : gd_W (dC, dI) A s (wd_M0 cI a X (upd S (((91 : Int32) + ((4 : Int32) * v1)) + v2).toNatClampNeg (0 : Int32))) H locs := ⟨hP9, hD9, hS9⟩
  obtain rfl := Option.some.inj h
  exact gr_v hx hb hr hlocks hK hG dX8_addsDebt_51
set_option maxRecDepth 100000 in
set_option maxHeartbeats 4000000 in
theorem w8_addsDebt (C : cx_M p s m args meth c RX8 cX8_addsDebt none 5) (hK : va_K (dC, dI) vwCl [(cI, .int)] s) (hA : ∀ q, s.heap.size ≤ q → A q) {a : Nat → Nat} {X : Nat → Int32} {q : (Nat → Int32)} {v1 : Int32} {v2 : Int32} {v3 : Int32} {S : (Nat → Int32)} (h : f8_addsDebt v1 v2 v3 S = some q) {H : Heap} {locs : List Loc} {ls : Array Slot} (hG : gd_W (dC, dI) A s (wd_M0 cI a X S) H locs) (hl : lv_has ls 5 [(0, .ref (a 0)), (1, .int v1), (2, .int v2), (3, .int v3)]) : W p l e RM8_addsDebt s m args below meth c H locs 0 0 (MQ below (qv_W (dC, dI) [(cI, .int)] A (wd_M0 cI a X q)) args s 0 0 A) (F0 m 0 ls []) := by
  unfold f8_addsDebt at h
  obtain ⟨hx, hb, hr, hts, hown, hlocks, hml⟩ := id C
  refine lv_aload_n hx hb dX8_addsDebt_0 rfl (lv_at hl 0 rfl) ?_
  refine lv_iload_n hx hb dX8_addsDebt_1 rfl (lv_at hl 1 rfl) ?_
  refine lv_iload_n hx hb dX8_addsDebt_2 rfl (lv_at hl 2 rfl) ?_
  obtain ⟨q3, hq3, h⟩ := fo_bd_some h
  refine gc_iV (b := a 0) (C := RX8) (As := [.int v1, .int v2]) (rest := []) (wc := (wd_M0 cI a X S)) (w1 := (wd_M0 cI a X S)) (ci := 7) (q0 := 0) ⟨hx, hb, hml, hown, hts⟩ (c8_debtOf l (a := a) (X := X) hq3) (cwV 2 hts gv_X8_46 rfl rfl rfl hd8_debtOf ⟨Nat.le_of_ble_eq_true rfl, Nat.le_of_ble_eq_true rfl⟩) hK [0] rfl hA hG [0, 1] rfl rfl rfl rfl rfl rfl hl.1 rfl (by decide) dX8_addsDebt_3 ⟨Nat.zero_le _, Nat.zero_le _⟩ (fun H locs hG9 => ?_)
  have hG : gd_W (dC, dI) A s (wd_M0 cI a X S) H locs := hG9
  refine lv_istore (lv' := [(4, .int q3), (0, .ref (a 0)), (1, .int v1), (2, .int v2), (3, .int v3)]) hx hb dX8_addsDebt_6 hl (by decide) rfl (fun ls hl => ?_)
  refine lv_aload_n hx hb dX8_addsDebt_8 rfl (lv_at hl 1 rfl) ?_
  refine va_get (D := (dC, dI)) (ci := 7) (v := .ref (a 1)) (C := RX8) (T := TX8) (N := 17) hx hb hts inlX8 hown hK hG.1 0 rfl rfl 0 (by decide) (hts (Cond.fieldLink RX8 7 "DiceRoadsModel" "state" "[I") wq_637) (fun _ h9 => h9) rfl dX8_addsDebt_9 ?_
  refine lv_bipush (v := (75 : Int32)) hx hb dX8_addsDebt_12 (by decide) ?_
  refine lv_iconst (v := (4 : Int32)) hx hb dX8_addsDebt_14 (by decide) ?_
  refine lv_iload_n hx hb dX8_addsDebt_15 rfl (lv_at hl 2 rfl) ?_
  refine lv_imul hx hb dX8_addsDebt_16 ?_
  refine lv_iadd hx hb dX8_addsDebt_17 ?_
  refine lv_iload_n hx hb dX8_addsDebt_18 rfl (lv_at hl 3 rfl) ?_
  refine lv_iadd hx hb dX8_addsDebt_19 ?_
  refine lv_iload hx hb dX8_addsDebt_20 (lv_at hl 0 rfl) ?_
  refine lv_iload_n hx hb dX8_addsDebt_22 rfl (lv_at hl 4 rfl) ?_
  refine lv_iadd hx hb dX8_addsDebt_23 ?_
  obtain ⟨hi, h⟩ := fo_ck_some h
  refine va_iast hx hb hK hG.1 hG.2.1 hG.2.2 1 0 rfl rfl hi dX8_addsDebt_24 (fun H locs hP9 hD9 hS9 => ?_)
  have hG : gd_W (dC, dI) A s (wd_M0 cI a X (upd S (((75 : Int32) + ((4 : Int32) * v1)) + v2).toNatClampNeg (q3 + v3))) H locs := ⟨hP9, hD9, hS9⟩
  refine lv_iload hx hb dX8_addsDebt_25 (lv_at hl 0 rfl) ?_
  refine lv_if_eq (tgt := 37) hx hb dX8_addsDebt_27 (by decide) (fun hc => ?_) (fun hc => ?_)
  · have h := fo_it h hc
    exact w8_addsDebt_b37 C hK hA h hG (lv_sub hl [1, 2, 3] rfl)
  · have h := fo_if h hc
    refine lv_iload hx hb dX8_addsDebt_30 (lv_at hl 0 rfl) ?_
    refine lv_iload_n hx hb dX8_addsDebt_32 rfl (lv_at hl 4 rfl) ?_
    refine lv_iadd hx hb dX8_addsDebt_33 ?_
    refine lv_if_ne (tgt := 51) hx hb dX8_addsDebt_34 (by decide) (fun hc => ?_) (fun hc => ?_)
    · have h := fo_if h hc
      obtain rfl := Option.some.inj h
      exact gr_v hx hb hr hlocks hK hG dX8_addsDebt_51
    · have h := fo_it h hc
      exact w8_addsDebt_b37 C hK hA h hG (lv_sub hl [1, 2, 3] rfl)
set_option maxRecDepth 100000 in
set_option maxHeartbeats 4000000 in
theorem c8_addsDebt (l : Launch) {dC : Nat → ClassId} {dI : Nat → Nat → Nat} {cI : ClassId} {a : Nat → Nat} {X : Nat → Int32} {v1 : Int32} {v2 : Int32} {v3 : Int32} {S : (Nat → Int32)} {q : (Nat → Int32)} (h : f8_addsDebt v1 v2 v3 S = some q) : mv_M l yX8_addsDebt wm8_addsDebt RM8_addsDebt (dC, dI) [(cI, .int)] [.ref (a 0), .int v1, .int v2, .int v3] (wd_M0 cI a X S) (wd_M0 cI a X q) := by
  intro sz
  refine Met.ofW (cc := cX8_addsDebt) (maxL := 5) (ret := none) (by decide) rfl ?_
  intro p e s m args below meth c s₁ B hml hv
  obtain ⟨rfl, hsz, hP, hK, hD0⟩ := hv
  subst hsz
  have hl := lv_entry ([.ref (a 0), .int v1, .int v2, .int v3] : List Value) (n := 5) (Nat.le_of_ble_eq_true rfl)
  rw [lg_entry_eq]
  generalize (lg_sl ([.ref (a 0), .int v1, .int v2, .int v3] : List Value) ++ List.replicate (5 - (lg_sl ([.ref (a 0), .int v1, .int v2, .int v3] : List Value)).length) Slot.unset).toArray = ls at hl ⊢
  exact w8_addsDebt (a := a) ⟨B.exec, B.bytes, B.returns, fun w hw => atoms_spec (ws := wm8_addsDebt) B.pre w (List.mem_cons_of_mem _ hw), findClass_of_methodNamed B.named, B.notSynchronized, hml⟩ hK (fun _ h => Or.inr h) h ⟨hP, hD0.self, va_S.rf⟩ hl
end
/-! ## DiceRoadsModel.oldest(II)I -/
section
variable {p : Program} {l : Launch} {e : Env} {s : State} {m : MethodId} {args : Array Value} {below : List Frame} {meth : Method} {c : Code} {dC : Nat → ClassId} {dI : Nat → Nat → Nat} {cI : ClassId} {A : Nat → Prop}
set_option maxRecDepth 100000 in
set_option maxHeartbeats 4000000 in
theorem w8_oldest_b77 (C : cx_M p s m args meth c RX8 cX8_oldest (some .int) 6) (hK : va_K (dC, dI) vwCl [(cI, .int)] s) (hA : ∀ q, s.heap.size ≤ q → A q) {a : Nat → Nat} {X : Nat → Int32} {S : (Nat → Int32)} {q : Int32} {rec6 : Int32 → Int32 → Int32 → Int32 → (Nat → Int32) → Option Int32} (hrec6 : ∀ {v1 : Int32} {v2 : Int32} {v3 : Int32} {v4 : Int32} , rec6 v1 v2 v3 v4 S = some q → ∀ {H : Heap} {locs : List Loc} {ls : Array Slot}, gd_W (dC, dI) A s (wd_M0 cI a X S) H locs → lv_has ls 6 [(0, .ref (a 0)), (1, .int v1), (2, .int v2), (3, .int v3), (4, .int v4)] → W p l e RM8_oldest s m args below meth c H locs 0 0 (MQ below (qi_W (dC, dI) [(cI, .int)] A q (wd_M0 cI a X S)) args s 0 0 A) (F0 m 6 ls [])) {v1 : Int32} {v2 : Int32} {v4 : Int32} {t0 : Int32} (h : f8_oldest_b77 rec6 v1 v2 v4 t0 S = some q) {H : Heap} {locs : List Loc} {ls : Array Slot} (hG : gd_W (dC, dI) A s (wd_M0 cI a X S) H locs) (hl : lv_has ls 6 [(0, .ref (a 0)), (1, .int v1), (2, .int v2), (4, .int v4)]) : W p l e RM8_oldest s m args below meth c H locs 0 0 (MQ below (qi_W (dC, dI) [(cI, .int)] A q (wd_M0 cI a X S)) args s 0 0 A) (F0 m 77 ls [.int t0]) := by
  unfold f8_oldest_b77 at h
  obtain ⟨hx, hb, hr, hts, hown, hlocks, hml⟩ := id C
  refine lv_istore_n (lv' := [(3, .int t0), (0, .ref (a 0)), (1, .int v1), (2, .int v2), (4, .int v4)]) hx hb dX8_oldest_77 rfl hl (by decide) rfl (fun ls hl => ?_)
  refine lv_iinc (v := (v4 + (1 : Int32))) (lv' := [(4, .int (v4 + (1 : Int32))), (3, .int t0), (0, .ref (a 0)), (1, .int v1), (2, .int v2)]) hx hb dX8_oldest_78 hl (k := 4) rfl rfl (by decide) rfl (fun ls hl => ?_)
  refine lv_goto (tgt := 6) hx hb dX8_oldest_81 (by decide) ?_
  exact hrec6 h hG (lv_sub hl [2, 3, 4, 1, 0] rfl)
set_option maxRecDepth 100000 in
set_option maxHeartbeats 4000000 in
theorem w8_oldest_b64 (C : cx_M p s m args meth c RX8 cX8_oldest (some .int) 6) (hK : va_K (dC, dI) vwCl [(cI, .int)] s) (hA : ∀ q, s.heap.size ≤ q → A q) {a : Nat → Nat} {X : Nat → Int32} {S : (Nat → Int32)} {q : Int32} {rec6 : Int32 → Int32 → Int32 → Int32 → (Nat → Int32) → Option Int32} (hrec6 : ∀ {v1 : Int32} {v2 : Int32} {v3 : Int32} {v4 : Int32} , rec6 v1 v2 v3 v4 S = some q → ∀ {H : Heap} {locs : List Loc} {ls : Array Slot}, gd_W (dC, dI) A s (wd_M0 cI a X S) H locs → lv_has ls 6 [(0, .ref (a 0)), (1, .int v1), (2, .int v2), (3, .int v3), (4, .int v4)] → W p l e RM8_oldest s m args below meth c H locs 0 0 (MQ below (qi_W (dC, dI) [(cI, .int)] A q (wd_M0 cI a X S)) args s 0 0 A) (F0 m 6 ls [])) {v1 : Int32} {v2 : Int32} {v3 : Int32} {v4 : Int32} {t0 : Int32} (h : f8_oldest_b64 rec6 v1 v2 v3 v4 t0 S = some q) {H : Heap} {locs : List Loc} {ls : Array Slot} (hG : gd_W (dC, dI) A s (wd_M0 cI a X S) H locs) (hl : lv_has ls 6 [(0, .ref (a 0)), (1, .int v1), (2, .int v2), (3, .int v3), (4, .int v4)]) : W p l e RM8_oldest s m args below meth c H locs 0 0 (MQ below (qi_W (dC, dI) [(cI, .int)] A q (wd_M0 cI a X S)) args s 0 0 A) (F0 m 64 ls [.int t0]) := by
  unfold f8_oldest_b64 at h
  obtain ⟨hx, hb, hr, hts, hown, hlocks, hml⟩ := id C
  refine lv_istore (lv' := [(5, .int t0), (0, .ref (a 0)), (1, .int v1), (2, .int v2), (3, .int v3), (4, .int v4)]) hx hb dX8_oldest_64 hl (by decide) rfl (fun ls hl => ?_)
  refine lv_iload hx hb dX8_oldest_66 (lv_at hl 0 rfl) ?_
  refine lv_if_eq (tgt := 76) hx hb dX8_oldest_68 (by decide) (fun hc => ?_) (fun hc => ?_)
  · have h := fo_it h hc
    refine lv_iload_n hx hb dX8_oldest_76 rfl (lv_at hl 4 rfl) ?_
    exact w8_oldest_b77 C hK hA (fun h => hrec6 h) h hG (lv_sub hl [1, 2, 3, 5] rfl)
  · have h := fo_if h hc
    refine lv_iload hx hb dX8_oldest_71 (lv_at hl 5 rfl) ?_
    refine lv_goto (tgt := 77) hx hb dX8_oldest_73 (by decide) ?_
    exact w8_oldest_b77 C hK hA (fun h => hrec6 h) h hG (lv_sub hl [1, 2, 3, 5] rfl)
set_option maxRecDepth 100000 in
set_option maxHeartbeats 4000000 in
theorem w8_oldest_b63 (C : cx_M p s m args meth c RX8 cX8_oldest (some .int) 6) (hK : va_K (dC, dI) vwCl [(cI, .int)] s) (hA : ∀ q, s.heap.size ≤ q → A q) {a : Nat → Nat} {X : Nat → Int32} {S : (Nat → Int32)} {q : Int32} {rec6 : Int32 → Int32 → Int32 → Int32 → (Nat → Int32) → Option Int32} (hrec6 : ∀ {v1 : Int32} {v2 : Int32} {v3 : Int32} {v4 : Int32} , rec6 v1 v2 v3 v4 S = some q → ∀ {H : Heap} {locs : List Loc} {ls : Array Slot}, gd_W (dC, dI) A s (wd_M0 cI a X S) H locs → lv_has ls 6 [(0, .ref (a 0)), (1, .int v1), (2, .int v2), (3, .int v3), (4, .int v4)] → W p l e RM8_oldest s m args below meth c H locs 0 0 (MQ below (qi_W (dC, dI) [(cI, .int)] A q (wd_M0 cI a X S)) args s 0 0 A) (F0 m 6 ls [])) {v1 : Int32} {v2 : Int32} {v3 : Int32} {v4 : Int32} (h : f8_oldest_b63 rec6 v1 v2 v3 v4 S = some q) {H : Heap} {locs : List Loc} {ls : Array Slot} (hG : gd_W (dC, dI) A s (wd_M0 cI a X S) H locs) (hl : lv_has ls 6 [(0, .ref (a 0)), (1, .int v1), (2, .int v2), (3, .int v3), (4, .int v4)]) : W p l e RM8_oldest s m args below meth c H locs 0 0 (MQ below (qi_W (dC, dI) [(cI, .int)] A q (wd_M0 cI a X S)) args s 0 0 A) (F0 m 63 ls []) := by
  unfold f8_oldest_b63 at h
  obtain ⟨hx, hb, hr, hts, hown, hlocks, hml⟩ := id C
  refine lv_iconst (v := (0 : Int32)) hx hb dX8_oldest_63 (by decide) ?_
  exact w8_oldest_b64 C hK hA (fun h => hrec6 h) h hG (lv_sub hl [0, 1, 2, 3, 4] rfl)
set_option maxRecDepth 100000 in
set_option maxHeartbeats 4000000 in
theorem w8_oldest_b59 (C : cx_M p s m args meth c RX8 cX8_oldest (some .int) 6) (hK : va_K (dC, dI) vwCl [(cI, .int)] s) (hA : ∀ q, s.heap.size ≤ q → A q) {a : Nat → Nat} {X : Nat → Int32} {S : (Nat → Int32)} {q : Int32} {rec6 : Int32 → Int32 → Int32 → Int32 → (Nat → Int32) → Option Int32} (hrec6 : ∀ {v1 : Int32} {v2 : Int32} {v3 : Int32} {v4 : Int32} , rec6 v1 v2 v3 v4 S = some q → ∀ {H : Heap} {locs : List Loc} {ls : Array Slot}, gd_W (dC, dI) A s (wd_M0 cI a X S) H locs → lv_has ls 6 [(0, .ref (a 0)), (1, .int v1), (2, .int v2), (3, .int v3), (4, .int v4)] → W p l e RM8_oldest s m args below meth c H locs 0 0 (MQ below (qi_W (dC, dI) [(cI, .int)] A q (wd_M0 cI a X S)) args s 0 0 A) (F0 m 6 ls [])) {v1 : Int32} {v2 : Int32} {v3 : Int32} {v4 : Int32} (h : f8_oldest_b59 rec6 v1 v2 v3 v4 S = some q) {H : Heap} {locs : List Loc} {ls : Array Slot} (hG : gd_W (dC, dI) A s (wd_M0 cI a X S) H locs) (hl : lv_has ls 6 [(0, .ref (a 0)), (1, .int v1), (2, .int v2), (3, .int v3), (4, .int v4)]) : W p l e RM8_oldest s m args below meth c H locs 0 0 (MQ below (qi_W (dC, dI) [(cI, .int)] A q (wd_M0 cI a X S)) args s 0 0 A) (F0 m 59 ls []) := by
  unfold f8_oldest_b59 at h
  obtain ⟨hx, hb, hr, hts, hown, hlocks, hml⟩ := id C
  refine lv_iconst (v := (1 : Int32)) hx hb dX8_oldest_59 (by decide) ?_
  refine lv_goto (tgt := 64) hx hb dX8_oldest_60 (by decide) ?_
  exact w8_oldest_b64 C hK hA (fun h => hrec6 h) h hG (lv_sub hl [0, 1, 2, 3, 4] rfl)
set_option maxRecDepth 100000 in
set_option maxHeartbeats 4000000 in
theorem w8_oldest_b6 (C : cx_M p s m args meth c RX8 cX8_oldest (some .int) 6) (hK : va_K (dC, dI) vwCl [(cI, .int)] s) (hA : ∀ q, s.heap.size ≤ q → A q) {a : Nat → Nat} {X : Nat → Int32} {S : (Nat → Int32)} {q : Int32} {rec6 : Int32 → Int32 → Int32 → Int32 → (Nat → Int32) → Option Int32} (hrec6 : ∀ {v1 : Int32} {v2 : Int32} {v3 : Int32} {v4 : Int32} , rec6 v1 v2 v3 v4 S = some q → ∀ {H : Heap} {locs : List Loc} {ls : Array Slot}, gd_W (dC, dI) A s (wd_M0 cI a X S) H locs → lv_has ls 6 [(0, .ref (a 0)), (1, .int v1), (2, .int v2), (3, .int v3), (4, .int v4)] → W p l e RM8_oldest s m args below meth c H locs 0 0 (MQ below (qi_W (dC, dI) [(cI, .int)] A q (wd_M0 cI a X S)) args s 0 0 A) (F0 m 6 ls [])) {v1 : Int32} {v2 : Int32} {v3 : Int32} {v4 : Int32} (h : f8_oldest_b6 rec6 v1 v2 v3 v4 S = some q) {H : Heap} {locs : List Loc} {ls : Array Slot} (hG : gd_W (dC, dI) A s (wd_M0 cI a X S) H locs) (hl : lv_has ls 6 [(0, .ref (a 0)), (1, .int v1), (2, .int v2), (3, .int v3), (4, .int v4)]) : W p l e RM8_oldest s m args below meth c H locs 0 0 (MQ below (qi_W (dC, dI) [(cI, .int)] A q (wd_M0 cI a X S)) args s 0 0 A) (F0 m 6 ls []) := by
  unfold f8_oldest_b6 at h
  obtain ⟨hx, hb, hr, hts, hown, hlocks, hml⟩ := id C
  refine lv_iload hx hb dX8_oldest_6 (lv_at hl 4 rfl) ?_
  refine lv_aload_n hx hb dX8_oldest_8 rfl (lv_at hl 0 rfl) ?_
  refine va_get (D := (dC, dI)) (ci := 7) (v := .ref (a 1)) (C := RX8) (T := TX8) (N := 17) hx hb hts inlX8 hown hK hG.1 0 rfl rfl 0 (by decide) (hts (Cond.fieldLink RX8 7 "DiceRoadsModel" "state" "[I") wq_637) (fun _ h9 => h9) rfl dX8_oldest_9 ?_
  refine lv_bipush (v := (6 : Int32)) hx hb dX8_oldest_12 (by decide) ?_
  obtain ⟨hi, h⟩ := fo_ck_some h
  refine va_iald hx hb hK hG.1 1 0 rfl rfl hi dX8_oldest_14 ?_
  refine lv_icmp_ge (tgt := 84) hx hb dX8_oldest_15 (by decide) (fun hc => ?_) (fun hc => ?_)
  · have h := fo_it h hc
    refine lv_iload_n hx hb dX8_oldest_84 rfl (lv_at hl 3 rfl) ?_
    exact gr_i hx hb hr hlocks hK hG (Option.some.inj h) dX8_oldest_85
  · have h := fo_if h hc
    refine lv_aload_n hx hb dX8_oldest_18 rfl (lv_at hl 0 rfl) ?_
    refine lv_iload_n hx hb dX8_oldest_19 rfl (lv_at hl 1 rfl) ?_
    refine lv_iload hx hb dX8_oldest_20 (lv_at hl 4 rfl) ?_
    obtain ⟨q22, hq22, h⟩ := fo_bd_some h
    refine gc_iV (b := a 0) (C := RX8) (As := [.int v1, .int v4]) (rest := []) (wc := (wd_M0 cI a X S)) (w1 := (wd_M0 cI a X S)) (ci := 7) (q0 := 0) ⟨hx, hb, hml, hown, hts⟩ (c8_debtOf l (a := a) (X := X) hq22) (cwV 2 hts gv_X8_46 rfl rfl rfl hd8_debtOf ⟨Nat.le_of_ble_eq_true rfl, Nat.le_of_ble_eq_true rfl⟩) hK [0] rfl hA hG [0, 1] rfl rfl rfl rfl rfl rfl hl.1 rfl (by decide) dX8_oldest_22 ⟨Nat.zero_le _, Nat.zero_le _⟩ (fun H locs hG9 => ?_)
    have hG : gd_W (dC, dI) A s (wd_M0 cI a X S) H locs := hG9
    refine lv_if_le (tgt := 63) hx hb dX8_oldest_25 (by decide) (fun hc => ?_) (fun hc => ?_)
    · have h := fo_it h hc
      exact w8_oldest_b63 C hK hA (fun h => hrec6 h) h hG (lv_sub hl [0, 1, 2, 3, 4] rfl)
    · have h := fo_if h hc
      refine lv_iload_n hx hb dX8_oldest_28 rfl (lv_at hl 2 rfl) ?_
      refine lv_iload hx hb dX8_oldest_29 (lv_at hl 4 rfl) ?_
      refine lv_ishr hx hb dX8_oldest_31 ?_
      refine lv_iconst (v := (1 : Int32)) hx hb dX8_oldest_32 (by decide) ?_
      refine lv_iand hx hb dX8_oldest_33 ?_
      refine lv_if_ne (tgt := 63) hx hb dX8_oldest_34 (by decide) (fun hc => ?_) (fun hc => ?_)
      · have h := fo_if h hc
        exact w8_oldest_b63 C hK hA (fun h => hrec6 h) h hG (lv_sub hl [0, 1, 2, 3, 4] rfl)
      · have h := fo_it h hc
        refine lv_iload_n hx hb dX8_oldest_37 rfl (lv_at hl 3 rfl) ?_
        refine lv_bipush (v := (-6 : Int32)) hx hb dX8_oldest_38 (by decide) ?_
        refine lv_icmp_eq (tgt := 59) hx hb dX8_oldest_40 (by decide) (fun hc => ?_) (fun hc => ?_)
        · have h := fo_it h hc
          exact w8_oldest_b59 C hK hA (fun h => hrec6 h) h hG (lv_sub hl [0, 1, 2, 3, 4] rfl)
        · have h := fo_if h hc
          refine lv_aload_n hx hb dX8_oldest_43 rfl (lv_at hl 0 rfl) ?_
          refine lv_iload_n hx hb dX8_oldest_44 rfl (lv_at hl 1 rfl) ?_
          refine lv_iload hx hb dX8_oldest_45 (lv_at hl 4 rfl) ?_
          obtain ⟨q47, hq47, h⟩ := fo_bd_some h
          refine gc_iV (b := a 0) (C := RX8) (As := [.int v1, .int v4]) (rest := []) (wc := (wd_M0 cI a X S)) (w1 := (wd_M0 cI a X S)) (ci := 7) (q0 := 0) ⟨hx, hb, hml, hown, hts⟩ (c8_ageOf l (a := a) (X := X) hq47) (cwV 2 hts gv_X8_65 rfl rfl rfl hd8_ageOf ⟨Nat.le_of_ble_eq_true rfl, Nat.le_of_ble_eq_true rfl⟩) hK [0] rfl hA hG [0, 1] rfl rfl rfl rfl rfl rfl hl.1 rfl (by decide) dX8_oldest_47 ⟨Nat.zero_le _, Nat.zero_le _⟩ (fun H locs hG9 => ?_)
          have hG : gd_W (dC, dI) A s (wd_M0 cI a X S) H locs := hG9
          refine lv_aload_n hx hb dX8_oldest_50 rfl (lv_at hl 0 rfl) ?_
          refine lv_iload_n hx hb dX8_oldest_51 rfl (lv_at hl 1 rfl) ?_
          refine lv_iload_n hx hb dX8_oldest_52 rfl (lv_at hl 3 rfl) ?_
          obtain ⟨q53, hq53, h⟩ := fo_bd_some h
          refine gc_iV (b := a 0) (C := RX8) (As := [.int v1, .int v3]) (rest := [.int q47]) (wc := (wd_M0 cI a X S)) (w1 := (wd_M0 cI a X S)) (ci := 7) (q0 := 0) ⟨hx, hb, hml, hown, hts⟩ (c8_ageOf l (a := a) (X := X) hq53) (cwV 2 hts gv_X8_65 rfl rfl rfl hd8_ageOf ⟨Nat.le_of_ble_eq_true rfl, Nat.le_of_ble_eq_true rfl⟩) hK [0] rfl hA hG [0, 1] rfl rfl rfl rfl rfl rfl hl.1 rfl (by decide) dX8_oldest_53 ⟨Nat.zero_le _, Nat.zero_le _⟩ (fun H locs hG9 => ?_)
          have hG : gd_W (dC, dI) A s (wd_M0 cI a X S) H locs := hG9
          refine lv_icmp_le (tgt := 63) hx hb dX8_oldest_56 (by decide) (fun hc => ?_) (fun hc => ?_)
          · have h := fo_it h hc
            exact w8_oldest_b63 C hK hA (fun h => hrec6 h) h hG (lv_sub hl [0, 1, 2, 3, 4] rfl)
          · have h := fo_if h hc
            exact w8_oldest_b59 C hK hA (fun h => hrec6 h) h hG (lv_sub hl [0, 1, 2, 3, 4] rfl)
set_option maxRecDepth 100000 in
set_option maxHeartbeats 4000000 in
theorem w8_oldest_L6 (C : cx_M p s m args meth c RX8 cX8_oldest (some .int) 6) (hK : va_K (dC, dI) vwCl [(cI, .int)] s) (hA : ∀ q, s.heap.size ≤ q → A q) {a : Nat → Nat} {X : Nat → Int32} {S : (Nat → Int32)} {q : Int32} : ∀ (n : Nat) {v1 : Int32} {v2 : Int32} {v3 : Int32} {v4 : Int32}, f8_oldest_L6 n v1 v2 v3 v4 S = some q → ∀ {H : Heap} {locs : List Loc} {ls : Array Slot}, gd_W (dC, dI) A s (wd_M0 cI a X S) H locs → lv_has ls 6 [(0, .ref (a 0)), (1, .int v1), (2, .int v2), (3, .int v3), (4, .int v4)] → W p l e RM8_oldest s m args below meth c H locs 0 0 (MQ below (qi_W (dC, dI) [(cI, .int)] A q (wd_M0 cI a X S)) args s 0 0 A) (F0 m 6 ls []) := by
  intro n
  induction n with
  | zero => intro _ _ _ _ h; exact nomatch h
  | succ n ih => intro v1 v2 v3 v4 h H locs ls hG hl; exact w8_oldest_b6 C hK hA (fun h => ih h) (show f8_oldest_b6 (f8_oldest_L6 n) v1 v2 v3 v4 S = some q from h) hG hl
set_option maxRecDepth 100000 in
set_option maxHeartbeats 4000000 in
theorem w8_oldest (C : cx_M p s m args meth c RX8 cX8_oldest (some .int) 6) (hK : va_K (dC, dI) vwCl [(cI, .int)] s) (hA : ∀ q, s.heap.size ≤ q → A q) {a : Nat → Nat} {X : Nat → Int32} {q : Int32} {v1 : Int32} {v2 : Int32} {S : (Nat → Int32)} (h : f8_oldest v1 v2 S = some q) {H : Heap} {locs : List Loc} {ls : Array Slot} (hG : gd_W (dC, dI) A s (wd_M0 cI a X S) H locs) (hl : lv_has ls 6 [(0, .ref (a 0)), (1, .int v1), (2, .int v2)]) : W p l e RM8_oldest s m args below meth c H locs 0 0 (MQ below (qi_W (dC, dI) [(cI, .int)] A q (wd_M0 cI a X S)) args s 0 0 A) (F0 m 0 ls []) := by
  unfold f8_oldest at h
  obtain ⟨hx, hb, hr, hts, hown, hlocks, hml⟩ := id C
  refine lv_bipush (v := (-6 : Int32)) hx hb dX8_oldest_0 (by decide) ?_
  refine lv_istore_n (lv' := [(3, .int (-6 : Int32)), (0, .ref (a 0)), (1, .int v1), (2, .int v2)]) hx hb dX8_oldest_2 rfl hl (by decide) rfl (fun ls hl => ?_)
  refine lv_iconst (v := (0 : Int32)) hx hb dX8_oldest_3 (by decide) ?_
  refine lv_istore (lv' := [(4, .int (0 : Int32)), (3, .int (-6 : Int32)), (0, .ref (a 0)), (1, .int v1), (2, .int v2)]) hx hb dX8_oldest_4 hl (by decide) rfl (fun ls hl => ?_)
  exact w8_oldest_L6 C hK hA fo_fu h hG (lv_sub hl [2, 3, 4, 1, 0] rfl)
set_option maxRecDepth 100000 in
set_option maxHeartbeats 4000000 in
theorem c8_oldest (l : Launch) {dC : Nat → ClassId} {dI : Nat → Nat → Nat} {cI : ClassId} {a : Nat → Nat} {X : Nat → Int32} {v1 : Int32} {v2 : Int32} {S : (Nat → Int32)} {q : Int32} (h : f8_oldest v1 v2 S = some q) : mi_M l yX8_oldest wm8_oldest RM8_oldest (dC, dI) [(cI, .int)] [.ref (a 0), .int v1, .int v2] (wd_M0 cI a X S) q (wd_M0 cI a X S) := by
  intro sz
  refine Met.ofW (cc := cX8_oldest) (maxL := 6) (ret := (some .int)) (by decide) rfl ?_
  intro p e s m args below meth c s₁ B hml hv
  obtain ⟨rfl, hsz, hP, hK, hD0⟩ := hv
  subst hsz
  have hl := lv_entry ([.ref (a 0), .int v1, .int v2] : List Value) (n := 6) (Nat.le_of_ble_eq_true rfl)
  rw [lg_entry_eq]
  generalize (lg_sl ([.ref (a 0), .int v1, .int v2] : List Value) ++ List.replicate (6 - (lg_sl ([.ref (a 0), .int v1, .int v2] : List Value)).length) Slot.unset).toArray = ls at hl ⊢
  exact w8_oldest (a := a) ⟨B.exec, B.bytes, B.returns, fun w hw => atoms_spec (ws := wm8_oldest) B.pre w (List.mem_cons_of_mem _ hw), findClass_of_methodNamed B.named, B.notSynchronized, hml⟩ hK (fun _ h => Or.inr h) h ⟨hP, hD0.self, va_S.rf⟩ hl
end
end
