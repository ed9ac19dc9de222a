section
-- ===== PART A: goes FIRST, ahead of the names: the tables' words, and 'selects' of the private methods out of them =====
/-- a private method of a class that the tables say can be made, by its rows of tables_1 -/
def lw_okq (q : MethodName × Nat) : Prop := (q.1.cls ≠ "java/lang/invoke/MethodHandle" ∧ q.1.cls ≠ "java/lang/invoke/VarHandle") ∧ Cond.instantiable q.1.cls q.2 ∈ tables_1 ∧ Cond.privateMethod q.1 ∈ tables_1 ∧ Cond.instanceMethod q.1 ∈ tables_1
theorem lw_p0 : lw_okq (⟨"LeanLane$Text", "letterOf", "(II)C"⟩, 2) := ⟨⟨by decide +kernel, by decide +kernel⟩, List.mem_of_getElem? (i := 19) (by decide +kernel), List.mem_of_getElem? (i := 181) (by decide +kernel), List.mem_of_getElem? (i := 182) (by decide +kernel)⟩
theorem lw_p1 : lw_okq (⟨"LeanLane$Lane", "standUp", "(I)V"⟩, 9) := ⟨⟨by decide +kernel, by decide +kernel⟩, List.mem_of_getElem? (i := 33) (by decide +kernel), List.mem_of_getElem? (i := 189) (by decide +kernel), List.mem_of_getElem? (i := 190) (by decide +kernel)⟩
theorem lw_p2 : lw_okq (⟨"LeanLane$Lane", "passLoads", "()V"⟩, 9) := ⟨⟨by decide +kernel, by decide +kernel⟩, List.mem_of_getElem? (i := 33) (by decide +kernel), List.mem_of_getElem? (i := 267) (by decide +kernel), List.mem_of_getElem? (i := 268) (by decide +kernel)⟩
theorem lw_p3 : lw_okq (⟨"LeanLane$Lane", "supportOf", "(I)I"⟩, 9) := ⟨⟨by decide +kernel, by decide +kernel⟩, List.mem_of_getElem? (i := 33) (by decide +kernel), List.mem_of_getElem? (i := 271) (by decide +kernel), List.mem_of_getElem? (i := 272) (by decide +kernel)⟩
theorem lw_p4 : lw_okq (⟨"LeanLane$Lane", "fallingBits", "()I"⟩, 9) := ⟨⟨by decide +kernel, by decide +kernel⟩, List.mem_of_getElem? (i := 33) (by decide +kernel), List.mem_of_getElem? (i := 275) (by decide +kernel), List.mem_of_getElem? (i := 276) (by decide +kernel)⟩
theorem lw_p5 : lw_okq (⟨"LeanLane", "areMoves", "(IJ)Z"⟩, 8) := ⟨⟨by decide +kernel, by decide +kernel⟩, List.mem_of_getElem? (i := 11) (by decide +kernel), List.mem_of_getElem? (i := 384) (by decide +kernel), List.mem_of_getElem? (i := 385) (by decide +kernel)⟩
theorem lw_p6 : lw_okq (⟨"LeanLane", "isSafeOrder", "(IJI)Z"⟩, 8) := ⟨⟨by decide +kernel, by decide +kernel⟩, List.mem_of_getElem? (i := 11) (by decide +kernel), List.mem_of_getElem? (i := 401) (by decide +kernel), List.mem_of_getElem? (i := 402) (by decide +kernel)⟩
theorem lw_p7 : lw_okq (⟨"LeanLane", "canMove", "(IJI)Z"⟩, 8) := ⟨⟨by decide +kernel, by decide +kernel⟩, List.mem_of_getElem? (i := 11) (by decide +kernel), List.mem_of_getElem? (i := 405) (by decide +kernel), List.mem_of_getElem? (i := 406) (by decide +kernel)⟩
theorem lw_p8 : lw_okq (⟨"LeanLane", "fewestFromOne", "(II)I"⟩, 8) := ⟨⟨by decide +kernel, by decide +kernel⟩, List.mem_of_getElem? (i := 11) (by decide +kernel), List.mem_of_getElem? (i := 424) (by decide +kernel), List.mem_of_getElem? (i := 425) (by decide +kernel)⟩
theorem lw_p9 : lw_okq (⟨"LeanLane", "mostTaken", "(I)I"⟩, 8) := ⟨⟨by decide +kernel, by decide +kernel⟩, List.mem_of_getElem? (i := 11) (by decide +kernel), List.mem_of_getElem? (i := 428) (by decide +kernel), List.mem_of_getElem? (i := 429) (by decide +kernel)⟩
theorem lw_p10 : lw_okq (⟨"LeanLane", "isCalmWithout", "(IIII)Z"⟩, 8) := ⟨⟨by decide +kernel, by decide +kernel⟩, List.mem_of_getElem? (i := 11) (by decide +kernel), List.mem_of_getElem? (i := 433) (by decide +kernel), List.mem_of_getElem? (i := 434) (by decide +kernel)⟩
theorem lw_p11 : lw_okq (⟨"LeanLane", "fewestFromTwo", "(III)I"⟩, 8) := ⟨⟨by decide +kernel, by decide +kernel⟩, List.mem_of_getElem? (i := 11) (by decide +kernel), List.mem_of_getElem? (i := 437) (by decide +kernel), List.mem_of_getElem? (i := 438) (by decide +kernel)⟩
theorem lw_p12 : lw_okq (⟨"LeanLane", "canBe", "(JII)Z"⟩, 8) := ⟨⟨by decide +kernel, by decide +kernel⟩, List.mem_of_getElem? (i := 11) (by decide +kernel), List.mem_of_getElem? (i := 445) (by decide +kernel), List.mem_of_getElem? (i := 446) (by decide +kernel)⟩
theorem lw_p13 : lw_okq (⟨"LeanLane", "explainsSeen", "(II)Z"⟩, 8) := ⟨⟨by decide +kernel, by decide +kernel⟩, List.mem_of_getElem? (i := 11) (by decide +kernel), List.mem_of_getElem? (i := 473) (by decide +kernel), List.mem_of_getElem? (i := 474) (by decide +kernel)⟩
theorem lw_p14 : lw_okq (⟨"LeanLane", "standingWithStonesOf", "(I)I"⟩, 8) := ⟨⟨by decide +kernel, by decide +kernel⟩, List.mem_of_getElem? (i := 11) (by decide +kernel), List.mem_of_getElem? (i := 487) (by decide +kernel), List.mem_of_getElem? (i := 488) (by decide +kernel)⟩
theorem lw_p15 : lw_okq (⟨"LeanLane", "prefers", "(IIII)Z"⟩, 8) := ⟨⟨by decide +kernel, by decide +kernel⟩, List.mem_of_getElem? (i := 11) (by decide +kernel), List.mem_of_getElem? (i := 514) (by decide +kernel), List.mem_of_getElem? (i := 515) (by decide +kernel)⟩
def lw_privs_1 : List (MethodName × Nat) := [(⟨"LeanLane$Text", "letterOf", "(II)C"⟩, 2), (⟨"LeanLane$Lane", "standUp", "(I)V"⟩, 9), (⟨"LeanLane$Lane", "passLoads", "()V"⟩, 9), (⟨"LeanLane$Lane", "supportOf", "(I)I"⟩, 9), (⟨"LeanLane$Lane", "fallingBits", "()I"⟩, 9), (⟨"LeanLane", "areMoves", "(IJ)Z"⟩, 8), (⟨"LeanLane", "isSafeOrder", "(IJI)Z"⟩, 8), (⟨"LeanLane", "canMove", "(IJI)Z"⟩, 8), (⟨"LeanLane", "fewestFromOne", "(II)I"⟩, 8), (⟨"LeanLane", "mostTaken", "(I)I"⟩, 8), (⟨"LeanLane", "isCalmWithout", "(IIII)Z"⟩, 8), (⟨"LeanLane", "fewestFromTwo", "(III)I"⟩, 8), (⟨"LeanLane", "canBe", "(JII)Z"⟩, 8), (⟨"LeanLane", "explainsSeen", "(II)Z"⟩, 8), (⟨"LeanLane", "standingWithStonesOf", "(I)I"⟩, 8), (⟨"LeanLane", "prefers", "(IIII)Z"⟩, 8)]
theorem lw_r1 : ∀ q ∈ lw_privs_1, lw_okq q := List.forall_mem_cons.mpr ⟨lw_p0, List.forall_mem_cons.mpr ⟨lw_p1, List.forall_mem_cons.mpr ⟨lw_p2, List.forall_mem_cons.mpr ⟨lw_p3, List.forall_mem_cons.mpr ⟨lw_p4, List.forall_mem_cons.mpr ⟨lw_p5, List.forall_mem_cons.mpr ⟨lw_p6, List.forall_mem_cons.mpr ⟨lw_p7, List.forall_mem_cons.mpr ⟨lw_p8, List.forall_mem_cons.mpr ⟨lw_p9, List.forall_mem_cons.mpr ⟨lw_p10, List.forall_mem_cons.mpr ⟨lw_p11, List.forall_mem_cons.mpr ⟨lw_p12, List.forall_mem_cons.mpr ⟨lw_p13, List.forall_mem_cons.mpr ⟨lw_p14, List.forall_mem_cons.mpr ⟨lw_p15, fun _ h => absurd h List.not_mem_nil⟩⟩⟩⟩⟩⟩⟩⟩⟩⟩⟩⟩⟩⟩⟩⟩
theorem lw_p16 : lw_okq (⟨"LeanLane", "gain", "(IIII)I"⟩, 8) := ⟨⟨by decide +kernel, by decide +kernel⟩, List.mem_of_getElem? (i := 11) (by decide +kernel), List.mem_of_getElem? (i := 518) (by decide +kernel), List.mem_of_getElem? (i := 519) (by decide +kernel)⟩
theorem lw_p17 : lw_okq (⟨"LeanLane", "standingWithFailed", "(I)I"⟩, 8) := ⟨⟨by decide +kernel, by decide +kernel⟩, List.mem_of_getElem? (i := 11) (by decide +kernel), List.mem_of_getElem? (i := 526) (by decide +kernel), List.mem_of_getElem? (i := 527) (by decide +kernel)⟩
theorem lw_p18 : lw_okq (⟨"LeanLane", "playYear", "(I)V"⟩, 8) := ⟨⟨by decide +kernel, by decide +kernel⟩, List.mem_of_getElem? (i := 11) (by decide +kernel), List.mem_of_getElem? (i := 548) (by decide +kernel), List.mem_of_getElem? (i := 549) (by decide +kernel)⟩
theorem lw_p19 : lw_okq (⟨"LeanLaneModel", "readText", "()I"⟩, 19) := ⟨⟨by decide +kernel, by decide +kernel⟩, List.mem_of_getElem? (i := 581) (by decide +kernel), List.mem_of_getElem? (i := 662) (by decide +kernel), List.mem_of_getElem? (i := 663) (by decide +kernel)⟩
theorem lw_p20 : lw_okq (⟨"LeanLaneModel", "isHouse", "(I)Z"⟩, 19) := ⟨⟨by decide +kernel, by decide +kernel⟩, List.mem_of_getElem? (i := 581) (by decide +kernel), List.mem_of_getElem? (i := 680) (by decide +kernel), List.mem_of_getElem? (i := 681) (by decide +kernel)⟩
theorem lw_p21 : lw_okq (⟨"LeanLaneModel", "givesOf", "(II)I"⟩, 19) := ⟨⟨by decide +kernel, by decide +kernel⟩, List.mem_of_getElem? (i := 581) (by decide +kernel), List.mem_of_getElem? (i := 684) (by decide +kernel), List.mem_of_getElem? (i := 685) (by decide +kernel)⟩
theorem lw_p22 : lw_okq (⟨"LeanLaneModel", "at", "(III)I"⟩, 19) := ⟨⟨by decide +kernel, by decide +kernel⟩, List.mem_of_getElem? (i := 581) (by decide +kernel), List.mem_of_getElem? (i := 688) (by decide +kernel), List.mem_of_getElem? (i := 689) (by decide +kernel)⟩
theorem lw_p23 : lw_okq (⟨"LeanLaneModel", "groundOf", "(II)I"⟩, 19) := ⟨⟨by decide +kernel, by decide +kernel⟩, List.mem_of_getElem? (i := 581) (by decide +kernel), List.mem_of_getElem? (i := 692) (by decide +kernel), List.mem_of_getElem? (i := 693) (by decide +kernel)⟩
theorem lw_p24 : lw_okq (⟨"LeanLaneModel", "keepAct", "()V"⟩, 19) := ⟨⟨by decide +kernel, by decide +kernel⟩, List.mem_of_getElem? (i := 581) (by decide +kernel), List.mem_of_getElem? (i := 700) (by decide +kernel), List.mem_of_getElem? (i := 701) (by decide +kernel)⟩
theorem lw_p25 : lw_okq (⟨"LeanLaneModel", "hourOn", "(I)I"⟩, 19) := ⟨⟨by decide +kernel, by decide +kernel⟩, List.mem_of_getElem? (i := 581) (by decide +kernel), List.mem_of_getElem? (i := 704) (by decide +kernel), List.mem_of_getElem? (i := 705) (by decide +kernel)⟩
theorem lw_p26 : lw_okq (⟨"LeanLaneModel", "leansOn", "(II)I"⟩, 19) := ⟨⟨by decide +kernel, by decide +kernel⟩, List.mem_of_getElem? (i := 581) (by decide +kernel), List.mem_of_getElem? (i := 708) (by decide +kernel), List.mem_of_getElem? (i := 709) (by decide +kernel)⟩
theorem lw_p27 : lw_okq (⟨"LeanLaneModel", "isHeld", "(II)Z"⟩, 19) := ⟨⟨by decide +kernel, by decide +kernel⟩, List.mem_of_getElem? (i := 581) (by decide +kernel), List.mem_of_getElem? (i := 712) (by decide +kernel), List.mem_of_getElem? (i := 713) (by decide +kernel)⟩
theorem lw_p28 : lw_okq (⟨"LeanLaneModel", "canBring", "(III)Z"⟩, 19) := ⟨⟨by decide +kernel, by decide +kernel⟩, List.mem_of_getElem? (i := 581) (by decide +kernel), List.mem_of_getElem? (i := 727) (by decide +kernel), List.mem_of_getElem? (i := 728) (by decide +kernel)⟩
theorem lw_p29 : lw_okq (⟨"LeanLaneModel", "canTake", "(III)Z"⟩, 19) := ⟨⟨by decide +kernel, by decide +kernel⟩, List.mem_of_getElem? (i := 581) (by decide +kernel), List.mem_of_getElem? (i := 735) (by decide +kernel), List.mem_of_getElem? (i := 736) (by decide +kernel)⟩
theorem lw_p30 : lw_okq (⟨"LeanLaneModel", "buildOn", "(II)V"⟩, 19) := ⟨⟨by decide +kernel, by decide +kernel⟩, List.mem_of_getElem? (i := 581) (by decide +kernel), List.mem_of_getElem? (i := 748) (by decide +kernel), List.mem_of_getElem? (i := 749) (by decide +kernel)⟩
theorem lw_p31 : lw_okq (⟨"LeanLaneModel", "layTrial", "()V"⟩, 19) := ⟨⟨by decide +kernel, by decide +kernel⟩, List.mem_of_getElem? (i := 581) (by decide +kernel), List.mem_of_getElem? (i := 761) (by decide +kernel), List.mem_of_getElem? (i := 762) (by decide +kernel)⟩
def lw_privs_2 : List (MethodName × Nat) := [(⟨"LeanLane", "gain", "(IIII)I"⟩, 8), (⟨"LeanLane", "standingWithFailed", "(I)I"⟩, 8), (⟨"LeanLane", "playYear", "(I)V"⟩, 8), (⟨"LeanLaneModel", "readText", "()I"⟩, 19), (⟨"LeanLaneModel", "isHouse", "(I)Z"⟩, 19), (⟨"LeanLaneModel", "givesOf", "(II)I"⟩, 19), (⟨"LeanLaneModel", "at", "(III)I"⟩, 19), (⟨"LeanLaneModel", "groundOf", "(II)I"⟩, 19), (⟨"LeanLaneModel", "keepAct", "()V"⟩, 19), (⟨"LeanLaneModel", "hourOn", "(I)I"⟩, 19), (⟨"LeanLaneModel", "leansOn", "(II)I"⟩, 19), (⟨"LeanLaneModel", "isHeld", "(II)Z"⟩, 19), (⟨"LeanLaneModel", "canBring", "(III)Z"⟩, 19), (⟨"LeanLaneModel", "canTake", "(III)Z"⟩, 19), (⟨"LeanLaneModel", "buildOn", "(II)V"⟩, 19), (⟨"LeanLaneModel", "layTrial", "()V"⟩, 19)]
theorem lw_r2 : ∀ q ∈ lw_privs_2, lw_okq q := List.forall_mem_cons.mpr ⟨lw_p16, List.forall_mem_cons.mpr ⟨lw_p17, List.forall_mem_cons.mpr ⟨lw_p18, List.forall_mem_cons.mpr ⟨lw_p19, List.forall_mem_cons.mpr ⟨lw_p20, List.forall_mem_cons.mpr ⟨lw_p21, List.forall_mem_cons.mpr ⟨lw_p22, List.forall_mem_cons.mpr ⟨lw_p23, List.forall_mem_cons.mpr ⟨lw_p24, List.forall_mem_cons.mpr ⟨lw_p25, List.forall_mem_cons.mpr ⟨lw_p26, List.forall_mem_cons.mpr ⟨lw_p27, List.forall_mem_cons.mpr ⟨lw_p28, List.forall_mem_cons.mpr ⟨lw_p29, List.forall_mem_cons.mpr ⟨lw_p30, List.forall_mem_cons.mpr ⟨lw_p31, fun _ h => absurd h List.not_mem_nil⟩⟩⟩⟩⟩⟩⟩⟩⟩⟩⟩⟩⟩⟩⟩⟩
theorem lw_p32 : lw_okq (⟨"LeanLaneModel", "goOn", "(I)I"⟩, 19) := ⟨⟨by decide +kernel, by decide +kernel⟩, List.mem_of_getElem? (i := 581) (by decide +kernel), List.mem_of_getElem? (i := 765) (by decide +kernel), List.mem_of_getElem? (i := 766) (by decide +kernel)⟩
theorem lw_p33 : lw_okq (⟨"LeanLaneModel", "standingOn", "(I)I"⟩, 19) := ⟨⟨by decide +kernel, by decide +kernel⟩, List.mem_of_getElem? (i := 581) (by decide +kernel), List.mem_of_getElem? (i := 773) (by decide +kernel), List.mem_of_getElem? (i := 774) (by decide +kernel)⟩
theorem lw_p34 : lw_okq (⟨"LeanLaneModel", "areMoves", "(IJ)Z"⟩, 19) := ⟨⟨by decide +kernel, by decide +kernel⟩, List.mem_of_getElem? (i := 581) (by decide +kernel), List.mem_of_getElem? (i := 794) (by decide +kernel), List.mem_of_getElem? (i := 795) (by decide +kernel)⟩
theorem lw_p35 : lw_okq (⟨"LeanLaneModel", "canMove", "(IJI)Z"⟩, 19) := ⟨⟨by decide +kernel, by decide +kernel⟩, List.mem_of_getElem? (i := 581) (by decide +kernel), List.mem_of_getElem? (i := 802) (by decide +kernel), List.mem_of_getElem? (i := 803) (by decide +kernel)⟩
theorem lw_p36 : lw_okq (⟨"LeanLaneModel", "isSafe", "(IIII)Z"⟩, 19) := ⟨⟨by decide +kernel, by decide +kernel⟩, List.mem_of_getElem? (i := 581) (by decide +kernel), List.mem_of_getElem? (i := 814) (by decide +kernel), List.mem_of_getElem? (i := 815) (by decide +kernel)⟩
theorem lw_p37 : lw_okq (⟨"LeanLaneModel", "tryThing", "(III)Z"⟩, 19) := ⟨⟨by decide +kernel, by decide +kernel⟩, List.mem_of_getElem? (i := 581) (by decide +kernel), List.mem_of_getElem? (i := 823) (by decide +kernel), List.mem_of_getElem? (i := 824) (by decide +kernel)⟩
theorem lw_p38 : lw_okq (⟨"LeanLaneModel", "mayBe", "(II)Z"⟩, 19) := ⟨⟨by decide +kernel, by decide +kernel⟩, List.mem_of_getElem? (i := 581) (by decide +kernel), List.mem_of_getElem? (i := 840) (by decide +kernel), List.mem_of_getElem? (i := 841) (by decide +kernel)⟩
theorem lw_p39 : lw_okq (⟨"LeanLaneModel", "standWith", "(I)I"⟩, 19) := ⟨⟨by decide +kernel, by decide +kernel⟩, List.mem_of_getElem? (i := 581) (by decide +kernel), List.mem_of_getElem? (i := 851) (by decide +kernel), List.mem_of_getElem? (i := 852) (by decide +kernel)⟩
theorem lw_p40 : lw_okq (⟨"LeanLaneModel", "isRest", "(IIII)Z"⟩, 19) := ⟨⟨by decide +kernel, by decide +kernel⟩, List.mem_of_getElem? (i := 581) (by decide +kernel), List.mem_of_getElem? (i := 862) (by decide +kernel), List.mem_of_getElem? (i := 863) (by decide +kernel)⟩
theorem lw_p41 : lw_okq (⟨"LeanLaneModel", "gain", "(IIII)I"⟩, 19) := ⟨⟨by decide +kernel, by decide +kernel⟩, List.mem_of_getElem? (i := 581) (by decide +kernel), List.mem_of_getElem? (i := 866) (by decide +kernel), List.mem_of_getElem? (i := 867) (by decide +kernel)⟩
theorem lw_p42 : lw_okq (⟨"LeanLaneModel", "together", "(I)I"⟩, 19) := ⟨⟨by decide +kernel, by decide +kernel⟩, List.mem_of_getElem? (i := 581) (by decide +kernel), List.mem_of_getElem? (i := 898) (by decide +kernel), List.mem_of_getElem? (i := 899) (by decide +kernel)⟩
def lw_privs_3 : List (MethodName × Nat) := [(⟨"LeanLaneModel", "goOn", "(I)I"⟩, 19), (⟨"LeanLaneModel", "standingOn", "(I)I"⟩, 19), (⟨"LeanLaneModel", "areMoves", "(IJ)Z"⟩, 19), (⟨"LeanLaneModel", "canMove", "(IJI)Z"⟩, 19), (⟨"LeanLaneModel", "isSafe", "(IIII)Z"⟩, 19), (⟨"LeanLaneModel", "tryThing", "(III)Z"⟩, 19), (⟨"LeanLaneModel", "mayBe", "(II)Z"⟩, 19), (⟨"LeanLaneModel", "standWith", "(I)I"⟩, 19), (⟨"LeanLaneModel", "isRest", "(IIII)Z"⟩, 19), (⟨"LeanLaneModel", "gain", "(IIII)I"⟩, 19), (⟨"LeanLaneModel", "together", "(I)I"⟩, 19)]
theorem lw_r3 : ∀ q ∈ lw_privs_3, lw_okq q := List.forall_mem_cons.mpr ⟨lw_p32, List.forall_mem_cons.mpr ⟨lw_p33, List.forall_mem_cons.mpr ⟨lw_p34, List.forall_mem_cons.mpr ⟨lw_p35, List.forall_mem_cons.mpr ⟨lw_p36, List.forall_mem_cons.mpr ⟨lw_p37, List.forall_mem_cons.mpr ⟨lw_p38, List.forall_mem_cons.mpr ⟨lw_p39, List.forall_mem_cons.mpr ⟨lw_p40, List.forall_mem_cons.mpr ⟨lw_p41, List.forall_mem_cons.mpr ⟨lw_p42, fun _ h => absurd h List.not_mem_nil⟩⟩⟩⟩⟩⟩⟩⟩⟩⟩⟩
def lw_privs : List (MethodName × Nat) := lw_privs_1 ++ (lw_privs_2 ++ (lw_privs_3))
def lw_tbl : List Cond := k2_sels lw_privs ++ tables_1
theorem lw_privs_ok : ∀ q ∈ lw_privs, lw_okq q := by
  show ∀ q ∈ lw_privs_1 ++ (lw_privs_2 ++ (lw_privs_3)), lw_okq q
  exact List.forall_mem_append.mpr ⟨lw_r1, List.forall_mem_append.mpr ⟨lw_r2, lw_r3⟩⟩
end
section
def RX0 : String := "LeanLane$Lane"
def TX0 : u_T := fun k => match k with
  | 0 => ("LeanLane$Lane", "kinds", "[I", true)
  | 1 => ("LeanLane$Lane", "stones", "[I", true)
  | 2 => ("LeanLane$Lane", "strengths", "[I", true)
  | 3 => ("LeanLane$Lane", "deeds", "[I", true)
  | 4 => ("LeanLane$Lane", "loads", "[I", true)
  | 5 => ("LeanLane$Lane", "coming", "[I", true)
  | 6 => ("LeanLane$Lane", "houses", "I", false)
  | 7 => ("LeanLane$Lane", "up", "I", false)
  | _ => ("LeanLane$Lane", "passed", "I", false)
def tyX0 : Nat → FieldType := fun k => match k with
  | 0 => .array .int
  | 1 => .array .int
  | 2 => .array .int
  | 3 => .array .int
  | 4 => .array .int
  | 5 => .array .int
  | 6 => .int
  | 7 => .int
  | _ => .int
abbrev wsX00 : List Cond := u_ws RX0 TX0 9
theorem nmX0 : ∀ a, a < 9 → ∀ b, b < 9 → a ≠ b → (TX0 a).2.1 ≠ (TX0 b).2.1 := by decide +kernel
theorem tyX0_ok : ∀ k, k < 9 → parseFieldDescriptor (TX0 k).2.2.1 = some (tyX0 k) := by decide +kernel
abbrev cX0_init : ByteArray := prog_2_method_1_code
def yX0_init : MethodName := ⟨RX0, "<init>", "()V"⟩
abbrev cX0_copyFrom : ByteArray := prog_2_method_2_code
def yX0_copyFrom : MethodName := ⟨RX0, "copyFrom", "(LLeanLane$Lane;)V"⟩
abbrev cX0_readFrom : ByteArray := prog_2_method_3_code
def yX0_readFrom : MethodName := ⟨RX0, "readFrom", "(LLeanLane$Text;)V"⟩
abbrev cX0_standUp : ByteArray := prog_2_method_4_code
def yX0_standUp : MethodName := ⟨RX0, "standUp", "(I)V"⟩
abbrev cX0_size : ByteArray := prog_2_method_5_code
def yX0_size : MethodName := ⟨RX0, "size", "()I"⟩
abbrev cX0_has : ByteArray := prog_2_method_6_code
def yX0_has : MethodName := ⟨RX0, "has", "(I)Z"⟩
abbrev cX0_stands : ByteArray := prog_2_method_7_code
def yX0_stands : MethodName := ⟨RX0, "stands", "(I)Z"⟩
abbrev cX0_standingBits : ByteArray := prog_2_method_8_code
def yX0_standingBits : MethodName := ⟨RX0, "standingBits", "()I"⟩
abbrev cX0_hoursPassed : ByteArray := prog_2_method_9_code
def yX0_hoursPassed : MethodName := ⟨RX0, "hoursPassed", "()I"⟩
abbrev cX0_kindOf : ByteArray := prog_2_method_10_code
def yX0_kindOf : MethodName := ⟨RX0, "kindOf", "(I)I"⟩
abbrev cX0_stonesOf : ByteArray := prog_2_method_11_code
def yX0_stonesOf : MethodName := ⟨RX0, "stonesOf", "(I)I"⟩
abbrev cX0_strengthOf : ByteArray := prog_2_method_12_code
def yX0_strengthOf : MethodName := ⟨RX0, "strengthOf", "(I)I"⟩
abbrev cX0_deedOf : ByteArray := prog_2_method_13_code
def yX0_deedOf : MethodName := ⟨RX0, "deedOf", "(I)I"⟩
abbrev cX0_loadOf : ByteArray := prog_2_method_14_code
def yX0_loadOf : MethodName := ⟨RX0, "loadOf", "(I)I"⟩
abbrev cX0_givesOf : ByteArray := prog_2_method_15_code
def yX0_givesOf : MethodName := ⟨RX0, "givesOf", "(I)I"⟩
abbrev cX0_groundOf : ByteArray := prog_2_method_16_code
def yX0_groundOf : MethodName := ⟨RX0, "groundOf", "(I)I"⟩
abbrev cX0_given : ByteArray := prog_2_method_17_code
def yX0_given : MethodName := ⟨RX0, "given", "(II)I"⟩
abbrev cX0_supportOf : ByteArray := prog_2_method_18_code
def yX0_supportOf : MethodName := ⟨RX0, "supportOf", "(I)I"⟩
abbrev cX0_passHour : ByteArray := prog_2_method_19_code
def yX0_passHour : MethodName := ⟨RX0, "passHour", "()I"⟩
abbrev cX0_passHours : ByteArray := prog_2_method_20_code
def yX0_passHours : MethodName := ⟨RX0, "passHours", "(I)V"⟩
abbrev cX0_passLoads : ByteArray := prog_2_method_21_code
def yX0_passLoads : MethodName := ⟨RX0, "passLoads", "()V"⟩
abbrev cX0_fallingBits : ByteArray := prog_2_method_22_code
def yX0_fallingBits : MethodName := ⟨RX0, "fallingBits", "()I"⟩
abbrev cX0_staysCalm : ByteArray := prog_2_method_23_code
def yX0_staysCalm : MethodName := ⟨RX0, "staysCalm", "(I)Z"⟩
abbrev cX0_canAdd : ByteArray := prog_2_method_24_code
def yX0_canAdd : MethodName := ⟨RX0, "canAdd", "(II)Z"⟩
abbrev cX0_addStones : ByteArray := prog_2_method_25_code
def yX0_addStones : MethodName := ⟨RX0, "addStones", "(II)Z"⟩
abbrev cX0_canRemove : ByteArray := prog_2_method_26_code
def yX0_canRemove : MethodName := ⟨RX0, "canRemove", "(II)Z"⟩
abbrev cX0_removeStones : ByteArray := prog_2_method_27_code
def yX0_removeStones : MethodName := ⟨RX0, "removeStones", "(II)Z"⟩
abbrev cX0_isDeed : ByteArray := prog_2_method_28_code
def yX0_isDeed : MethodName := ⟨RX0, "isDeed", "(I)Z"⟩
abbrev cX0_writeDeed : ByteArray := prog_2_method_29_code
def yX0_writeDeed : MethodName := ⟨RX0, "writeDeed", "(II)Z"⟩
abbrev cX0_raise : ByteArray := prog_2_method_30_code
def yX0_raise : MethodName := ⟨RX0, "raise", "(I)Z"⟩
abbrev cX0_emptyAllBut : ByteArray := prog_2_method_31_code
def yX0_emptyAllBut : MethodName := ⟨RX0, "emptyAllBut", "(I)V"⟩
abbrev cX0_failDeeds : ByteArray := prog_2_method_32_code
def yX0_failDeeds : MethodName := ⟨RX0, "failDeeds", "(I)V"⟩
abbrev cX0_ringBits : ByteArray := prog_2_method_33_code
def yX0_ringBits : MethodName := ⟨RX0, "ringBits", "()I"⟩
abbrev cX0_allStones : ByteArray := prog_2_method_34_code
def yX0_allStones : MethodName := ⟨RX0, "allStones", "()I"⟩
abbrev cX0_allGround : ByteArray := prog_2_method_35_code
def yX0_allGround : MethodName := ⟨RX0, "allGround", "()I"⟩
abbrev cX0_monkLoad : ByteArray := prog_2_method_36_code
def yX0_monkLoad : MethodName := ⟨RX0, "monkLoad", "()I"⟩
def RX1 : String := "LeanLane$Past"
def TX1 : u_T := fun k => match k with
  | 0 => ("LeanLane$Past", "lanes", "[LLeanLane$Lane;", true)
  | 1 => ("LeanLane$Past", "first", "I", false)
  | _ => ("LeanLane$Past", "size", "I", false)
def tyX1 : Nat → FieldType := fun k => match k with
  | 0 => .array (.object "LeanLane$Lane")
  | 1 => .int
  | _ => .int
abbrev wsX10 : List Cond := u_ws RX1 TX1 3
theorem nmX1 : ∀ a, a < 3 → ∀ b, b < 3 → a ≠ b → (TX1 a).2.1 ≠ (TX1 b).2.1 := by decide +kernel
theorem tyX1_ok : ∀ k, k < 3 → parseFieldDescriptor (TX1 k).2.2.1 = some (tyX1 k) := by decide +kernel
abbrev cX1_init : ByteArray := prog_3_method_1_code
def yX1_init : MethodName := ⟨RX1, "<init>", "()V"⟩
abbrev cX1_size : ByteArray := prog_3_method_2_code
def yX1_size : MethodName := ⟨RX1, "size", "()I"⟩
abbrev cX1_clear : ByteArray := prog_3_method_3_code
def yX1_clear : MethodName := ⟨RX1, "clear", "()V"⟩
abbrev cX1_remember : ByteArray := prog_3_method_4_code
def yX1_remember : MethodName := ⟨RX1, "remember", "(LLeanLane$Lane;)V"⟩
abbrev cX1_goBack : ByteArray := prog_3_method_5_code
def yX1_goBack : MethodName := ⟨RX1, "goBack", "(LLeanLane$Lane;)V"⟩
def RX2 : String := "LeanLane$Sightings"
def TX2 : u_T := fun k => match k with
  | 0 => ("LeanLane$Sightings", "hours", "[I", true)
  | 1 => ("LeanLane$Sightings", "houses", "[I", true)
  | 2 => ("LeanLane$Sightings", "stood", "[I", true)
  | _ => ("LeanLane$Sightings", "size", "I", false)
def tyX2 : Nat → FieldType := fun k => match k with
  | 0 => .array .int
  | 1 => .array .int
  | 2 => .array .int
  | _ => .int
abbrev wsX20 : List Cond := u_ws RX2 TX2 4
theorem nmX2 : ∀ a, a < 4 → ∀ b, b < 4 → a ≠ b → (TX2 a).2.1 ≠ (TX2 b).2.1 := by decide +kernel
theorem tyX2_ok : ∀ k, k < 4 → parseFieldDescriptor (TX2 k).2.2.1 = some (tyX2 k) := by decide +kernel
abbrev cX2_init : ByteArray := prog_4_method_1_code
def yX2_init : MethodName := ⟨RX2, "<init>", "()V"⟩
abbrev cX2_size : ByteArray := prog_4_method_2_code
def yX2_size : MethodName := ⟨RX2, "size", "()I"⟩
abbrev cX2_clear : ByteArray := prog_4_method_3_code
def yX2_clear : MethodName := ⟨RX2, "clear", "()I"⟩
abbrev cX2_add : ByteArray := prog_4_method_4_code
def yX2_add : MethodName := ⟨RX2, "add", "(III)Z"⟩
abbrev cX2_agrees : ByteArray := prog_4_method_5_code
def yX2_agrees : MethodName := ⟨RX2, "agrees", "(ILLeanLane$Lane;)Z"⟩
def RX3 : String := "LeanLane$Text"
def TX3 : u_T := fun k => match k with
  | 0 => ("LeanLane$Text", "letters", "[C", true)
  | _ => ("LeanLane$Text", "length", "I", false)
def tyX3 : Nat → FieldType := fun k => match k with
  | 0 => .array .char
  | _ => .int
abbrev wsX30 : List Cond := u_ws RX3 TX3 2
theorem nmX3 : ∀ a, a < 2 → ∀ b, b < 2 → a ≠ b → (TX3 a).2.1 ≠ (TX3 b).2.1 := by decide +kernel
theorem tyX3_ok : ∀ k, k < 2 → parseFieldDescriptor (TX3 k).2.2.1 = some (tyX3 k) := by decide +kernel
abbrev cX3_init : ByteArray := prog_5_method_1_code
def yX3_init : MethodName := ⟨RX3, "<init>", "()V"⟩
abbrev cX3_length : ByteArray := prog_5_method_2_code
def yX3_length : MethodName := ⟨RX3, "length", "()I"⟩
abbrev cX3_append : ByteArray := prog_5_method_3_code
def yX3_append : MethodName := ⟨RX3, "append", "(I)Z"⟩
abbrev cX3_clear : ByteArray := prog_5_method_4_code
def yX3_clear : MethodName := ⟨RX3, "clear", "()I"⟩
abbrev cX3_firstFault : ByteArray := prog_5_method_5_code
def yX3_firstFault : MethodName := ⟨RX3, "firstFault", "()I"⟩
abbrev cX3_fits : ByteArray := prog_5_method_6_code
def yX3_fits : MethodName := ⟨RX3, "fits", "(CI)Z"⟩
abbrev cX3_houses : ByteArray := prog_5_method_7_code
def yX3_houses : MethodName := ⟨RX3, "houses", "()I"⟩
abbrev cX3_numberOf : ByteArray := prog_5_method_8_code
def yX3_numberOf : MethodName := ⟨RX3, "numberOf", "(II)I"⟩
abbrev cX3_deedOf : ByteArray := prog_5_method_9_code
def yX3_deedOf : MethodName := ⟨RX3, "deedOf", "(I)I"⟩
abbrev cX3_letterOf : ByteArray := prog_5_method_10_code
def yX3_letterOf : MethodName := ⟨RX3, "letterOf", "(II)C"⟩
def RX4 : String := "LeanLane"
def TX4 : u_T := fun k => match k with
  | 0 => ("LeanLane", "text", "LLeanLane$Text;", true)
  | 1 => ("LeanLane", "now", "LLeanLane$Lane;", true)
  | 2 => ("LeanLane", "trial", "LLeanLane$Lane;", true)
  | 3 => ("LeanLane", "past", "LLeanLane$Past;", true)
  | 4 => ("LeanLane", "seen", "LLeanLane$Sightings;", true)
  | 5 => ("LeanLane", "slots", "[LLeanLane$Lane;", true)
  | 6 => ("LeanLane", "keptSlots", "I", false)
  | _ => ("LeanLane", "theSeed", "J", false)
def tyX4 : Nat → FieldType := fun k => match k with
  | 0 => .object "LeanLane$Text"
  | 1 => .object "LeanLane$Lane"
  | 2 => .object "LeanLane$Lane"
  | 3 => .object "LeanLane$Past"
  | 4 => .object "LeanLane$Sightings"
  | 5 => .array (.object "LeanLane$Lane")
  | 6 => .int
  | _ => .long
abbrev wsX40 : List Cond := u_ws RX4 TX4 8
theorem nmX4 : ∀ a, a < 8 → ∀ b, b < 8 → a ≠ b → (TX4 a).2.1 ≠ (TX4 b).2.1 := by decide +kernel
theorem tyX4_ok : ∀ k, k < 8 → parseFieldDescriptor (TX4 k).2.2.1 = some (tyX4 k) := by decide +kernel
abbrev cX4_init : ByteArray := prog_1_method_1_code
def yX4_init : MethodName := ⟨RX4, "<init>", "()V"⟩
abbrev cX4_write : ByteArray := prog_1_method_2_code
def yX4_write : MethodName := ⟨RX4, "write", "(I)I"⟩
abbrev cX4_wipe : ByteArray := prog_1_method_3_code
def yX4_wipe : MethodName := ⟨RX4, "wipe", "()I"⟩
abbrev cX4_fault : ByteArray := prog_1_method_4_code
def yX4_fault : MethodName := ⟨RX4, "fault", "()I"⟩
abbrev cX4_lane : ByteArray := prog_1_method_5_code
def yX4_lane : MethodName := ⟨RX4, "lane", "()I"⟩
abbrev cX4_house : ByteArray := prog_1_method_6_code
def yX4_house : MethodName := ⟨RX4, "house", "(II)I"⟩
abbrev cX4_hour : ByteArray := prog_1_method_7_code
def yX4_hour : MethodName := ⟨RX4, "hour", "()I"⟩
abbrev cX4_bring : ByteArray := prog_1_method_8_code
def yX4_bring : MethodName := ⟨RX4, "bring", "(II)I"⟩
abbrev cX4_take : ByteArray := prog_1_method_9_code
def yX4_take : MethodName := ⟨RX4, "take", "(II)I"⟩
abbrev cX4_deed : ByteArray := prog_1_method_10_code
def yX4_deed : MethodName := ⟨RX4, "deed", "(II)I"⟩
abbrev cX4_build : ByteArray := prog_1_method_11_code
def yX4_build : MethodName := ⟨RX4, "build", "(I)I"⟩
abbrev cX4_undo : ByteArray := prog_1_method_12_code
def yX4_undo : MethodName := ⟨RX4, "undo", "()I"⟩
abbrev cX4_later : ByteArray := prog_1_method_13_code
def yX4_later : MethodName := ⟨RX4, "later", "(III)I"⟩
abbrev cX4_standing : ByteArray := prog_1_method_14_code
def yX4_standing : MethodName := ⟨RX4, "standing", "(I)I"⟩
abbrev cX4_falls : ByteArray := prog_1_method_15_code
def yX4_falls : MethodName := ⟨RX4, "falls", "(I)I"⟩
abbrev cX4_rings : ByteArray := prog_1_method_16_code
def yX4_rings : MethodName := ⟨RX4, "rings", "()I"⟩
abbrev cX4_orders : ByteArray := prog_1_method_17_code
def yX4_orders : MethodName := ⟨RX4, "orders", "(IJI)I"⟩
abbrev cX4_areMoves : ByteArray := prog_1_method_18_code
def yX4_areMoves : MethodName := ⟨RX4, "areMoves", "(IJ)Z"⟩
abbrev cX4_moveAt : ByteArray := prog_1_method_19_code
def yX4_moveAt : MethodName := ⟨RX4, "moveAt", "(III)I"⟩
abbrev cX4_isOrder : ByteArray := prog_1_method_20_code
def yX4_isOrder : MethodName := ⟨RX4, "isOrder", "(II)Z"⟩
abbrev cX4_orderNumber : ByteArray := prog_1_method_21_code
def yX4_orderNumber : MethodName := ⟨RX4, "orderNumber", "(II)I"⟩
abbrev cX4_isSafeOrder : ByteArray := prog_1_method_22_code
def yX4_isSafeOrder : MethodName := ⟨RX4, "isSafeOrder", "(IJI)Z"⟩
abbrev cX4_canMove : ByteArray := prog_1_method_23_code
def yX4_canMove : MethodName := ⟨RX4, "canMove", "(IJI)Z"⟩
abbrev cX4_piano : ByteArray := prog_1_method_24_code
def yX4_piano : MethodName := ⟨RX4, "piano", "(I)I"⟩
abbrev cX4_sacks : ByteArray := prog_1_method_25_code
def yX4_sacks : MethodName := ⟨RX4, "sacks", "(I)I"⟩
abbrev cX4_fewestFromOne : ByteArray := prog_1_method_26_code
def yX4_fewestFromOne : MethodName := ⟨RX4, "fewestFromOne", "(II)I"⟩
abbrev cX4_fewestFromTwo : ByteArray := prog_1_method_27_code
def yX4_fewestFromTwo : MethodName := ⟨RX4, "fewestFromTwo", "(III)I"⟩
abbrev cX4_mostTaken : ByteArray := prog_1_method_28_code
def yX4_mostTaken : MethodName := ⟨RX4, "mostTaken", "(I)I"⟩
abbrev cX4_isCalmWithout : ByteArray := prog_1_method_29_code
def yX4_isCalmWithout : MethodName := ⟨RX4, "isCalmWithout", "(IIII)Z"⟩
abbrev cX4_judge : ByteArray := prog_1_method_30_code
def yX4_judge : MethodName := ⟨RX4, "judge", "(IJ)I"⟩
abbrev cX4_canBe : ByteArray := prog_1_method_31_code
def yX4_canBe : MethodName := ⟨RX4, "canBe", "(JII)Z"⟩
abbrev cX4_see : ByteArray := prog_1_method_32_code
def yX4_see : MethodName := ⟨RX4, "see", "(III)I"⟩
abbrev cX4_unsee : ByteArray := prog_1_method_33_code
def yX4_unsee : MethodName := ⟨RX4, "unsee", "()I"⟩
abbrev cX4_night : ByteArray := prog_1_method_34_code
def yX4_night : MethodName := ⟨RX4, "night", "(I)I"⟩
abbrev cX4_explainsSeen : ByteArray := prog_1_method_35_code
def yX4_explainsSeen : MethodName := ⟨RX4, "explainsSeen", "(II)Z"⟩
abbrev cX4_share : ByteArray := prog_1_method_36_code
def yX4_share : MethodName := ⟨RX4, "share", "(IZ)I"⟩
abbrev cX4_standingWithStonesOf : ByteArray := prog_1_method_37_code
def yX4_standingWithStonesOf : MethodName := ⟨RX4, "standingWithStonesOf", "(I)I"⟩
abbrev cX4_rests : ByteArray := prog_1_method_38_code
def yX4_rests : MethodName := ⟨RX4, "rests", "(III)I"⟩
abbrev cX4_prefers : ByteArray := prog_1_method_39_code
def yX4_prefers : MethodName := ⟨RX4, "prefers", "(IIII)Z"⟩
abbrev cX4_gain : ByteArray := prog_1_method_40_code
def yX4_gain : MethodName := ⟨RX4, "gain", "(IIII)I"⟩
abbrev cX4_fails : ByteArray := prog_1_method_41_code
def yX4_fails : MethodName := ⟨RX4, "fails", "(IIZ)I"⟩
abbrev cX4_standingWithFailed : ByteArray := prog_1_method_42_code
def yX4_standingWithFailed : MethodName := ⟨RX4, "standingWithFailed", "(I)I"⟩
abbrev cX4_seed : ByteArray := prog_1_method_43_code
def yX4_seed : MethodName := ⟨RX4, "seed", "(J)J"⟩
abbrev cX4_years : ByteArray := prog_1_method_44_code
def yX4_years : MethodName := ⟨RX4, "years", "(I)I"⟩
abbrev cX4_playYear : ByteArray := prog_1_method_45_code
def yX4_playYear : MethodName := ⟨RX4, "playYear", "(I)V"⟩
abbrev cX4_keep : ByteArray := prog_1_method_46_code
def yX4_keep : MethodName := ⟨RX4, "keep", "(I)I"⟩
abbrev cX4_again : ByteArray := prog_1_method_47_code
def yX4_again : MethodName := ⟨RX4, "again", "(I)I"⟩
abbrev cX4_count : ByteArray := prog_1_method_48_code
def yX4_count : MethodName := ⟨RX4, "count", "(I)I"⟩
abbrev cX4_isHalf : ByteArray := prog_1_method_49_code
def yX4_isHalf : MethodName := ⟨RX4, "isHalf", "(I)Z"⟩
abbrev cX4_isCarried : ByteArray := prog_1_method_50_code
def yX4_isCarried : MethodName := ⟨RX4, "isCarried", "(I)Z"⟩
abbrev cX4_hasFigures : ByteArray := prog_1_method_51_code
def yX4_hasFigures : MethodName := ⟨RX4, "hasFigures", "(JI)Z"⟩
abbrev cX4_figure : ByteArray := prog_1_method_52_code
def yX4_figure : MethodName := ⟨RX4, "figure", "(JII)I"⟩
abbrev cX4_power : ByteArray := prog_1_method_53_code
def yX4_power : MethodName := ⟨RX4, "power", "(II)I"⟩
abbrev cX4_factorial : ByteArray := prog_1_method_54_code
def yX4_factorial : MethodName := ⟨RX4, "factorial", "(I)I"⟩
abbrev cX4_partOfFraction : ByteArray := prog_1_method_55_code
def yX4_partOfFraction : MethodName := ⟨RX4, "partOfFraction", "(IIZ)I"⟩
abbrev cX4_commonDivisor : ByteArray := prog_1_method_56_code
def yX4_commonDivisor : MethodName := ⟨RX4, "commonDivisor", "(II)I"⟩
def RX5 : String := "LeanLaneModel"
def TX5 : u_T := fun k => match k with
  | 0 => ("LeanLaneModel", "houses", "I", false)
  | 1 => ("LeanLaneModel", "strength", "[I", true)
  | 2 => ("LeanLaneModel", "now", "[I", true)
  | 3 => ("LeanLaneModel", "read", "[I", true)
  | 4 => ("LeanLaneModel", "readHouses", "I", false)
  | 5 => ("LeanLaneModel", "text", "[I", true)
  | 6 => ("LeanLaneModel", "length", "I", false)
  | 7 => ("LeanLaneModel", "loads", "[I", true)
  | 8 => ("LeanLaneModel", "falling", "[I", true)
  | 9 => ("LeanLaneModel", "acts", "I", false)
  | 10 => ("LeanLaneModel", "next", "I", false)
  | 11 => ("LeanLaneModel", "row", "[I", true)
  | 12 => ("LeanLaneModel", "seen", "I", false)
  | 13 => ("LeanLaneModel", "seenHours", "[I", true)
  | 14 => ("LeanLaneModel", "seenHouse", "[I", true)
  | 15 => ("LeanLaneModel", "seenStood", "[I", true)
  | 16 => ("LeanLaneModel", "seed", "J", false)
  | 17 => ("LeanLaneModel", "isKept", "[Z", true)
  | _ => ("LeanLaneModel", "kept", "[I", true)
def tyX5 : Nat → FieldType := fun k => match k with
  | 0 => .int
  | 1 => .array .int
  | 2 => .array .int
  | 3 => .array .int
  | 4 => .int
  | 5 => .array .int
  | 6 => .int
  | 7 => .array .int
  | 8 => .array .int
  | 9 => .int
  | 10 => .int
  | 11 => .array .int
  | 12 => .int
  | 13 => .array .int
  | 14 => .array .int
  | 15 => .array .int
  | 16 => .long
  | 17 => .array .boolean
  | _ => .array .int
abbrev wsX50 : List Cond := u_ws RX5 TX5 19
theorem nmX5 : ∀ a, a < 19 → ∀ b, b < 19 → a ≠ b → (TX5 a).2.1 ≠ (TX5 b).2.1 := by decide +kernel
theorem tyX5_ok : ∀ k, k < 19 → parseFieldDescriptor (TX5 k).2.2.1 = some (tyX5 k) := by decide +kernel
abbrev cX5_init : ByteArray := prog_7_method_1_code
def yX5_init : MethodName := ⟨RX5, "<init>", "()V"⟩
abbrev cX5_in : ByteArray := prog_7_method_3_code
def yX5_in : MethodName := ⟨RX5, "in", "(JJJ)Z"⟩
abbrev cX5_has : ByteArray := prog_7_method_4_code
def yX5_has : MethodName := ⟨RX5, "has", "(II)Z"⟩
abbrev cX5_ones : ByteArray := prog_7_method_5_code
def yX5_ones : MethodName := ⟨RX5, "ones", "(I)I"⟩
abbrev cX5_write : ByteArray := prog_7_method_6_code
def yX5_write : MethodName := ⟨RX5, "write", "(I)I"⟩
abbrev cX5_wipe : ByteArray := prog_7_method_7_code
def yX5_wipe : MethodName := ⟨RX5, "wipe", "()I"⟩
abbrev cX5_deedOf : ByteArray := prog_7_method_8_code
def yX5_deedOf : MethodName := ⟨RX5, "deedOf", "(I)I"⟩
abbrev cX5_readText : ByteArray := prog_7_method_9_code
def yX5_readText : MethodName := ⟨RX5, "readText", "()I"⟩
abbrev cX5_fault : ByteArray := prog_7_method_10_code
def yX5_fault : MethodName := ⟨RX5, "fault", "()I"⟩
abbrev cX5_lane : ByteArray := prog_7_method_11_code
def yX5_lane : MethodName := ⟨RX5, "lane", "()I"⟩
abbrev cX5_isHouse : ByteArray := prog_7_method_12_code
def yX5_isHouse : MethodName := ⟨RX5, "isHouse", "(I)Z"⟩
abbrev cX5_at : ByteArray := prog_7_method_13_code
def yX5_at : MethodName := ⟨RX5, "at", "(III)I"⟩
abbrev cX5_givesOf : ByteArray := prog_7_method_14_code
def yX5_givesOf : MethodName := ⟨RX5, "givesOf", "(II)I"⟩
abbrev cX5_groundOf : ByteArray := prog_7_method_15_code
def yX5_groundOf : MethodName := ⟨RX5, "groundOf", "(II)I"⟩
abbrev cX5_leansOn : ByteArray := prog_7_method_16_code
def yX5_leansOn : MethodName := ⟨RX5, "leansOn", "(II)I"⟩
abbrev cX5_isHeld : ByteArray := prog_7_method_17_code
def yX5_isHeld : MethodName := ⟨RX5, "isHeld", "(II)Z"⟩
abbrev cX5_hourOn : ByteArray := prog_7_method_18_code
def yX5_hourOn : MethodName := ⟨RX5, "hourOn", "(I)I"⟩
abbrev cX5_standingOn : ByteArray := prog_7_method_19_code
def yX5_standingOn : MethodName := ⟨RX5, "standingOn", "(I)I"⟩
abbrev cX5_house : ByteArray := prog_7_method_20_code
def yX5_house : MethodName := ⟨RX5, "house", "(II)I"⟩
abbrev cX5_keepAct : ByteArray := prog_7_method_21_code
def yX5_keepAct : MethodName := ⟨RX5, "keepAct", "()V"⟩
abbrev cX5_hour : ByteArray := prog_7_method_22_code
def yX5_hour : MethodName := ⟨RX5, "hour", "()I"⟩
abbrev cX5_canBring : ByteArray := prog_7_method_23_code
def yX5_canBring : MethodName := ⟨RX5, "canBring", "(III)Z"⟩
abbrev cX5_canTake : ByteArray := prog_7_method_24_code
def yX5_canTake : MethodName := ⟨RX5, "canTake", "(III)Z"⟩
abbrev cX5_bring : ByteArray := prog_7_method_25_code
def yX5_bring : MethodName := ⟨RX5, "bring", "(II)I"⟩
abbrev cX5_take : ByteArray := prog_7_method_26_code
def yX5_take : MethodName := ⟨RX5, "take", "(II)I"⟩
abbrev cX5_deed : ByteArray := prog_7_method_27_code
def yX5_deed : MethodName := ⟨RX5, "deed", "(II)I"⟩
abbrev cX5_buildOn : ByteArray := prog_7_method_28_code
def yX5_buildOn : MethodName := ⟨RX5, "buildOn", "(II)V"⟩
abbrev cX5_build : ByteArray := prog_7_method_29_code
def yX5_build : MethodName := ⟨RX5, "build", "(I)I"⟩
abbrev cX5_undo : ByteArray := prog_7_method_30_code
def yX5_undo : MethodName := ⟨RX5, "undo", "()I"⟩
abbrev cX5_layTrial : ByteArray := prog_7_method_31_code
def yX5_layTrial : MethodName := ⟨RX5, "layTrial", "()V"⟩
abbrev cX5_goOn : ByteArray := prog_7_method_32_code
def yX5_goOn : MethodName := ⟨RX5, "goOn", "(I)I"⟩
abbrev cX5_later : ByteArray := prog_7_method_33_code
def yX5_later : MethodName := ⟨RX5, "later", "(III)I"⟩
abbrev cX5_standing : ByteArray := prog_7_method_34_code
def yX5_standing : MethodName := ⟨RX5, "standing", "(I)I"⟩
abbrev cX5_falls : ByteArray := prog_7_method_35_code
def yX5_falls : MethodName := ⟨RX5, "falls", "(I)I"⟩
abbrev cX5_rings : ByteArray := prog_7_method_36_code
def yX5_rings : MethodName := ⟨RX5, "rings", "()I"⟩
abbrev cX5_tenTo : ByteArray := prog_7_method_37_code
def yX5_tenTo : MethodName := ⟨RX5, "tenTo", "(I)J"⟩
abbrev cX5_areMoves : ByteArray := prog_7_method_38_code
def yX5_areMoves : MethodName := ⟨RX5, "areMoves", "(IJ)Z"⟩
abbrev cX5_canMove : ByteArray := prog_7_method_39_code
def yX5_canMove : MethodName := ⟨RX5, "canMove", "(IJI)Z"⟩
abbrev cX5_isOrder : ByteArray := prog_7_method_40_code
def yX5_isOrder : MethodName := ⟨RX5, "isOrder", "(II)Z"⟩
abbrev cX5_orders : ByteArray := prog_7_method_41_code
def yX5_orders : MethodName := ⟨RX5, "orders", "(IJI)I"⟩
abbrev cX5_piano : ByteArray := prog_7_method_42_code
def yX5_piano : MethodName := ⟨RX5, "piano", "(I)I"⟩
abbrev cX5_isSafe : ByteArray := prog_7_method_43_code
def yX5_isSafe : MethodName := ⟨RX5, "isSafe", "(IIII)Z"⟩
abbrev cX5_sacks : ByteArray := prog_7_method_44_code
def yX5_sacks : MethodName := ⟨RX5, "sacks", "(I)I"⟩
abbrev cX5_tryThing : ByteArray := prog_7_method_45_code
def yX5_tryThing : MethodName := ⟨RX5, "tryThing", "(III)Z"⟩
abbrev cX5_judge : ByteArray := prog_7_method_46_code
def yX5_judge : MethodName := ⟨RX5, "judge", "(IJ)I"⟩
abbrev cX5_see : ByteArray := prog_7_method_47_code
def yX5_see : MethodName := ⟨RX5, "see", "(III)I"⟩
abbrev cX5_unsee : ByteArray := prog_7_method_48_code
def yX5_unsee : MethodName := ⟨RX5, "unsee", "()I"⟩
abbrev cX5_mayBe : ByteArray := prog_7_method_49_code
def yX5_mayBe : MethodName := ⟨RX5, "mayBe", "(II)Z"⟩
abbrev cX5_night : ByteArray := prog_7_method_50_code
def yX5_night : MethodName := ⟨RX5, "night", "(I)I"⟩
abbrev cX5_factorial : ByteArray := prog_7_method_51_code
def yX5_factorial : MethodName := ⟨RX5, "factorial", "(I)I"⟩
abbrev cX5_common : ByteArray := prog_7_method_52_code
def yX5_common : MethodName := ⟨RX5, "common", "(II)I"⟩
abbrev cX5_standWith : ByteArray := prog_7_method_53_code
def yX5_standWith : MethodName := ⟨RX5, "standWith", "(I)I"⟩
abbrev cX5_share : ByteArray := prog_7_method_54_code
def yX5_share : MethodName := ⟨RX5, "share", "(IZ)I"⟩
abbrev cX5_gain : ByteArray := prog_7_method_55_code
def yX5_gain : MethodName := ⟨RX5, "gain", "(IIII)I"⟩
abbrev cX5_isRest : ByteArray := prog_7_method_56_code
def yX5_isRest : MethodName := ⟨RX5, "isRest", "(IIII)Z"⟩
abbrev cX5_rests : ByteArray := prog_7_method_57_code
def yX5_rests : MethodName := ⟨RX5, "rests", "(III)I"⟩
abbrev cX5_fails : ByteArray := prog_7_method_58_code
def yX5_fails : MethodName := ⟨RX5, "fails", "(IIZ)I"⟩
abbrev cX5_seed : ByteArray := prog_7_method_59_code
def yX5_seed : MethodName := ⟨RX5, "seed", "(J)J"⟩
abbrev cX5_years : ByteArray := prog_7_method_60_code
def yX5_years : MethodName := ⟨RX5, "years", "(I)I"⟩
abbrev cX5_keep : ByteArray := prog_7_method_61_code
def yX5_keep : MethodName := ⟨RX5, "keep", "(I)I"⟩
abbrev cX5_again : ByteArray := prog_7_method_62_code
def yX5_again : MethodName := ⟨RX5, "again", "(I)I"⟩
abbrev cX5_together : ByteArray := prog_7_method_63_code
def yX5_together : MethodName := ⟨RX5, "together", "(I)I"⟩
abbrev cX5_count : ByteArray := prog_7_method_64_code
def yX5_count : MethodName := ⟨RX5, "count", "(I)I"⟩
def RJ6 : String := "java/lang/Integer"
abbrev cJ6_bitCount : ByteArray := prog_8_method_49_code
def yJ6_bitCount : MethodName := ⟨RJ6, "bitCount", "(I)I"⟩
def R_law : String := "LeanLaneLaw"
def TB : List Cond := lw_tbl.filter goodWord
set_option maxRecDepth 100000 in
theorem TB_good : TB.all goodWord = true := List.all_eq_true.mpr (fun _ h => (List.mem_filter.mp h).2)
abbrev classes : List vw_C := [(RX0, TX0, 9), (RX1, TX1, 3), (RX2, TX2, 4), (RX3, TX3, 2), (RX4, TX4, 8), (RX5, TX5, 19)]
end
section
set_option maxRecDepth 20000 in
theorem tw_0 : (.selects RX3 yX3_letterOf yX3_letterOf : Cond) ∈ TB := List.mem_filter.mpr ⟨List.mem_of_getElem? (i := 0) (by decide +kernel), by decide +kernel⟩
set_option maxRecDepth 20000 in
theorem tw_1 : (.selects RX0 yX0_standUp yX0_standUp : Cond) ∈ TB := List.mem_filter.mpr ⟨List.mem_of_getElem? (i := 1) (by decide +kernel), by decide +kernel⟩
set_option maxRecDepth 20000 in
theorem tw_2 : (.selects RX0 yX0_passLoads yX0_passLoads : Cond) ∈ TB := List.mem_filter.mpr ⟨List.mem_of_getElem? (i := 2) (by decide +kernel), by decide +kernel⟩
set_option maxRecDepth 20000 in
theorem tw_3 : (.selects RX0 yX0_supportOf yX0_supportOf : Cond) ∈ TB := List.mem_filter.mpr ⟨List.mem_of_getElem? (i := 3) (by decide +kernel), by decide +kernel⟩
set_option maxRecDepth 20000 in
theorem tw_4 : (.selects RX0 yX0_fallingBits yX0_fallingBits : Cond) ∈ TB := List.mem_filter.mpr ⟨List.mem_of_getElem? (i := 4) (by decide +kernel), by decide +kernel⟩
set_option maxRecDepth 20000 in
theorem tw_5 : (.selects RX4 yX4_areMoves yX4_areMoves : Cond) ∈ TB := List.mem_filter.mpr ⟨List.mem_of_getElem? (i := 5) (by decide +kernel), by decide +kernel⟩
set_option maxRecDepth 20000 in
theorem tw_6 : (.selects RX4 yX4_isSafeOrder yX4_isSafeOrder : Cond) ∈ TB := List.mem_filter.mpr ⟨List.mem_of_getElem? (i := 6) (by decide +kernel), by decide +kernel⟩
set_option maxRecDepth 20000 in
theorem tw_7 : (.selects RX4 yX4_canMove yX4_canMove : Cond) ∈ TB := List.mem_filter.mpr ⟨List.mem_of_getElem? (i := 7) (by decide +kernel), by decide +kernel⟩
set_option maxRecDepth 20000 in
theorem tw_8 : (.selects RX4 yX4_fewestFromOne yX4_fewestFromOne : Cond) ∈ TB := List.mem_filter.mpr ⟨List.mem_of_getElem? (i := 8) (by decide +kernel), by decide +kernel⟩
set_option maxRecDepth 20000 in
theorem tw_9 : (.selects RX4 yX4_mostTaken yX4_mostTaken : Cond) ∈ TB := List.mem_filter.mpr ⟨List.mem_of_getElem? (i := 9) (by decide +kernel), by decide +kernel⟩
set_option maxRecDepth 20000 in
theorem tw_10 : (.selects RX4 yX4_isCalmWithout yX4_isCalmWithout : Cond) ∈ TB := List.mem_filter.mpr ⟨List.mem_of_getElem? (i := 10) (by decide +kernel), by decide +kernel⟩
set_option maxRecDepth 20000 in
theorem tw_11 : (.selects RX4 yX4_fewestFromTwo yX4_fewestFromTwo : Cond) ∈ TB := List.mem_filter.mpr ⟨List.mem_of_getElem? (i := 11) (by decide +kernel), by decide +kernel⟩
set_option maxRecDepth 20000 in
theorem tw_12 : (.selects RX4 yX4_canBe yX4_canBe : Cond) ∈ TB := List.mem_filter.mpr ⟨List.mem_of_getElem? (i := 12) (by decide +kernel), by decide +kernel⟩
set_option maxRecDepth 20000 in
theorem tw_13 : (.selects RX4 yX4_explainsSeen yX4_explainsSeen : Cond) ∈ TB := List.mem_filter.mpr ⟨List.mem_of_getElem? (i := 13) (by decide +kernel), by decide +kernel⟩
set_option maxRecDepth 20000 in
theorem tw_14 : (.selects RX4 yX4_standingWithStonesOf yX4_standingWithStonesOf : Cond) ∈ TB := List.mem_filter.mpr ⟨List.mem_of_getElem? (i := 14) (by decide +kernel), by decide +kernel⟩
set_option maxRecDepth 20000 in
theorem tw_15 : (.selects RX4 yX4_prefers yX4_prefers : Cond) ∈ TB := List.mem_filter.mpr ⟨List.mem_of_getElem? (i := 15) (by decide +kernel), by decide +kernel⟩
set_option maxRecDepth 20000 in
theorem tw_16 : (.selects RX4 yX4_gain yX4_gain : Cond) ∈ TB := List.mem_filter.mpr ⟨List.mem_of_getElem? (i := 16) (by decide +kernel), by decide +kernel⟩
set_option maxRecDepth 20000 in
theorem tw_17 : (.selects RX4 yX4_standingWithFailed yX4_standingWithFailed : Cond) ∈ TB := List.mem_filter.mpr ⟨List.mem_of_getElem? (i := 17) (by decide +kernel), by decide +kernel⟩
set_option maxRecDepth 20000 in
theorem tw_18 : (.selects RX4 yX4_playYear yX4_playYear : Cond) ∈ TB := List.mem_filter.mpr ⟨List.mem_of_getElem? (i := 18) (by decide +kernel), by decide +kernel⟩
set_option maxRecDepth 20000 in
theorem tw_19 : (.selects RX5 yX5_readText yX5_readText : Cond) ∈ TB := List.mem_filter.mpr ⟨List.mem_of_getElem? (i := 19) (by decide +kernel), by decide +kernel⟩
set_option maxRecDepth 20000 in
theorem tw_20 : (.selects RX5 yX5_isHouse yX5_isHouse : Cond) ∈ TB := List.mem_filter.mpr ⟨List.mem_of_getElem? (i := 20) (by decide +kernel), by decide +kernel⟩
set_option maxRecDepth 20000 in
theorem tw_21 : (.selects RX5 yX5_givesOf yX5_givesOf : Cond) ∈ TB := List.mem_filter.mpr ⟨List.mem_of_getElem? (i := 21) (by decide +kernel), by decide +kernel⟩
set_option maxRecDepth 20000 in
theorem tw_22 : (.selects RX5 yX5_at yX5_at : Cond) ∈ TB := List.mem_filter.mpr ⟨List.mem_of_getElem? (i := 22) (by decide +kernel), by decide +kernel⟩
set_option maxRecDepth 20000 in
theorem tw_23 : (.selects RX5 yX5_groundOf yX5_groundOf : Cond) ∈ TB := List.mem_filter.mpr ⟨List.mem_of_getElem? (i := 23) (by decide +kernel), by decide +kernel⟩
set_option maxRecDepth 20000 in
theorem tw_24 : (.selects RX5 yX5_keepAct yX5_keepAct : Cond) ∈ TB := List.mem_filter.mpr ⟨List.mem_of_getElem? (i := 24) (by decide +kernel), by decide +kernel⟩
set_option maxRecDepth 20000 in
theorem tw_25 : (.selects RX5 yX5_hourOn yX5_hourOn : Cond) ∈ TB := List.mem_filter.mpr ⟨List.mem_of_getElem? (i := 25) (by decide +kernel), by decide +kernel⟩
set_option maxRecDepth 20000 in
theorem tw_26 : (.selects RX5 yX5_leansOn yX5_leansOn : Cond) ∈ TB := List.mem_filter.mpr ⟨List.mem_of_getElem? (i := 26) (by decide +kernel), by decide +kernel⟩
set_option maxRecDepth 20000 in
theorem tw_27 : (.selects RX5 yX5_isHeld yX5_isHeld : Cond) ∈ TB := List.mem_filter.mpr ⟨List.mem_of_getElem? (i := 27) (by decide +kernel), by decide +kernel⟩
set_option maxRecDepth 20000 in
theorem tw_28 : (.selects RX5 yX5_canBring yX5_canBring : Cond) ∈ TB := List.mem_filter.mpr ⟨List.mem_of_getElem? (i := 28) (by decide +kernel), by decide +kernel⟩
set_option maxRecDepth 20000 in
theorem tw_29 : (.selects RX5 yX5_canTake yX5_canTake : Cond) ∈ TB := List.mem_filter.mpr ⟨List.mem_of_getElem? (i := 29) (by decide +kernel), by decide +kernel⟩
set_option maxRecDepth 20000 in
theorem tw_30 : (.selects RX5 yX5_buildOn yX5_buildOn : Cond) ∈ TB := List.mem_filter.mpr ⟨List.mem_of_getElem? (i := 30) (by decide +kernel), by decide +kernel⟩
set_option maxRecDepth 20000 in
theorem tw_31 : (.selects RX5 yX5_layTrial yX5_layTrial : Cond) ∈ TB := List.mem_filter.mpr ⟨List.mem_of_getElem? (i := 31) (by decide +kernel), by decide +kernel⟩
set_option maxRecDepth 20000 in
theorem tw_32 : (.selects RX5 yX5_goOn yX5_goOn : Cond) ∈ TB := List.mem_filter.mpr ⟨List.mem_of_getElem? (i := 32) (by decide +kernel), by decide +kernel⟩
set_option maxRecDepth 20000 in
theorem tw_33 : (.selects RX5 yX5_standingOn yX5_standingOn : Cond) ∈ TB := List.mem_filter.mpr ⟨List.mem_of_getElem? (i := 33) (by decide +kernel), by decide +kernel⟩
set_option maxRecDepth 20000 in
theorem tw_34 : (.selects RX5 yX5_areMoves yX5_areMoves : Cond) ∈ TB := List.mem_filter.mpr ⟨List.mem_of_getElem? (i := 34) (by decide +kernel), by decide +kernel⟩
set_option maxRecDepth 20000 in
theorem tw_35 : (.selects RX5 yX5_canMove yX5_canMove : Cond) ∈ TB := List.mem_filter.mpr ⟨List.mem_of_getElem? (i := 35) (by decide +kernel), by decide +kernel⟩
set_option maxRecDepth 20000 in
theorem tw_36 : (.selects RX5 yX5_isSafe yX5_isSafe : Cond) ∈ TB := List.mem_filter.mpr ⟨List.mem_of_getElem? (i := 36) (by decide +kernel), by decide +kernel⟩
set_option maxRecDepth 20000 in
theorem tw_37 : (.selects RX5 yX5_tryThing yX5_tryThing : Cond) ∈ TB := List.mem_filter.mpr ⟨List.mem_of_getElem? (i := 37) (by decide +kernel), by decide +kernel⟩
set_option maxRecDepth 20000 in
theorem tw_38 : (.selects RX5 yX5_mayBe yX5_mayBe : Cond) ∈ TB := List.mem_filter.mpr ⟨List.mem_of_getElem? (i := 38) (by decide +kernel), by decide +kernel⟩
set_option maxRecDepth 20000 in
theorem tw_39 : (.selects RX5 yX5_standWith yX5_standWith : Cond) ∈ TB := List.mem_filter.mpr ⟨List.mem_of_getElem? (i := 39) (by decide +kernel), by decide +kernel⟩
set_option maxRecDepth 20000 in
theorem tw_40 : (.selects RX5 yX5_isRest yX5_isRest : Cond) ∈ TB := List.mem_filter.mpr ⟨List.mem_of_getElem? (i := 40) (by decide +kernel), by decide +kernel⟩
set_option maxRecDepth 20000 in
theorem tw_41 : (.selects RX5 yX5_gain yX5_gain : Cond) ∈ TB := List.mem_filter.mpr ⟨List.mem_of_getElem? (i := 41) (by decide +kernel), by decide +kernel⟩
set_option maxRecDepth 20000 in
theorem tw_42 : (.selects RX5 yX5_together yX5_together : Cond) ∈ TB := List.mem_filter.mpr ⟨List.mem_of_getElem? (i := 42) (by decide +kernel), by decide +kernel⟩
set_option maxRecDepth 20000 in
theorem tw_43 : (.initialized R_law : Cond) ∈ TB := List.mem_filter.mpr ⟨List.mem_of_getElem? (i := 43) (by decide +kernel), by decide +kernel⟩
set_option maxRecDepth 20000 in
theorem tw_44 : (.initialized RX4 : Cond) ∈ TB := List.mem_filter.mpr ⟨List.mem_of_getElem? (i := 44) (by decide +kernel), by decide +kernel⟩
set_option maxRecDepth 20000 in
theorem tw_45 : (.initialized RX3 : Cond) ∈ TB := List.mem_filter.mpr ⟨List.mem_of_getElem? (i := 45) (by decide +kernel), by decide +kernel⟩
set_option maxRecDepth 20000 in
theorem tw_46 : (.initialized RX0 : Cond) ∈ TB := List.mem_filter.mpr ⟨List.mem_of_getElem? (i := 46) (by decide +kernel), by decide +kernel⟩
set_option maxRecDepth 20000 in
theorem tw_47 : (.initialized RX1 : Cond) ∈ TB := List.mem_filter.mpr ⟨List.mem_of_getElem? (i := 47) (by decide +kernel), by decide +kernel⟩
set_option maxRecDepth 20000 in
theorem tw_48 : (.initialized RX2 : Cond) ∈ TB := List.mem_filter.mpr ⟨List.mem_of_getElem? (i := 48) (by decide +kernel), by decide +kernel⟩
set_option maxRecDepth 20000 in
theorem tw_49 : (.initialized RX5 : Cond) ∈ TB := List.mem_filter.mpr ⟨List.mem_of_getElem? (i := 49) (by decide +kernel), by decide +kernel⟩
set_option maxRecDepth 20000 in
theorem tw_50 : (.initialized "java/lang/Math" : Cond) ∈ TB := List.mem_filter.mpr ⟨List.mem_of_getElem? (i := 50) (by decide +kernel), by decide +kernel⟩
set_option maxRecDepth 20000 in
theorem tw_51 : (.initialized "java/lang/System" : Cond) ∈ TB := List.mem_filter.mpr ⟨List.mem_of_getElem? (i := 51) (by decide +kernel), by decide +kernel⟩
set_option maxRecDepth 20000 in
theorem tw_52 : (.initialized "java/lang/Integer" : Cond) ∈ TB := List.mem_filter.mpr ⟨List.mem_of_getElem? (i := 52) (by decide +kernel), by decide +kernel⟩
set_option maxRecDepth 20000 in
theorem tw_53 : (.classLink R_law 7 RX4 : Cond) ∈ TB := List.mem_filter.mpr ⟨List.mem_of_getElem? (i := 53) (by decide +kernel), by decide +kernel⟩
set_option maxRecDepth 20000 in
theorem tw_54 : (.instantiable RX4 8 : Cond) ∈ TB := List.mem_filter.mpr ⟨List.mem_of_getElem? (i := 54) (by decide +kernel), by decide +kernel⟩
set_option maxRecDepth 20000 in
theorem tw_55 : (.methodLink R_law 9 yX4_init : Cond) ∈ TB := List.mem_filter.mpr ⟨List.mem_of_getElem? (i := 55) (by decide +kernel), by decide +kernel⟩
set_option maxRecDepth 20000 in
theorem tw_56 : (.instanceMethod yX4_init : Cond) ∈ TB := List.mem_filter.mpr ⟨List.mem_of_getElem? (i := 56) (by decide +kernel), by decide +kernel⟩
set_option maxRecDepth 20000 in
theorem tw_57 : (.code yX4_init cX4_init 2 none : Cond) ∈ TB := List.mem_filter.mpr ⟨List.mem_of_getElem? (i := 57) (by decide +kernel), by decide +kernel⟩
set_option maxRecDepth 20000 in
theorem tw_58 : (.methodLink RX4 3 objectInit : Cond) ∈ TB := List.mem_filter.mpr ⟨List.mem_of_getElem? (i := 58) (by decide +kernel), by decide +kernel⟩
set_option maxRecDepth 20000 in
theorem tw_59 : (.instanceMethod objectInit : Cond) ∈ TB := List.mem_filter.mpr ⟨List.mem_of_getElem? (i := 59) (by decide +kernel), by decide +kernel⟩
set_option maxRecDepth 20000 in
theorem tw_60 : (.code objectInit ⟨#[0xb1]⟩ 1 none : Cond) ∈ TB := List.mem_filter.mpr ⟨List.mem_of_getElem? (i := 60) (by decide +kernel), by decide +kernel⟩
set_option maxRecDepth 20000 in
theorem tw_61 : (.classLink RX4 9 RX3 : Cond) ∈ TB := List.mem_filter.mpr ⟨List.mem_of_getElem? (i := 61) (by decide +kernel), by decide +kernel⟩
set_option maxRecDepth 20000 in
theorem tw_62 : (.instantiable RX3 2 : Cond) ∈ TB := List.mem_filter.mpr ⟨List.mem_of_getElem? (i := 62) (by decide +kernel), by decide +kernel⟩
set_option maxRecDepth 20000 in
theorem tw_64 : (.instanceMethod yX3_init : Cond) ∈ TB := List.mem_filter.mpr ⟨List.mem_of_getElem? (i := 64) (by decide +kernel), by decide +kernel⟩
set_option maxRecDepth 20000 in
theorem tw_65 : (.code yX3_init cX3_init 1 none : Cond) ∈ TB := List.mem_filter.mpr ⟨List.mem_of_getElem? (i := 65) (by decide +kernel), by decide +kernel⟩
set_option maxRecDepth 20000 in
theorem tw_66 : (.methodLink RX3 5 objectInit : Cond) ∈ TB := List.mem_filter.mpr ⟨List.mem_of_getElem? (i := 66) (by decide +kernel), by decide +kernel⟩
set_option maxRecDepth 20000 in
theorem tw_67 : (.fieldLink RX3 11 "LeanLane$Text" "letters" "[C" : Cond) ∈ TB := List.mem_filter.mpr ⟨List.mem_of_getElem? (i := 67) (by decide +kernel), by decide +kernel⟩
set_option maxRecDepth 20000 in
theorem tw_68 : (.fieldLink RX3 15 "LeanLane$Text" "length" "I" : Cond) ∈ TB := List.mem_filter.mpr ⟨List.mem_of_getElem? (i := 68) (by decide +kernel), by decide +kernel⟩
set_option maxRecDepth 20000 in
theorem tw_74 : (.arrayClass .char : Cond) ∈ TB := List.mem_filter.mpr ⟨List.mem_of_getElem? (i := 74) (by decide +kernel), by decide +kernel⟩
set_option maxRecDepth 20000 in
theorem tw_75 : (.classLink RX4 16 RX0 : Cond) ∈ TB := List.mem_filter.mpr ⟨List.mem_of_getElem? (i := 75) (by decide +kernel), by decide +kernel⟩
set_option maxRecDepth 20000 in
theorem tw_76 : (.instantiable RX0 9 : Cond) ∈ TB := List.mem_filter.mpr ⟨List.mem_of_getElem? (i := 76) (by decide +kernel), by decide +kernel⟩
set_option maxRecDepth 20000 in
theorem tw_78 : (.instanceMethod yX0_init : Cond) ∈ TB := List.mem_filter.mpr ⟨List.mem_of_getElem? (i := 78) (by decide +kernel), by decide +kernel⟩
set_option maxRecDepth 20000 in
theorem tw_79 : (.code yX0_init cX0_init 1 none : Cond) ∈ TB := List.mem_filter.mpr ⟨List.mem_of_getElem? (i := 79) (by decide +kernel), by decide +kernel⟩
set_option maxRecDepth 20000 in
theorem tw_80 : (.methodLink RX0 3 objectInit : Cond) ∈ TB := List.mem_filter.mpr ⟨List.mem_of_getElem? (i := 80) (by decide +kernel), by decide +kernel⟩
set_option maxRecDepth 20000 in
theorem tw_81 : (.fieldLink RX0 9 "LeanLane$Lane" "kinds" "[I" : Cond) ∈ TB := List.mem_filter.mpr ⟨List.mem_of_getElem? (i := 81) (by decide +kernel), by decide +kernel⟩
set_option maxRecDepth 20000 in
theorem tw_82 : (.fieldLink RX0 15 "LeanLane$Lane" "stones" "[I" : Cond) ∈ TB := List.mem_filter.mpr ⟨List.mem_of_getElem? (i := 82) (by decide +kernel), by decide +kernel⟩
set_option maxRecDepth 20000 in
theorem tw_83 : (.fieldLink RX0 18 "LeanLane$Lane" "strengths" "[I" : Cond) ∈ TB := List.mem_filter.mpr ⟨List.mem_of_getElem? (i := 83) (by decide +kernel), by decide +kernel⟩
set_option maxRecDepth 20000 in
theorem tw_84 : (.fieldLink RX0 21 "LeanLane$Lane" "deeds" "[I" : Cond) ∈ TB := List.mem_filter.mpr ⟨List.mem_of_getElem? (i := 84) (by decide +kernel), by decide +kernel⟩
set_option maxRecDepth 20000 in
theorem tw_85 : (.fieldLink RX0 24 "LeanLane$Lane" "loads" "[I" : Cond) ∈ TB := List.mem_filter.mpr ⟨List.mem_of_getElem? (i := 85) (by decide +kernel), by decide +kernel⟩
set_option maxRecDepth 20000 in
theorem tw_86 : (.fieldLink RX0 27 "LeanLane$Lane" "coming" "[I" : Cond) ∈ TB := List.mem_filter.mpr ⟨List.mem_of_getElem? (i := 86) (by decide +kernel), by decide +kernel⟩
set_option maxRecDepth 20000 in
theorem tw_87 : (.fieldLink RX0 36 "LeanLane$Lane" "houses" "I" : Cond) ∈ TB := List.mem_filter.mpr ⟨List.mem_of_getElem? (i := 87) (by decide +kernel), by decide +kernel⟩
set_option maxRecDepth 20000 in
theorem tw_88 : (.fieldLink RX0 40 "LeanLane$Lane" "up" "I" : Cond) ∈ TB := List.mem_filter.mpr ⟨List.mem_of_getElem? (i := 88) (by decide +kernel), by decide +kernel⟩
set_option maxRecDepth 20000 in
theorem tw_89 : (.fieldLink RX0 43 "LeanLane$Lane" "passed" "I" : Cond) ∈ TB := List.mem_filter.mpr ⟨List.mem_of_getElem? (i := 89) (by decide +kernel), by decide +kernel⟩
set_option maxRecDepth 20000 in
theorem tw_109 : (.arrayClass .int : Cond) ∈ TB := List.mem_filter.mpr ⟨List.mem_of_getElem? (i := 109) (by decide +kernel), by decide +kernel⟩
set_option maxRecDepth 20000 in
theorem tw_110 : (.classLink RX4 26 RX1 : Cond) ∈ TB := List.mem_filter.mpr ⟨List.mem_of_getElem? (i := 110) (by decide +kernel), by decide +kernel⟩
set_option maxRecDepth 20000 in
theorem tw_111 : (.instantiable RX1 3 : Cond) ∈ TB := List.mem_filter.mpr ⟨List.mem_of_getElem? (i := 111) (by decide +kernel), by decide +kernel⟩
set_option maxRecDepth 20000 in
theorem tw_112 : (.methodLink RX4 28 yX1_init : Cond) ∈ TB := List.mem_filter.mpr ⟨List.mem_of_getElem? (i := 112) (by decide +kernel), by decide +kernel⟩
set_option maxRecDepth 20000 in
theorem tw_113 : (.instanceMethod yX1_init : Cond) ∈ TB := List.mem_filter.mpr ⟨List.mem_of_getElem? (i := 113) (by decide +kernel), by decide +kernel⟩
set_option maxRecDepth 20000 in
theorem tw_114 : (.code yX1_init cX1_init 2 none : Cond) ∈ TB := List.mem_filter.mpr ⟨List.mem_of_getElem? (i := 114) (by decide +kernel), by decide +kernel⟩
set_option maxRecDepth 20000 in
theorem tw_115 : (.methodLink RX1 3 objectInit : Cond) ∈ TB := List.mem_filter.mpr ⟨List.mem_of_getElem? (i := 115) (by decide +kernel), by decide +kernel⟩
set_option maxRecDepth 20000 in
theorem tw_116 : (.classLink RX1 9 RX0 : Cond) ∈ TB := List.mem_filter.mpr ⟨List.mem_of_getElem? (i := 116) (by decide +kernel), by decide +kernel⟩
set_option maxRecDepth 20000 in
theorem tw_119 : (.fieldLink RX1 11 "LeanLane$Past" "lanes" "[LLeanLane$Lane;" : Cond) ∈ TB := List.mem_filter.mpr ⟨List.mem_of_getElem? (i := 119) (by decide +kernel), by decide +kernel⟩
set_option maxRecDepth 20000 in
theorem tw_120 : (.fieldLink RX1 22 "LeanLane$Past" "first" "I" : Cond) ∈ TB := List.mem_filter.mpr ⟨List.mem_of_getElem? (i := 120) (by decide +kernel), by decide +kernel⟩
set_option maxRecDepth 20000 in
theorem tw_121 : (.fieldLink RX1 18 "LeanLane$Past" "size" "I" : Cond) ∈ TB := List.mem_filter.mpr ⟨List.mem_of_getElem? (i := 121) (by decide +kernel), by decide +kernel⟩
set_option maxRecDepth 20000 in
theorem tw_129 : (.classLink RX4 33 RX2 : Cond) ∈ TB := List.mem_filter.mpr ⟨List.mem_of_getElem? (i := 129) (by decide +kernel), by decide +kernel⟩
set_option maxRecDepth 20000 in
theorem tw_130 : (.instantiable RX2 4 : Cond) ∈ TB := List.mem_filter.mpr ⟨List.mem_of_getElem? (i := 130) (by decide +kernel), by decide +kernel⟩
set_option maxRecDepth 20000 in
theorem tw_132 : (.instanceMethod yX2_init : Cond) ∈ TB := List.mem_filter.mpr ⟨List.mem_of_getElem? (i := 132) (by decide +kernel), by decide +kernel⟩
set_option maxRecDepth 20000 in
theorem tw_133 : (.code yX2_init cX2_init 1 none : Cond) ∈ TB := List.mem_filter.mpr ⟨List.mem_of_getElem? (i := 133) (by decide +kernel), by decide +kernel⟩
set_option maxRecDepth 20000 in
theorem tw_134 : (.methodLink RX2 3 objectInit : Cond) ∈ TB := List.mem_filter.mpr ⟨List.mem_of_getElem? (i := 134) (by decide +kernel), by decide +kernel⟩
set_option maxRecDepth 20000 in
theorem tw_135 : (.fieldLink RX2 9 "LeanLane$Sightings" "hours" "[I" : Cond) ∈ TB := List.mem_filter.mpr ⟨List.mem_of_getElem? (i := 135) (by decide +kernel), by decide +kernel⟩
set_option maxRecDepth 20000 in
theorem tw_136 : (.fieldLink RX2 15 "LeanLane$Sightings" "houses" "[I" : Cond) ∈ TB := List.mem_filter.mpr ⟨List.mem_of_getElem? (i := 136) (by decide +kernel), by decide +kernel⟩
set_option maxRecDepth 20000 in
theorem tw_137 : (.fieldLink RX2 18 "LeanLane$Sightings" "stood" "[I" : Cond) ∈ TB := List.mem_filter.mpr ⟨List.mem_of_getElem? (i := 137) (by decide +kernel), by decide +kernel⟩
set_option maxRecDepth 20000 in
theorem tw_138 : (.fieldLink RX2 21 "LeanLane$Sightings" "size" "I" : Cond) ∈ TB := List.mem_filter.mpr ⟨List.mem_of_getElem? (i := 138) (by decide +kernel), by decide +kernel⟩
set_option maxRecDepth 20000 in
theorem tw_148 : (.fieldLink RX4 12 "LeanLane" "text" "LLeanLane$Text;" : Cond) ∈ TB := List.mem_filter.mpr ⟨List.mem_of_getElem? (i := 148) (by decide +kernel), by decide +kernel⟩
set_option maxRecDepth 20000 in
theorem tw_149 : (.fieldLink RX4 19 "LeanLane" "now" "LLeanLane$Lane;" : Cond) ∈ TB := List.mem_filter.mpr ⟨List.mem_of_getElem? (i := 149) (by decide +kernel), by decide +kernel⟩
set_option maxRecDepth 20000 in
theorem tw_150 : (.fieldLink RX4 23 "LeanLane" "trial" "LLeanLane$Lane;" : Cond) ∈ TB := List.mem_filter.mpr ⟨List.mem_of_getElem? (i := 150) (by decide +kernel), by decide +kernel⟩
set_option maxRecDepth 20000 in
theorem tw_151 : (.fieldLink RX4 29 "LeanLane" "past" "LLeanLane$Past;" : Cond) ∈ TB := List.mem_filter.mpr ⟨List.mem_of_getElem? (i := 151) (by decide +kernel), by decide +kernel⟩
set_option maxRecDepth 20000 in
theorem tw_152 : (.fieldLink RX4 36 "LeanLane" "seen" "LLeanLane$Sightings;" : Cond) ∈ TB := List.mem_filter.mpr ⟨List.mem_of_getElem? (i := 152) (by decide +kernel), by decide +kernel⟩
set_option maxRecDepth 20000 in
theorem tw_153 : (.fieldLink RX4 40 "LeanLane" "slots" "[LLeanLane$Lane;" : Cond) ∈ TB := List.mem_filter.mpr ⟨List.mem_of_getElem? (i := 153) (by decide +kernel), by decide +kernel⟩
set_option maxRecDepth 20000 in
theorem tw_154 : (.fieldLink RX4 64 "LeanLane" "keptSlots" "I" : Cond) ∈ TB := List.mem_filter.mpr ⟨List.mem_of_getElem? (i := 154) (by decide +kernel), by decide +kernel⟩
set_option maxRecDepth 20000 in
theorem tw_155 : (.fieldLink RX4 253 "LeanLane" "theSeed" "J" : Cond) ∈ TB := List.mem_filter.mpr ⟨List.mem_of_getElem? (i := 155) (by decide +kernel), by decide +kernel⟩
set_option maxRecDepth 20000 in
theorem tw_173 : (.methodLink R_law 13 yX4_write : Cond) ∈ TB := List.mem_filter.mpr ⟨List.mem_of_getElem? (i := 173) (by decide +kernel), by decide +kernel⟩
set_option maxRecDepth 20000 in
theorem tw_174 : (.instanceMethod yX4_write : Cond) ∈ TB := List.mem_filter.mpr ⟨List.mem_of_getElem? (i := 174) (by decide +kernel), by decide +kernel⟩
set_option maxRecDepth 20000 in
theorem tw_175 : (.selects RX4 yX4_write yX4_write : Cond) ∈ TB := List.mem_filter.mpr ⟨List.mem_of_getElem? (i := 175) (by decide +kernel), by decide +kernel⟩
set_option maxRecDepth 20000 in
theorem tw_176 : (.code yX4_write cX4_write 2 (some .int) : Cond) ∈ TB := List.mem_filter.mpr ⟨List.mem_of_getElem? (i := 176) (by decide +kernel), by decide +kernel⟩
set_option maxRecDepth 20000 in
theorem tw_177 : (.methodLink RX4 44 yX3_append : Cond) ∈ TB := List.mem_filter.mpr ⟨List.mem_of_getElem? (i := 177) (by decide +kernel), by decide +kernel⟩
set_option maxRecDepth 20000 in
theorem tw_178 : (.instanceMethod yX3_append : Cond) ∈ TB := List.mem_filter.mpr ⟨List.mem_of_getElem? (i := 178) (by decide +kernel), by decide +kernel⟩
set_option maxRecDepth 20000 in
theorem tw_179 : (.selects RX3 yX3_append yX3_append : Cond) ∈ TB := List.mem_filter.mpr ⟨List.mem_of_getElem? (i := 179) (by decide +kernel), by decide +kernel⟩
set_option maxRecDepth 20000 in
theorem tw_180 : (.code yX3_append cX3_append 2 (some .boolean) : Cond) ∈ TB := List.mem_filter.mpr ⟨List.mem_of_getElem? (i := 180) (by decide +kernel), by decide +kernel⟩
set_option maxRecDepth 20000 in
theorem tw_181 : (.methodLink RX4 48 yX3_length : Cond) ∈ TB := List.mem_filter.mpr ⟨List.mem_of_getElem? (i := 181) (by decide +kernel), by decide +kernel⟩
set_option maxRecDepth 20000 in
theorem tw_182 : (.instanceMethod yX3_length : Cond) ∈ TB := List.mem_filter.mpr ⟨List.mem_of_getElem? (i := 182) (by decide +kernel), by decide +kernel⟩
set_option maxRecDepth 20000 in
theorem tw_183 : (.selects RX3 yX3_length yX3_length : Cond) ∈ TB := List.mem_filter.mpr ⟨List.mem_of_getElem? (i := 183) (by decide +kernel), by decide +kernel⟩
set_option maxRecDepth 20000 in
theorem tw_184 : (.code yX3_length cX3_length 1 (some .int) : Cond) ∈ TB := List.mem_filter.mpr ⟨List.mem_of_getElem? (i := 184) (by decide +kernel), by decide +kernel⟩
set_option maxRecDepth 20000 in
theorem tw_185 : (.methodLink R_law 18 yX4_wipe : Cond) ∈ TB := List.mem_filter.mpr ⟨List.mem_of_getElem? (i := 185) (by decide +kernel), by decide +kernel⟩
set_option maxRecDepth 20000 in
theorem tw_186 : (.instanceMethod yX4_wipe : Cond) ∈ TB := List.mem_filter.mpr ⟨List.mem_of_getElem? (i := 186) (by decide +kernel), by decide +kernel⟩
set_option maxRecDepth 20000 in
theorem tw_187 : (.selects RX4 yX4_wipe yX4_wipe : Cond) ∈ TB := List.mem_filter.mpr ⟨List.mem_of_getElem? (i := 187) (by decide +kernel), by decide +kernel⟩
set_option maxRecDepth 20000 in
theorem tw_188 : (.code yX4_wipe cX4_wipe 1 (some .int) : Cond) ∈ TB := List.mem_filter.mpr ⟨List.mem_of_getElem? (i := 188) (by decide +kernel), by decide +kernel⟩
set_option maxRecDepth 20000 in
theorem tw_189 : (.methodLink RX4 52 yX3_clear : Cond) ∈ TB := List.mem_filter.mpr ⟨List.mem_of_getElem? (i := 189) (by decide +kernel), by decide +kernel⟩
set_option maxRecDepth 20000 in
theorem tw_190 : (.instanceMethod yX3_clear : Cond) ∈ TB := List.mem_filter.mpr ⟨List.mem_of_getElem? (i := 190) (by decide +kernel), by decide +kernel⟩
set_option maxRecDepth 20000 in
theorem tw_191 : (.selects RX3 yX3_clear yX3_clear : Cond) ∈ TB := List.mem_filter.mpr ⟨List.mem_of_getElem? (i := 191) (by decide +kernel), by decide +kernel⟩
set_option maxRecDepth 20000 in
theorem tw_192 : (.code yX3_clear cX3_clear 2 (some .int) : Cond) ∈ TB := List.mem_filter.mpr ⟨List.mem_of_getElem? (i := 192) (by decide +kernel), by decide +kernel⟩
set_option maxRecDepth 20000 in
theorem tw_193 : (.methodLink R_law 23 yX4_fault : Cond) ∈ TB := List.mem_filter.mpr ⟨List.mem_of_getElem? (i := 193) (by decide +kernel), by decide +kernel⟩
set_option maxRecDepth 20000 in
theorem tw_194 : (.instanceMethod yX4_fault : Cond) ∈ TB := List.mem_filter.mpr ⟨List.mem_of_getElem? (i := 194) (by decide +kernel), by decide +kernel⟩
set_option maxRecDepth 20000 in
theorem tw_195 : (.selects RX4 yX4_fault yX4_fault : Cond) ∈ TB := List.mem_filter.mpr ⟨List.mem_of_getElem? (i := 195) (by decide +kernel), by decide +kernel⟩
set_option maxRecDepth 20000 in
theorem tw_196 : (.code yX4_fault cX4_fault 1 (some .int) : Cond) ∈ TB := List.mem_filter.mpr ⟨List.mem_of_getElem? (i := 196) (by decide +kernel), by decide +kernel⟩
set_option maxRecDepth 20000 in
theorem tw_197 : (.methodLink RX4 55 yX3_firstFault : Cond) ∈ TB := List.mem_filter.mpr ⟨List.mem_of_getElem? (i := 197) (by decide +kernel), by decide +kernel⟩
set_option maxRecDepth 20000 in
theorem tw_198 : (.instanceMethod yX3_firstFault : Cond) ∈ TB := List.mem_filter.mpr ⟨List.mem_of_getElem? (i := 198) (by decide +kernel), by decide +kernel⟩
set_option maxRecDepth 20000 in
theorem tw_199 : (.selects RX3 yX3_firstFault yX3_firstFault : Cond) ∈ TB := List.mem_filter.mpr ⟨List.mem_of_getElem? (i := 199) (by decide +kernel), by decide +kernel⟩
set_option maxRecDepth 20000 in
theorem tw_200 : (.code yX3_firstFault cX3_firstFault 2 (some .int) : Cond) ∈ TB := List.mem_filter.mpr ⟨List.mem_of_getElem? (i := 200) (by decide +kernel), by decide +kernel⟩
set_option maxRecDepth 20000 in
theorem tw_201 : (.methodLink RX3 19 yX3_fits : Cond) ∈ TB := List.mem_filter.mpr ⟨List.mem_of_getElem? (i := 201) (by decide +kernel), by decide +kernel⟩
set_option maxRecDepth 20000 in
theorem tw_202 : (.static yX3_fits : Cond) ∈ TB := List.mem_filter.mpr ⟨List.mem_of_getElem? (i := 202) (by decide +kernel), by decide +kernel⟩
set_option maxRecDepth 20000 in
theorem tw_203 : (.code yX3_fits cX3_fits 2 (some .boolean) : Cond) ∈ TB := List.mem_filter.mpr ⟨List.mem_of_getElem? (i := 203) (by decide +kernel), by decide +kernel⟩
set_option maxRecDepth 20000 in
theorem tw_204 : (.methodLink R_law 27 yX4_lane : Cond) ∈ TB := List.mem_filter.mpr ⟨List.mem_of_getElem? (i := 204) (by decide +kernel), by decide +kernel⟩
set_option maxRecDepth 20000 in
theorem tw_205 : (.instanceMethod yX4_lane : Cond) ∈ TB := List.mem_filter.mpr ⟨List.mem_of_getElem? (i := 205) (by decide +kernel), by decide +kernel⟩
set_option maxRecDepth 20000 in
theorem tw_206 : (.selects RX4 yX4_lane yX4_lane : Cond) ∈ TB := List.mem_filter.mpr ⟨List.mem_of_getElem? (i := 206) (by decide +kernel), by decide +kernel⟩
set_option maxRecDepth 20000 in
theorem tw_207 : (.code yX4_lane cX4_lane 1 (some .int) : Cond) ∈ TB := List.mem_filter.mpr ⟨List.mem_of_getElem? (i := 207) (by decide +kernel), by decide +kernel⟩
set_option maxRecDepth 20000 in
theorem tw_208 : (.methodLink RX4 58 yX0_readFrom : Cond) ∈ TB := List.mem_filter.mpr ⟨List.mem_of_getElem? (i := 208) (by decide +kernel), by decide +kernel⟩
set_option maxRecDepth 20000 in
theorem tw_209 : (.instanceMethod yX0_readFrom : Cond) ∈ TB := List.mem_filter.mpr ⟨List.mem_of_getElem? (i := 209) (by decide +kernel), by decide +kernel⟩
set_option maxRecDepth 20000 in
theorem tw_210 : (.selects RX0 yX0_readFrom yX0_readFrom : Cond) ∈ TB := List.mem_filter.mpr ⟨List.mem_of_getElem? (i := 210) (by decide +kernel), by decide +kernel⟩
set_option maxRecDepth 20000 in
theorem tw_211 : (.code yX0_readFrom cX0_readFrom 3 none : Cond) ∈ TB := List.mem_filter.mpr ⟨List.mem_of_getElem? (i := 211) (by decide +kernel), by decide +kernel⟩
set_option maxRecDepth 20000 in
theorem tw_212 : (.methodLink RX0 46 yX3_houses : Cond) ∈ TB := List.mem_filter.mpr ⟨List.mem_of_getElem? (i := 212) (by decide +kernel), by decide +kernel⟩
set_option maxRecDepth 20000 in
theorem tw_213 : (.instanceMethod yX3_houses : Cond) ∈ TB := List.mem_filter.mpr ⟨List.mem_of_getElem? (i := 213) (by decide +kernel), by decide +kernel⟩
set_option maxRecDepth 20000 in
theorem tw_214 : (.selects RX3 yX3_houses yX3_houses : Cond) ∈ TB := List.mem_filter.mpr ⟨List.mem_of_getElem? (i := 214) (by decide +kernel), by decide +kernel⟩
set_option maxRecDepth 20000 in
theorem tw_215 : (.code yX3_houses cX3_houses 1 (some .int) : Cond) ∈ TB := List.mem_filter.mpr ⟨List.mem_of_getElem? (i := 215) (by decide +kernel), by decide +kernel⟩
set_option maxRecDepth 20000 in
theorem tw_216 : (.methodLink RX3 23 Lib.Math.min.name : Cond) ∈ TB := List.mem_filter.mpr ⟨List.mem_of_getElem? (i := 216) (by decide +kernel), by decide +kernel⟩
set_option maxRecDepth 20000 in
theorem tw_217 : (.static Lib.Math.min.name : Cond) ∈ TB := List.mem_filter.mpr ⟨List.mem_of_getElem? (i := 217) (by decide +kernel), by decide +kernel⟩
set_option maxRecDepth 20000 in
theorem tw_218 : (.code Lib.Math.min.name Lib.Math.min.code 2 (some .int) : Cond) ∈ TB := List.mem_filter.mpr ⟨List.mem_of_getElem? (i := 218) (by decide +kernel), by decide +kernel⟩
set_option maxRecDepth 20000 in
theorem tw_219 : (.methodLink RX0 51 yX3_numberOf : Cond) ∈ TB := List.mem_filter.mpr ⟨List.mem_of_getElem? (i := 219) (by decide +kernel), by decide +kernel⟩
set_option maxRecDepth 20000 in
theorem tw_220 : (.instanceMethod yX3_numberOf : Cond) ∈ TB := List.mem_filter.mpr ⟨List.mem_of_getElem? (i := 220) (by decide +kernel), by decide +kernel⟩
set_option maxRecDepth 20000 in
theorem tw_221 : (.selects RX3 yX3_numberOf yX3_numberOf : Cond) ∈ TB := List.mem_filter.mpr ⟨List.mem_of_getElem? (i := 221) (by decide +kernel), by decide +kernel⟩
set_option maxRecDepth 20000 in
theorem tw_222 : (.code yX3_numberOf cX3_numberOf 3 (some .int) : Cond) ∈ TB := List.mem_filter.mpr ⟨List.mem_of_getElem? (i := 222) (by decide +kernel), by decide +kernel⟩
set_option maxRecDepth 20000 in
theorem tw_223 : (.methodLink RX3 29 yX3_letterOf : Cond) ∈ TB := List.mem_filter.mpr ⟨List.mem_of_getElem? (i := 223) (by decide +kernel), by decide +kernel⟩
set_option maxRecDepth 20000 in
theorem tw_225 : (.instanceMethod yX3_letterOf : Cond) ∈ TB := List.mem_filter.mpr ⟨List.mem_of_getElem? (i := 225) (by decide +kernel), by decide +kernel⟩
set_option maxRecDepth 20000 in
theorem tw_226 : (.code yX3_letterOf cX3_letterOf 4 (some .char) : Cond) ∈ TB := List.mem_filter.mpr ⟨List.mem_of_getElem? (i := 226) (by decide +kernel), by decide +kernel⟩
set_option maxRecDepth 20000 in
theorem tw_227 : (.methodLink RX0 55 yX3_deedOf : Cond) ∈ TB := List.mem_filter.mpr ⟨List.mem_of_getElem? (i := 227) (by decide +kernel), by decide +kernel⟩
set_option maxRecDepth 20000 in
theorem tw_228 : (.instanceMethod yX3_deedOf : Cond) ∈ TB := List.mem_filter.mpr ⟨List.mem_of_getElem? (i := 228) (by decide +kernel), by decide +kernel⟩
set_option maxRecDepth 20000 in
theorem tw_229 : (.selects RX3 yX3_deedOf yX3_deedOf : Cond) ∈ TB := List.mem_filter.mpr ⟨List.mem_of_getElem? (i := 229) (by decide +kernel), by decide +kernel⟩
set_option maxRecDepth 20000 in
theorem tw_230 : (.code yX3_deedOf cX3_deedOf 3 (some .int) : Cond) ∈ TB := List.mem_filter.mpr ⟨List.mem_of_getElem? (i := 230) (by decide +kernel), by decide +kernel⟩
set_option maxRecDepth 20000 in
theorem tw_231 : (.methodLink RX0 59 yX0_standUp : Cond) ∈ TB := List.mem_filter.mpr ⟨List.mem_of_getElem? (i := 231) (by decide +kernel), by decide +kernel⟩
set_option maxRecDepth 20000 in
theorem tw_233 : (.instanceMethod yX0_standUp : Cond) ∈ TB := List.mem_filter.mpr ⟨List.mem_of_getElem? (i := 233) (by decide +kernel), by decide +kernel⟩
set_option maxRecDepth 20000 in
theorem tw_234 : (.code yX0_standUp cX0_standUp 2 none : Cond) ∈ TB := List.mem_filter.mpr ⟨List.mem_of_getElem? (i := 234) (by decide +kernel), by decide +kernel⟩
set_option maxRecDepth 20000 in
theorem tw_235 : (.methodLink RX4 62 yX1_clear : Cond) ∈ TB := List.mem_filter.mpr ⟨List.mem_of_getElem? (i := 235) (by decide +kernel), by decide +kernel⟩
set_option maxRecDepth 20000 in
theorem tw_236 : (.instanceMethod yX1_clear : Cond) ∈ TB := List.mem_filter.mpr ⟨List.mem_of_getElem? (i := 236) (by decide +kernel), by decide +kernel⟩
set_option maxRecDepth 20000 in
theorem tw_237 : (.selects RX1 yX1_clear yX1_clear : Cond) ∈ TB := List.mem_filter.mpr ⟨List.mem_of_getElem? (i := 237) (by decide +kernel), by decide +kernel⟩
set_option maxRecDepth 20000 in
theorem tw_238 : (.code yX1_clear cX1_clear 1 none : Cond) ∈ TB := List.mem_filter.mpr ⟨List.mem_of_getElem? (i := 238) (by decide +kernel), by decide +kernel⟩
set_option maxRecDepth 20000 in
theorem tw_239 : (.methodLink RX4 68 yX0_size : Cond) ∈ TB := List.mem_filter.mpr ⟨List.mem_of_getElem? (i := 239) (by decide +kernel), by decide +kernel⟩
set_option maxRecDepth 20000 in
theorem tw_240 : (.instanceMethod yX0_size : Cond) ∈ TB := List.mem_filter.mpr ⟨List.mem_of_getElem? (i := 240) (by decide +kernel), by decide +kernel⟩
set_option maxRecDepth 20000 in
theorem tw_241 : (.selects RX0 yX0_size yX0_size : Cond) ∈ TB := List.mem_filter.mpr ⟨List.mem_of_getElem? (i := 241) (by decide +kernel), by decide +kernel⟩
set_option maxRecDepth 20000 in
theorem tw_242 : (.code yX0_size cX0_size 1 (some .int) : Cond) ∈ TB := List.mem_filter.mpr ⟨List.mem_of_getElem? (i := 242) (by decide +kernel), by decide +kernel⟩
set_option maxRecDepth 20000 in
theorem tw_243 : (.methodLink R_law 31 yX4_house : Cond) ∈ TB := List.mem_filter.mpr ⟨List.mem_of_getElem? (i := 243) (by decide +kernel), by decide +kernel⟩
set_option maxRecDepth 20000 in
theorem tw_244 : (.instanceMethod yX4_house : Cond) ∈ TB := List.mem_filter.mpr ⟨List.mem_of_getElem? (i := 244) (by decide +kernel), by decide +kernel⟩
set_option maxRecDepth 20000 in
theorem tw_245 : (.selects RX4 yX4_house yX4_house : Cond) ∈ TB := List.mem_filter.mpr ⟨List.mem_of_getElem? (i := 245) (by decide +kernel), by decide +kernel⟩
set_option maxRecDepth 20000 in
theorem tw_246 : (.code yX4_house cX4_house 3 (some .int) : Cond) ∈ TB := List.mem_filter.mpr ⟨List.mem_of_getElem? (i := 246) (by decide +kernel), by decide +kernel⟩
set_option maxRecDepth 20000 in
theorem tw_247 : (.methodLink RX4 71 yX0_has : Cond) ∈ TB := List.mem_filter.mpr ⟨List.mem_of_getElem? (i := 247) (by decide +kernel), by decide +kernel⟩
set_option maxRecDepth 20000 in
theorem tw_248 : (.instanceMethod yX0_has : Cond) ∈ TB := List.mem_filter.mpr ⟨List.mem_of_getElem? (i := 248) (by decide +kernel), by decide +kernel⟩
set_option maxRecDepth 20000 in
theorem tw_249 : (.selects RX0 yX0_has yX0_has : Cond) ∈ TB := List.mem_filter.mpr ⟨List.mem_of_getElem? (i := 249) (by decide +kernel), by decide +kernel⟩
set_option maxRecDepth 20000 in
theorem tw_250 : (.code yX0_has cX0_has 2 (some .boolean) : Cond) ∈ TB := List.mem_filter.mpr ⟨List.mem_of_getElem? (i := 250) (by decide +kernel), by decide +kernel⟩
set_option maxRecDepth 20000 in
theorem tw_251 : (.methodLink RX4 74 yX0_kindOf : Cond) ∈ TB := List.mem_filter.mpr ⟨List.mem_of_getElem? (i := 251) (by decide +kernel), by decide +kernel⟩
set_option maxRecDepth 20000 in
theorem tw_252 : (.instanceMethod yX0_kindOf : Cond) ∈ TB := List.mem_filter.mpr ⟨List.mem_of_getElem? (i := 252) (by decide +kernel), by decide +kernel⟩
set_option maxRecDepth 20000 in
theorem tw_253 : (.selects RX0 yX0_kindOf yX0_kindOf : Cond) ∈ TB := List.mem_filter.mpr ⟨List.mem_of_getElem? (i := 253) (by decide +kernel), by decide +kernel⟩
set_option maxRecDepth 20000 in
theorem tw_254 : (.code yX0_kindOf cX0_kindOf 2 (some .int) : Cond) ∈ TB := List.mem_filter.mpr ⟨List.mem_of_getElem? (i := 254) (by decide +kernel), by decide +kernel⟩
set_option maxRecDepth 20000 in
theorem tw_255 : (.methodLink RX0 63 yX0_has : Cond) ∈ TB := List.mem_filter.mpr ⟨List.mem_of_getElem? (i := 255) (by decide +kernel), by decide +kernel⟩
set_option maxRecDepth 20000 in
theorem tw_256 : (.methodLink RX4 78 yX0_stonesOf : Cond) ∈ TB := List.mem_filter.mpr ⟨List.mem_of_getElem? (i := 256) (by decide +kernel), by decide +kernel⟩
set_option maxRecDepth 20000 in
theorem tw_257 : (.instanceMethod yX0_stonesOf : Cond) ∈ TB := List.mem_filter.mpr ⟨List.mem_of_getElem? (i := 257) (by decide +kernel), by decide +kernel⟩
set_option maxRecDepth 20000 in
theorem tw_258 : (.selects RX0 yX0_stonesOf yX0_stonesOf : Cond) ∈ TB := List.mem_filter.mpr ⟨List.mem_of_getElem? (i := 258) (by decide +kernel), by decide +kernel⟩
set_option maxRecDepth 20000 in
theorem tw_259 : (.code yX0_stonesOf cX0_stonesOf 2 (some .int) : Cond) ∈ TB := List.mem_filter.mpr ⟨List.mem_of_getElem? (i := 259) (by decide +kernel), by decide +kernel⟩
set_option maxRecDepth 20000 in
theorem tw_260 : (.methodLink RX4 81 yX0_strengthOf : Cond) ∈ TB := List.mem_filter.mpr ⟨List.mem_of_getElem? (i := 260) (by decide +kernel), by decide +kernel⟩
set_option maxRecDepth 20000 in
theorem tw_261 : (.instanceMethod yX0_strengthOf : Cond) ∈ TB := List.mem_filter.mpr ⟨List.mem_of_getElem? (i := 261) (by decide +kernel), by decide +kernel⟩
set_option maxRecDepth 20000 in
theorem tw_262 : (.selects RX0 yX0_strengthOf yX0_strengthOf : Cond) ∈ TB := List.mem_filter.mpr ⟨List.mem_of_getElem? (i := 262) (by decide +kernel), by decide +kernel⟩
set_option maxRecDepth 20000 in
theorem tw_263 : (.code yX0_strengthOf cX0_strengthOf 2 (some .int) : Cond) ∈ TB := List.mem_filter.mpr ⟨List.mem_of_getElem? (i := 263) (by decide +kernel), by decide +kernel⟩
set_option maxRecDepth 20000 in
theorem tw_264 : (.methodLink RX4 84 yX0_deedOf : Cond) ∈ TB := List.mem_filter.mpr ⟨List.mem_of_getElem? (i := 264) (by decide +kernel), by decide +kernel⟩
set_option maxRecDepth 20000 in
theorem tw_265 : (.instanceMethod yX0_deedOf : Cond) ∈ TB := List.mem_filter.mpr ⟨List.mem_of_getElem? (i := 265) (by decide +kernel), by decide +kernel⟩
set_option maxRecDepth 20000 in
theorem tw_266 : (.selects RX0 yX0_deedOf yX0_deedOf : Cond) ∈ TB := List.mem_filter.mpr ⟨List.mem_of_getElem? (i := 266) (by decide +kernel), by decide +kernel⟩
set_option maxRecDepth 20000 in
theorem tw_267 : (.code yX0_deedOf cX0_deedOf 2 (some .int) : Cond) ∈ TB := List.mem_filter.mpr ⟨List.mem_of_getElem? (i := 267) (by decide +kernel), by decide +kernel⟩
set_option maxRecDepth 20000 in
theorem tw_268 : (.methodLink RX4 87 yX0_stands : Cond) ∈ TB := List.mem_filter.mpr ⟨List.mem_of_getElem? (i := 268) (by decide +kernel), by decide +kernel⟩
set_option maxRecDepth 20000 in
theorem tw_269 : (.instanceMethod yX0_stands : Cond) ∈ TB := List.mem_filter.mpr ⟨List.mem_of_getElem? (i := 269) (by decide +kernel), by decide +kernel⟩
set_option maxRecDepth 20000 in
theorem tw_270 : (.selects RX0 yX0_stands yX0_stands : Cond) ∈ TB := List.mem_filter.mpr ⟨List.mem_of_getElem? (i := 270) (by decide +kernel), by decide +kernel⟩
set_option maxRecDepth 20000 in
theorem tw_271 : (.code yX0_stands cX0_stands 2 (some .boolean) : Cond) ∈ TB := List.mem_filter.mpr ⟨List.mem_of_getElem? (i := 271) (by decide +kernel), by decide +kernel⟩
set_option maxRecDepth 20000 in
theorem tw_272 : (.methodLink RX4 90 yX0_loadOf : Cond) ∈ TB := List.mem_filter.mpr ⟨List.mem_of_getElem? (i := 272) (by decide +kernel), by decide +kernel⟩
set_option maxRecDepth 20000 in
theorem tw_273 : (.instanceMethod yX0_loadOf : Cond) ∈ TB := List.mem_filter.mpr ⟨List.mem_of_getElem? (i := 273) (by decide +kernel), by decide +kernel⟩
set_option maxRecDepth 20000 in
theorem tw_274 : (.selects RX0 yX0_loadOf yX0_loadOf : Cond) ∈ TB := List.mem_filter.mpr ⟨List.mem_of_getElem? (i := 274) (by decide +kernel), by decide +kernel⟩
set_option maxRecDepth 20000 in
theorem tw_275 : (.code yX0_loadOf cX0_loadOf 2 (some .int) : Cond) ∈ TB := List.mem_filter.mpr ⟨List.mem_of_getElem? (i := 275) (by decide +kernel), by decide +kernel⟩
set_option maxRecDepth 20000 in
theorem tw_276 : (.methodLink RX0 67 yX0_stands : Cond) ∈ TB := List.mem_filter.mpr ⟨List.mem_of_getElem? (i := 276) (by decide +kernel), by decide +kernel⟩
set_option maxRecDepth 20000 in
theorem tw_277 : (.methodLink RX4 93 yX0_givesOf : Cond) ∈ TB := List.mem_filter.mpr ⟨List.mem_of_getElem? (i := 277) (by decide +kernel), by decide +kernel⟩
set_option maxRecDepth 20000 in
theorem tw_278 : (.instanceMethod yX0_givesOf : Cond) ∈ TB := List.mem_filter.mpr ⟨List.mem_of_getElem? (i := 278) (by decide +kernel), by decide +kernel⟩
set_option maxRecDepth 20000 in
theorem tw_279 : (.selects RX0 yX0_givesOf yX0_givesOf : Cond) ∈ TB := List.mem_filter.mpr ⟨List.mem_of_getElem? (i := 279) (by decide +kernel), by decide +kernel⟩
set_option maxRecDepth 20000 in
theorem tw_280 : (.code yX0_givesOf cX0_givesOf 2 (some .int) : Cond) ∈ TB := List.mem_filter.mpr ⟨List.mem_of_getElem? (i := 280) (by decide +kernel), by decide +kernel⟩
set_option maxRecDepth 20000 in
theorem tw_281 : (.methodLink RX0 70 yX0_given : Cond) ∈ TB := List.mem_filter.mpr ⟨List.mem_of_getElem? (i := 281) (by decide +kernel), by decide +kernel⟩
set_option maxRecDepth 20000 in
theorem tw_282 : (.static yX0_given : Cond) ∈ TB := List.mem_filter.mpr ⟨List.mem_of_getElem? (i := 282) (by decide +kernel), by decide +kernel⟩
set_option maxRecDepth 20000 in
theorem tw_283 : (.code yX0_given cX0_given 2 (some .int) : Cond) ∈ TB := List.mem_filter.mpr ⟨List.mem_of_getElem? (i := 283) (by decide +kernel), by decide +kernel⟩
set_option maxRecDepth 20000 in
theorem tw_284 : (.methodLink RX4 96 yX0_groundOf : Cond) ∈ TB := List.mem_filter.mpr ⟨List.mem_of_getElem? (i := 284) (by decide +kernel), by decide +kernel⟩
set_option maxRecDepth 20000 in
theorem tw_285 : (.instanceMethod yX0_groundOf : Cond) ∈ TB := List.mem_filter.mpr ⟨List.mem_of_getElem? (i := 285) (by decide +kernel), by decide +kernel⟩
set_option maxRecDepth 20000 in
theorem tw_286 : (.selects RX0 yX0_groundOf yX0_groundOf : Cond) ∈ TB := List.mem_filter.mpr ⟨List.mem_of_getElem? (i := 286) (by decide +kernel), by decide +kernel⟩
set_option maxRecDepth 20000 in
theorem tw_287 : (.code yX0_groundOf cX0_groundOf 2 (some .int) : Cond) ∈ TB := List.mem_filter.mpr ⟨List.mem_of_getElem? (i := 287) (by decide +kernel), by decide +kernel⟩
set_option maxRecDepth 20000 in
theorem tw_288 : (.methodLink RX0 73 yX0_loadOf : Cond) ∈ TB := List.mem_filter.mpr ⟨List.mem_of_getElem? (i := 288) (by decide +kernel), by decide +kernel⟩
set_option maxRecDepth 20000 in
theorem tw_289 : (.methodLink RX0 76 yX0_givesOf : Cond) ∈ TB := List.mem_filter.mpr ⟨List.mem_of_getElem? (i := 289) (by decide +kernel), by decide +kernel⟩
set_option maxRecDepth 20000 in
theorem tw_290 : (.methodLink R_law 36 yX4_hour : Cond) ∈ TB := List.mem_filter.mpr ⟨List.mem_of_getElem? (i := 290) (by decide +kernel), by decide +kernel⟩
set_option maxRecDepth 20000 in
theorem tw_291 : (.instanceMethod yX4_hour : Cond) ∈ TB := List.mem_filter.mpr ⟨List.mem_of_getElem? (i := 291) (by decide +kernel), by decide +kernel⟩
set_option maxRecDepth 20000 in
theorem tw_292 : (.selects RX4 yX4_hour yX4_hour : Cond) ∈ TB := List.mem_filter.mpr ⟨List.mem_of_getElem? (i := 292) (by decide +kernel), by decide +kernel⟩
set_option maxRecDepth 20000 in
theorem tw_293 : (.code yX4_hour cX4_hour 1 (some .int) : Cond) ∈ TB := List.mem_filter.mpr ⟨List.mem_of_getElem? (i := 293) (by decide +kernel), by decide +kernel⟩
set_option maxRecDepth 20000 in
theorem tw_294 : (.methodLink RX4 99 yX1_remember : Cond) ∈ TB := List.mem_filter.mpr ⟨List.mem_of_getElem? (i := 294) (by decide +kernel), by decide +kernel⟩
set_option maxRecDepth 20000 in
theorem tw_295 : (.instanceMethod yX1_remember : Cond) ∈ TB := List.mem_filter.mpr ⟨List.mem_of_getElem? (i := 295) (by decide +kernel), by decide +kernel⟩
set_option maxRecDepth 20000 in
theorem tw_296 : (.selects RX1 yX1_remember yX1_remember : Cond) ∈ TB := List.mem_filter.mpr ⟨List.mem_of_getElem? (i := 296) (by decide +kernel), by decide +kernel⟩
set_option maxRecDepth 20000 in
theorem tw_297 : (.code yX1_remember cX1_remember 2 none : Cond) ∈ TB := List.mem_filter.mpr ⟨List.mem_of_getElem? (i := 297) (by decide +kernel), by decide +kernel⟩
set_option maxRecDepth 20000 in
theorem tw_298 : (.methodLink RX1 25 yX0_copyFrom : Cond) ∈ TB := List.mem_filter.mpr ⟨List.mem_of_getElem? (i := 298) (by decide +kernel), by decide +kernel⟩
set_option maxRecDepth 20000 in
theorem tw_299 : (.instanceMethod yX0_copyFrom : Cond) ∈ TB := List.mem_filter.mpr ⟨List.mem_of_getElem? (i := 299) (by decide +kernel), by decide +kernel⟩
set_option maxRecDepth 20000 in
theorem tw_300 : (.selects RX0 yX0_copyFrom yX0_copyFrom : Cond) ∈ TB := List.mem_filter.mpr ⟨List.mem_of_getElem? (i := 300) (by decide +kernel), by decide +kernel⟩
set_option maxRecDepth 20000 in
theorem tw_301 : (.code yX0_copyFrom cX0_copyFrom 2 none : Cond) ∈ TB := List.mem_filter.mpr ⟨List.mem_of_getElem? (i := 301) (by decide +kernel), by decide +kernel⟩
set_option maxRecDepth 20000 in
theorem tw_302 : (.methodLink RX0 30 arraycopyName : Cond) ∈ TB := List.mem_filter.mpr ⟨List.mem_of_getElem? (i := 302) (by decide +kernel), by decide +kernel⟩
set_option maxRecDepth 20000 in
theorem tw_303 : (.static arraycopyName : Cond) ∈ TB := List.mem_filter.mpr ⟨List.mem_of_getElem? (i := 303) (by decide +kernel), by decide +kernel⟩
set_option maxRecDepth 20000 in
theorem tw_304 : (.native arraycopyName : Cond) ∈ TB := List.mem_filter.mpr ⟨List.mem_of_getElem? (i := 304) (by decide +kernel), by decide +kernel⟩
set_option maxRecDepth 20000 in
theorem tw_305 : (.methodLink RX4 103 yX0_passHour : Cond) ∈ TB := List.mem_filter.mpr ⟨List.mem_of_getElem? (i := 305) (by decide +kernel), by decide +kernel⟩
set_option maxRecDepth 20000 in
theorem tw_306 : (.instanceMethod yX0_passHour : Cond) ∈ TB := List.mem_filter.mpr ⟨List.mem_of_getElem? (i := 306) (by decide +kernel), by decide +kernel⟩
set_option maxRecDepth 20000 in
theorem tw_307 : (.selects RX0 yX0_passHour yX0_passHour : Cond) ∈ TB := List.mem_filter.mpr ⟨List.mem_of_getElem? (i := 307) (by decide +kernel), by decide +kernel⟩
set_option maxRecDepth 20000 in
theorem tw_308 : (.code yX0_passHour cX0_passHour 2 (some .int) : Cond) ∈ TB := List.mem_filter.mpr ⟨List.mem_of_getElem? (i := 308) (by decide +kernel), by decide +kernel⟩
set_option maxRecDepth 20000 in
theorem tw_309 : (.methodLink RX0 79 yX0_passLoads : Cond) ∈ TB := List.mem_filter.mpr ⟨List.mem_of_getElem? (i := 309) (by decide +kernel), by decide +kernel⟩
set_option maxRecDepth 20000 in
theorem tw_311 : (.instanceMethod yX0_passLoads : Cond) ∈ TB := List.mem_filter.mpr ⟨List.mem_of_getElem? (i := 311) (by decide +kernel), by decide +kernel⟩
set_option maxRecDepth 20000 in
theorem tw_312 : (.code yX0_passLoads cX0_passLoads 3 none : Cond) ∈ TB := List.mem_filter.mpr ⟨List.mem_of_getElem? (i := 312) (by decide +kernel), by decide +kernel⟩
set_option maxRecDepth 20000 in
theorem tw_313 : (.methodLink RX0 93 yX0_supportOf : Cond) ∈ TB := List.mem_filter.mpr ⟨List.mem_of_getElem? (i := 313) (by decide +kernel), by decide +kernel⟩
set_option maxRecDepth 20000 in
theorem tw_315 : (.instanceMethod yX0_supportOf : Cond) ∈ TB := List.mem_filter.mpr ⟨List.mem_of_getElem? (i := 315) (by decide +kernel), by decide +kernel⟩
set_option maxRecDepth 20000 in
theorem tw_316 : (.code yX0_supportOf cX0_supportOf 2 (some .int) : Cond) ∈ TB := List.mem_filter.mpr ⟨List.mem_of_getElem? (i := 316) (by decide +kernel), by decide +kernel⟩
set_option maxRecDepth 20000 in
theorem tw_317 : (.methodLink RX0 82 yX0_fallingBits : Cond) ∈ TB := List.mem_filter.mpr ⟨List.mem_of_getElem? (i := 317) (by decide +kernel), by decide +kernel⟩
set_option maxRecDepth 20000 in
theorem tw_319 : (.instanceMethod yX0_fallingBits : Cond) ∈ TB := List.mem_filter.mpr ⟨List.mem_of_getElem? (i := 319) (by decide +kernel), by decide +kernel⟩
set_option maxRecDepth 20000 in
theorem tw_320 : (.code yX0_fallingBits cX0_fallingBits 6 (some .int) : Cond) ∈ TB := List.mem_filter.mpr ⟨List.mem_of_getElem? (i := 320) (by decide +kernel), by decide +kernel⟩
set_option maxRecDepth 20000 in
theorem tw_321 : (.methodLink RX0 85 yJ6_bitCount : Cond) ∈ TB := List.mem_filter.mpr ⟨List.mem_of_getElem? (i := 321) (by decide +kernel), by decide +kernel⟩
set_option maxRecDepth 20000 in
theorem tw_322 : (.static yJ6_bitCount : Cond) ∈ TB := List.mem_filter.mpr ⟨List.mem_of_getElem? (i := 322) (by decide +kernel), by decide +kernel⟩
set_option maxRecDepth 20000 in
theorem tw_323 : (.code yJ6_bitCount cJ6_bitCount 1 (some .int) : Cond) ∈ TB := List.mem_filter.mpr ⟨List.mem_of_getElem? (i := 323) (by decide +kernel), by decide +kernel⟩
set_option maxRecDepth 20000 in
theorem tw_324 : (.constant "java/lang/Integer" 265 1431655765 : Cond) ∈ TB := List.mem_filter.mpr ⟨List.mem_of_getElem? (i := 324) (by decide +kernel), by decide +kernel⟩
set_option maxRecDepth 20000 in
theorem tw_325 : (.constant "java/lang/Integer" 266 858993459 : Cond) ∈ TB := List.mem_filter.mpr ⟨List.mem_of_getElem? (i := 325) (by decide +kernel), by decide +kernel⟩
set_option maxRecDepth 20000 in
theorem tw_326 : (.constant "java/lang/Integer" 267 252645135 : Cond) ∈ TB := List.mem_filter.mpr ⟨List.mem_of_getElem? (i := 326) (by decide +kernel), by decide +kernel⟩
set_option maxRecDepth 20000 in
theorem tw_327 : (.methodLink R_law 40 yX4_bring : Cond) ∈ TB := List.mem_filter.mpr ⟨List.mem_of_getElem? (i := 327) (by decide +kernel), by decide +kernel⟩
set_option maxRecDepth 20000 in
theorem tw_328 : (.instanceMethod yX4_bring : Cond) ∈ TB := List.mem_filter.mpr ⟨List.mem_of_getElem? (i := 328) (by decide +kernel), by decide +kernel⟩
set_option maxRecDepth 20000 in
theorem tw_329 : (.selects RX4 yX4_bring yX4_bring : Cond) ∈ TB := List.mem_filter.mpr ⟨List.mem_of_getElem? (i := 329) (by decide +kernel), by decide +kernel⟩
set_option maxRecDepth 20000 in
theorem tw_330 : (.code yX4_bring cX4_bring 3 (some .int) : Cond) ∈ TB := List.mem_filter.mpr ⟨List.mem_of_getElem? (i := 330) (by decide +kernel), by decide +kernel⟩
set_option maxRecDepth 20000 in
theorem tw_331 : (.methodLink RX4 106 yX4_isCarried : Cond) ∈ TB := List.mem_filter.mpr ⟨List.mem_of_getElem? (i := 331) (by decide +kernel), by decide +kernel⟩
set_option maxRecDepth 20000 in
theorem tw_332 : (.static yX4_isCarried : Cond) ∈ TB := List.mem_filter.mpr ⟨List.mem_of_getElem? (i := 332) (by decide +kernel), by decide +kernel⟩
set_option maxRecDepth 20000 in
theorem tw_333 : (.code yX4_isCarried cX4_isCarried 1 (some .boolean) : Cond) ∈ TB := List.mem_filter.mpr ⟨List.mem_of_getElem? (i := 333) (by decide +kernel), by decide +kernel⟩
set_option maxRecDepth 20000 in
theorem tw_334 : (.methodLink RX4 109 yX0_canAdd : Cond) ∈ TB := List.mem_filter.mpr ⟨List.mem_of_getElem? (i := 334) (by decide +kernel), by decide +kernel⟩
set_option maxRecDepth 20000 in
theorem tw_335 : (.instanceMethod yX0_canAdd : Cond) ∈ TB := List.mem_filter.mpr ⟨List.mem_of_getElem? (i := 335) (by decide +kernel), by decide +kernel⟩
set_option maxRecDepth 20000 in
theorem tw_336 : (.selects RX0 yX0_canAdd yX0_canAdd : Cond) ∈ TB := List.mem_filter.mpr ⟨List.mem_of_getElem? (i := 336) (by decide +kernel), by decide +kernel⟩
set_option maxRecDepth 20000 in
theorem tw_337 : (.code yX0_canAdd cX0_canAdd 3 (some .boolean) : Cond) ∈ TB := List.mem_filter.mpr ⟨List.mem_of_getElem? (i := 337) (by decide +kernel), by decide +kernel⟩
set_option maxRecDepth 20000 in
theorem tw_339 : (.methodLink RX4 113 yX0_addStones : Cond) ∈ TB := List.mem_filter.mpr ⟨List.mem_of_getElem? (i := 339) (by decide +kernel), by decide +kernel⟩
set_option maxRecDepth 20000 in
theorem tw_340 : (.instanceMethod yX0_addStones : Cond) ∈ TB := List.mem_filter.mpr ⟨List.mem_of_getElem? (i := 340) (by decide +kernel), by decide +kernel⟩
set_option maxRecDepth 20000 in
theorem tw_341 : (.selects RX0 yX0_addStones yX0_addStones : Cond) ∈ TB := List.mem_filter.mpr ⟨List.mem_of_getElem? (i := 341) (by decide +kernel), by decide +kernel⟩
set_option maxRecDepth 20000 in
theorem tw_342 : (.code yX0_addStones cX0_addStones 3 (some .boolean) : Cond) ∈ TB := List.mem_filter.mpr ⟨List.mem_of_getElem? (i := 342) (by decide +kernel), by decide +kernel⟩
set_option maxRecDepth 20000 in
theorem tw_343 : (.methodLink RX0 99 yX0_canAdd : Cond) ∈ TB := List.mem_filter.mpr ⟨List.mem_of_getElem? (i := 343) (by decide +kernel), by decide +kernel⟩
set_option maxRecDepth 20000 in
theorem tw_344 : (.methodLink R_law 44 yX4_take : Cond) ∈ TB := List.mem_filter.mpr ⟨List.mem_of_getElem? (i := 344) (by decide +kernel), by decide +kernel⟩
set_option maxRecDepth 20000 in
theorem tw_345 : (.instanceMethod yX4_take : Cond) ∈ TB := List.mem_filter.mpr ⟨List.mem_of_getElem? (i := 345) (by decide +kernel), by decide +kernel⟩
set_option maxRecDepth 20000 in
theorem tw_346 : (.selects RX4 yX4_take yX4_take : Cond) ∈ TB := List.mem_filter.mpr ⟨List.mem_of_getElem? (i := 346) (by decide +kernel), by decide +kernel⟩
set_option maxRecDepth 20000 in
theorem tw_347 : (.code yX4_take cX4_take 3 (some .int) : Cond) ∈ TB := List.mem_filter.mpr ⟨List.mem_of_getElem? (i := 347) (by decide +kernel), by decide +kernel⟩
set_option maxRecDepth 20000 in
theorem tw_348 : (.methodLink RX4 116 yX0_canRemove : Cond) ∈ TB := List.mem_filter.mpr ⟨List.mem_of_getElem? (i := 348) (by decide +kernel), by decide +kernel⟩
set_option maxRecDepth 20000 in
theorem tw_349 : (.instanceMethod yX0_canRemove : Cond) ∈ TB := List.mem_filter.mpr ⟨List.mem_of_getElem? (i := 349) (by decide +kernel), by decide +kernel⟩
set_option maxRecDepth 20000 in
theorem tw_350 : (.selects RX0 yX0_canRemove yX0_canRemove : Cond) ∈ TB := List.mem_filter.mpr ⟨List.mem_of_getElem? (i := 350) (by decide +kernel), by decide +kernel⟩
set_option maxRecDepth 20000 in
theorem tw_351 : (.code yX0_canRemove cX0_canRemove 3 (some .boolean) : Cond) ∈ TB := List.mem_filter.mpr ⟨List.mem_of_getElem? (i := 351) (by decide +kernel), by decide +kernel⟩
set_option maxRecDepth 20000 in
theorem tw_352 : (.methodLink RX4 119 yX0_removeStones : Cond) ∈ TB := List.mem_filter.mpr ⟨List.mem_of_getElem? (i := 352) (by decide +kernel), by decide +kernel⟩
set_option maxRecDepth 20000 in
theorem tw_353 : (.instanceMethod yX0_removeStones : Cond) ∈ TB := List.mem_filter.mpr ⟨List.mem_of_getElem? (i := 353) (by decide +kernel), by decide +kernel⟩
set_option maxRecDepth 20000 in
theorem tw_354 : (.selects RX0 yX0_removeStones yX0_removeStones : Cond) ∈ TB := List.mem_filter.mpr ⟨List.mem_of_getElem? (i := 354) (by decide +kernel), by decide +kernel⟩
set_option maxRecDepth 20000 in
theorem tw_355 : (.code yX0_removeStones cX0_removeStones 3 (some .boolean) : Cond) ∈ TB := List.mem_filter.mpr ⟨List.mem_of_getElem? (i := 355) (by decide +kernel), by decide +kernel⟩
set_option maxRecDepth 20000 in
theorem tw_356 : (.methodLink RX0 103 yX0_canRemove : Cond) ∈ TB := List.mem_filter.mpr ⟨List.mem_of_getElem? (i := 356) (by decide +kernel), by decide +kernel⟩
set_option maxRecDepth 20000 in
theorem tw_357 : (.methodLink R_law 48 yX4_deed : Cond) ∈ TB := List.mem_filter.mpr ⟨List.mem_of_getElem? (i := 357) (by decide +kernel), by decide +kernel⟩
set_option maxRecDepth 20000 in
theorem tw_358 : (.instanceMethod yX4_deed : Cond) ∈ TB := List.mem_filter.mpr ⟨List.mem_of_getElem? (i := 358) (by decide +kernel), by decide +kernel⟩
set_option maxRecDepth 20000 in
theorem tw_359 : (.selects RX4 yX4_deed yX4_deed : Cond) ∈ TB := List.mem_filter.mpr ⟨List.mem_of_getElem? (i := 359) (by decide +kernel), by decide +kernel⟩
set_option maxRecDepth 20000 in
theorem tw_360 : (.code yX4_deed cX4_deed 4 (some .int) : Cond) ∈ TB := List.mem_filter.mpr ⟨List.mem_of_getElem? (i := 360) (by decide +kernel), by decide +kernel⟩
set_option maxRecDepth 20000 in
theorem tw_361 : (.methodLink RX4 122 yX0_isDeed : Cond) ∈ TB := List.mem_filter.mpr ⟨List.mem_of_getElem? (i := 361) (by decide +kernel), by decide +kernel⟩
set_option maxRecDepth 20000 in
theorem tw_362 : (.static yX0_isDeed : Cond) ∈ TB := List.mem_filter.mpr ⟨List.mem_of_getElem? (i := 362) (by decide +kernel), by decide +kernel⟩
set_option maxRecDepth 20000 in
theorem tw_363 : (.code yX0_isDeed cX0_isDeed 1 (some .boolean) : Cond) ∈ TB := List.mem_filter.mpr ⟨List.mem_of_getElem? (i := 363) (by decide +kernel), by decide +kernel⟩
set_option maxRecDepth 20000 in
theorem tw_364 : (.methodLink RX4 125 yX0_writeDeed : Cond) ∈ TB := List.mem_filter.mpr ⟨List.mem_of_getElem? (i := 364) (by decide +kernel), by decide +kernel⟩
set_option maxRecDepth 20000 in
theorem tw_365 : (.instanceMethod yX0_writeDeed : Cond) ∈ TB := List.mem_filter.mpr ⟨List.mem_of_getElem? (i := 365) (by decide +kernel), by decide +kernel⟩
set_option maxRecDepth 20000 in
theorem tw_366 : (.selects RX0 yX0_writeDeed yX0_writeDeed : Cond) ∈ TB := List.mem_filter.mpr ⟨List.mem_of_getElem? (i := 366) (by decide +kernel), by decide +kernel⟩
set_option maxRecDepth 20000 in
theorem tw_367 : (.code yX0_writeDeed cX0_writeDeed 3 (some .boolean) : Cond) ∈ TB := List.mem_filter.mpr ⟨List.mem_of_getElem? (i := 367) (by decide +kernel), by decide +kernel⟩
set_option maxRecDepth 20000 in
theorem tw_368 : (.methodLink RX0 106 yX0_isDeed : Cond) ∈ TB := List.mem_filter.mpr ⟨List.mem_of_getElem? (i := 368) (by decide +kernel), by decide +kernel⟩
set_option maxRecDepth 20000 in
theorem tw_369 : (.methodLink R_law 52 yX4_build : Cond) ∈ TB := List.mem_filter.mpr ⟨List.mem_of_getElem? (i := 369) (by decide +kernel), by decide +kernel⟩
set_option maxRecDepth 20000 in
theorem tw_370 : (.instanceMethod yX4_build : Cond) ∈ TB := List.mem_filter.mpr ⟨List.mem_of_getElem? (i := 370) (by decide +kernel), by decide +kernel⟩
set_option maxRecDepth 20000 in
theorem tw_371 : (.selects RX4 yX4_build yX4_build : Cond) ∈ TB := List.mem_filter.mpr ⟨List.mem_of_getElem? (i := 371) (by decide +kernel), by decide +kernel⟩
set_option maxRecDepth 20000 in
theorem tw_372 : (.code yX4_build cX4_build 2 (some .int) : Cond) ∈ TB := List.mem_filter.mpr ⟨List.mem_of_getElem? (i := 372) (by decide +kernel), by decide +kernel⟩
set_option maxRecDepth 20000 in
theorem tw_373 : (.methodLink RX4 128 yX0_raise : Cond) ∈ TB := List.mem_filter.mpr ⟨List.mem_of_getElem? (i := 373) (by decide +kernel), by decide +kernel⟩
set_option maxRecDepth 20000 in
theorem tw_374 : (.instanceMethod yX0_raise : Cond) ∈ TB := List.mem_filter.mpr ⟨List.mem_of_getElem? (i := 374) (by decide +kernel), by decide +kernel⟩
set_option maxRecDepth 20000 in
theorem tw_375 : (.selects RX0 yX0_raise yX0_raise : Cond) ∈ TB := List.mem_filter.mpr ⟨List.mem_of_getElem? (i := 375) (by decide +kernel), by decide +kernel⟩
set_option maxRecDepth 20000 in
theorem tw_376 : (.code yX0_raise cX0_raise 2 (some .boolean) : Cond) ∈ TB := List.mem_filter.mpr ⟨List.mem_of_getElem? (i := 376) (by decide +kernel), by decide +kernel⟩
set_option maxRecDepth 20000 in
theorem tw_377 : (.methodLink R_law 56 yX4_undo : Cond) ∈ TB := List.mem_filter.mpr ⟨List.mem_of_getElem? (i := 377) (by decide +kernel), by decide +kernel⟩
set_option maxRecDepth 20000 in
theorem tw_378 : (.instanceMethod yX4_undo : Cond) ∈ TB := List.mem_filter.mpr ⟨List.mem_of_getElem? (i := 378) (by decide +kernel), by decide +kernel⟩
set_option maxRecDepth 20000 in
theorem tw_379 : (.selects RX4 yX4_undo yX4_undo : Cond) ∈ TB := List.mem_filter.mpr ⟨List.mem_of_getElem? (i := 379) (by decide +kernel), by decide +kernel⟩
set_option maxRecDepth 20000 in
theorem tw_380 : (.code yX4_undo cX4_undo 1 (some .int) : Cond) ∈ TB := List.mem_filter.mpr ⟨List.mem_of_getElem? (i := 380) (by decide +kernel), by decide +kernel⟩
set_option maxRecDepth 20000 in
theorem tw_381 : (.methodLink RX4 131 yX1_size : Cond) ∈ TB := List.mem_filter.mpr ⟨List.mem_of_getElem? (i := 381) (by decide +kernel), by decide +kernel⟩
set_option maxRecDepth 20000 in
theorem tw_382 : (.instanceMethod yX1_size : Cond) ∈ TB := List.mem_filter.mpr ⟨List.mem_of_getElem? (i := 382) (by decide +kernel), by decide +kernel⟩
set_option maxRecDepth 20000 in
theorem tw_383 : (.selects RX1 yX1_size yX1_size : Cond) ∈ TB := List.mem_filter.mpr ⟨List.mem_of_getElem? (i := 383) (by decide +kernel), by decide +kernel⟩
set_option maxRecDepth 20000 in
theorem tw_384 : (.code yX1_size cX1_size 1 (some .int) : Cond) ∈ TB := List.mem_filter.mpr ⟨List.mem_of_getElem? (i := 384) (by decide +kernel), by decide +kernel⟩
set_option maxRecDepth 20000 in
theorem tw_385 : (.methodLink RX4 132 yX1_goBack : Cond) ∈ TB := List.mem_filter.mpr ⟨List.mem_of_getElem? (i := 385) (by decide +kernel), by decide +kernel⟩
set_option maxRecDepth 20000 in
theorem tw_386 : (.instanceMethod yX1_goBack : Cond) ∈ TB := List.mem_filter.mpr ⟨List.mem_of_getElem? (i := 386) (by decide +kernel), by decide +kernel⟩
set_option maxRecDepth 20000 in
theorem tw_387 : (.selects RX1 yX1_goBack yX1_goBack : Cond) ∈ TB := List.mem_filter.mpr ⟨List.mem_of_getElem? (i := 387) (by decide +kernel), by decide +kernel⟩
set_option maxRecDepth 20000 in
theorem tw_388 : (.code yX1_goBack cX1_goBack 2 none : Cond) ∈ TB := List.mem_filter.mpr ⟨List.mem_of_getElem? (i := 388) (by decide +kernel), by decide +kernel⟩
set_option maxRecDepth 20000 in
theorem tw_389 : (.methodLink R_law 60 yX4_later : Cond) ∈ TB := List.mem_filter.mpr ⟨List.mem_of_getElem? (i := 389) (by decide +kernel), by decide +kernel⟩
set_option maxRecDepth 20000 in
theorem tw_390 : (.instanceMethod yX4_later : Cond) ∈ TB := List.mem_filter.mpr ⟨List.mem_of_getElem? (i := 390) (by decide +kernel), by decide +kernel⟩
set_option maxRecDepth 20000 in
theorem tw_391 : (.selects RX4 yX4_later yX4_later : Cond) ∈ TB := List.mem_filter.mpr ⟨List.mem_of_getElem? (i := 391) (by decide +kernel), by decide +kernel⟩
set_option maxRecDepth 20000 in
theorem tw_392 : (.code yX4_later cX4_later 4 (some .int) : Cond) ∈ TB := List.mem_filter.mpr ⟨List.mem_of_getElem? (i := 392) (by decide +kernel), by decide +kernel⟩
set_option maxRecDepth 20000 in
theorem tw_393 : (.methodLink RX4 135 yX4_isHalf : Cond) ∈ TB := List.mem_filter.mpr ⟨List.mem_of_getElem? (i := 393) (by decide +kernel), by decide +kernel⟩
set_option maxRecDepth 20000 in
theorem tw_394 : (.static yX4_isHalf : Cond) ∈ TB := List.mem_filter.mpr ⟨List.mem_of_getElem? (i := 394) (by decide +kernel), by decide +kernel⟩
set_option maxRecDepth 20000 in
theorem tw_395 : (.code yX4_isHalf cX4_isHalf 1 (some .boolean) : Cond) ∈ TB := List.mem_filter.mpr ⟨List.mem_of_getElem? (i := 395) (by decide +kernel), by decide +kernel⟩
set_option maxRecDepth 20000 in
theorem tw_396 : (.methodLink RX4 138 yX0_copyFrom : Cond) ∈ TB := List.mem_filter.mpr ⟨List.mem_of_getElem? (i := 396) (by decide +kernel), by decide +kernel⟩
set_option maxRecDepth 20000 in
theorem tw_397 : (.methodLink RX4 141 yX0_passHours : Cond) ∈ TB := List.mem_filter.mpr ⟨List.mem_of_getElem? (i := 397) (by decide +kernel), by decide +kernel⟩
set_option maxRecDepth 20000 in
theorem tw_398 : (.instanceMethod yX0_passHours : Cond) ∈ TB := List.mem_filter.mpr ⟨List.mem_of_getElem? (i := 398) (by decide +kernel), by decide +kernel⟩
set_option maxRecDepth 20000 in
theorem tw_399 : (.selects RX0 yX0_passHours yX0_passHours : Cond) ∈ TB := List.mem_filter.mpr ⟨List.mem_of_getElem? (i := 399) (by decide +kernel), by decide +kernel⟩
set_option maxRecDepth 20000 in
theorem tw_400 : (.code yX0_passHours cX0_passHours 3 none : Cond) ∈ TB := List.mem_filter.mpr ⟨List.mem_of_getElem? (i := 400) (by decide +kernel), by decide +kernel⟩
set_option maxRecDepth 20000 in
theorem tw_401 : (.methodLink RX0 90 yX0_passHour : Cond) ∈ TB := List.mem_filter.mpr ⟨List.mem_of_getElem? (i := 401) (by decide +kernel), by decide +kernel⟩
set_option maxRecDepth 20000 in
theorem tw_402 : (.methodLink R_law 65 yX4_standing : Cond) ∈ TB := List.mem_filter.mpr ⟨List.mem_of_getElem? (i := 402) (by decide +kernel), by decide +kernel⟩
set_option maxRecDepth 20000 in
theorem tw_403 : (.instanceMethod yX4_standing : Cond) ∈ TB := List.mem_filter.mpr ⟨List.mem_of_getElem? (i := 403) (by decide +kernel), by decide +kernel⟩
set_option maxRecDepth 20000 in
theorem tw_404 : (.selects RX4 yX4_standing yX4_standing : Cond) ∈ TB := List.mem_filter.mpr ⟨List.mem_of_getElem? (i := 404) (by decide +kernel), by decide +kernel⟩
set_option maxRecDepth 20000 in
theorem tw_405 : (.code yX4_standing cX4_standing 2 (some .int) : Cond) ∈ TB := List.mem_filter.mpr ⟨List.mem_of_getElem? (i := 405) (by decide +kernel), by decide +kernel⟩
set_option maxRecDepth 20000 in
theorem tw_406 : (.methodLink RX4 145 yX0_standingBits : Cond) ∈ TB := List.mem_filter.mpr ⟨List.mem_of_getElem? (i := 406) (by decide +kernel), by decide +kernel⟩
set_option maxRecDepth 20000 in
theorem tw_407 : (.instanceMethod yX0_standingBits : Cond) ∈ TB := List.mem_filter.mpr ⟨List.mem_of_getElem? (i := 407) (by decide +kernel), by decide +kernel⟩
set_option maxRecDepth 20000 in
theorem tw_408 : (.selects RX0 yX0_standingBits yX0_standingBits : Cond) ∈ TB := List.mem_filter.mpr ⟨List.mem_of_getElem? (i := 408) (by decide +kernel), by decide +kernel⟩
set_option maxRecDepth 20000 in
theorem tw_409 : (.code yX0_standingBits cX0_standingBits 1 (some .int) : Cond) ∈ TB := List.mem_filter.mpr ⟨List.mem_of_getElem? (i := 409) (by decide +kernel), by decide +kernel⟩
set_option maxRecDepth 20000 in
theorem tw_410 : (.methodLink R_law 69 yX4_falls : Cond) ∈ TB := List.mem_filter.mpr ⟨List.mem_of_getElem? (i := 410) (by decide +kernel), by decide +kernel⟩
set_option maxRecDepth 20000 in
theorem tw_411 : (.instanceMethod yX4_falls : Cond) ∈ TB := List.mem_filter.mpr ⟨List.mem_of_getElem? (i := 411) (by decide +kernel), by decide +kernel⟩
set_option maxRecDepth 20000 in
theorem tw_412 : (.selects RX4 yX4_falls yX4_falls : Cond) ∈ TB := List.mem_filter.mpr ⟨List.mem_of_getElem? (i := 412) (by decide +kernel), by decide +kernel⟩
set_option maxRecDepth 20000 in
theorem tw_413 : (.code yX4_falls cX4_falls 3 (some .int) : Cond) ∈ TB := List.mem_filter.mpr ⟨List.mem_of_getElem? (i := 413) (by decide +kernel), by decide +kernel⟩
set_option maxRecDepth 20000 in
theorem tw_414 : (.methodLink R_law 73 yX4_rings : Cond) ∈ TB := List.mem_filter.mpr ⟨List.mem_of_getElem? (i := 414) (by decide +kernel), by decide +kernel⟩
set_option maxRecDepth 20000 in
theorem tw_415 : (.instanceMethod yX4_rings : Cond) ∈ TB := List.mem_filter.mpr ⟨List.mem_of_getElem? (i := 415) (by decide +kernel), by decide +kernel⟩
set_option maxRecDepth 20000 in
theorem tw_416 : (.selects RX4 yX4_rings yX4_rings : Cond) ∈ TB := List.mem_filter.mpr ⟨List.mem_of_getElem? (i := 416) (by decide +kernel), by decide +kernel⟩
set_option maxRecDepth 20000 in
theorem tw_417 : (.code yX4_rings cX4_rings 1 (some .int) : Cond) ∈ TB := List.mem_filter.mpr ⟨List.mem_of_getElem? (i := 417) (by decide +kernel), by decide +kernel⟩
set_option maxRecDepth 20000 in
theorem tw_418 : (.methodLink RX4 148 yX0_ringBits : Cond) ∈ TB := List.mem_filter.mpr ⟨List.mem_of_getElem? (i := 418) (by decide +kernel), by decide +kernel⟩
set_option maxRecDepth 20000 in
theorem tw_419 : (.instanceMethod yX0_ringBits : Cond) ∈ TB := List.mem_filter.mpr ⟨List.mem_of_getElem? (i := 419) (by decide +kernel), by decide +kernel⟩
set_option maxRecDepth 20000 in
theorem tw_420 : (.selects RX0 yX0_ringBits yX0_ringBits : Cond) ∈ TB := List.mem_filter.mpr ⟨List.mem_of_getElem? (i := 420) (by decide +kernel), by decide +kernel⟩
set_option maxRecDepth 20000 in
theorem tw_421 : (.code yX0_ringBits cX0_ringBits 3 (some .int) : Cond) ∈ TB := List.mem_filter.mpr ⟨List.mem_of_getElem? (i := 421) (by decide +kernel), by decide +kernel⟩
set_option maxRecDepth 20000 in
theorem tw_422 : (.methodLink R_law 79 yX4_orders : Cond) ∈ TB := List.mem_filter.mpr ⟨List.mem_of_getElem? (i := 422) (by decide +kernel), by decide +kernel⟩
set_option maxRecDepth 20000 in
theorem tw_423 : (.instanceMethod yX4_orders : Cond) ∈ TB := List.mem_filter.mpr ⟨List.mem_of_getElem? (i := 423) (by decide +kernel), by decide +kernel⟩
set_option maxRecDepth 20000 in
theorem tw_424 : (.selects RX4 yX4_orders yX4_orders : Cond) ∈ TB := List.mem_filter.mpr ⟨List.mem_of_getElem? (i := 424) (by decide +kernel), by decide +kernel⟩
set_option maxRecDepth 20000 in
theorem tw_425 : (.code yX4_orders cX4_orders 8 (some .int) : Cond) ∈ TB := List.mem_filter.mpr ⟨List.mem_of_getElem? (i := 425) (by decide +kernel), by decide +kernel⟩
set_option maxRecDepth 20000 in
theorem tw_426 : (.methodLink RX4 151 yX4_areMoves : Cond) ∈ TB := List.mem_filter.mpr ⟨List.mem_of_getElem? (i := 426) (by decide +kernel), by decide +kernel⟩
set_option maxRecDepth 20000 in
theorem tw_428 : (.instanceMethod yX4_areMoves : Cond) ∈ TB := List.mem_filter.mpr ⟨List.mem_of_getElem? (i := 428) (by decide +kernel), by decide +kernel⟩
set_option maxRecDepth 20000 in
theorem tw_429 : (.code yX4_areMoves cX4_areMoves 7 (some .boolean) : Cond) ∈ TB := List.mem_filter.mpr ⟨List.mem_of_getElem? (i := 429) (by decide +kernel), by decide +kernel⟩
set_option maxRecDepth 20000 in
theorem tw_430 : (.methodLink RX4 166 yX4_hasFigures : Cond) ∈ TB := List.mem_filter.mpr ⟨List.mem_of_getElem? (i := 430) (by decide +kernel), by decide +kernel⟩
set_option maxRecDepth 20000 in
theorem tw_431 : (.static yX4_hasFigures : Cond) ∈ TB := List.mem_filter.mpr ⟨List.mem_of_getElem? (i := 431) (by decide +kernel), by decide +kernel⟩
set_option maxRecDepth 20000 in
theorem tw_432 : (.code yX4_hasFigures cX4_hasFigures 6 (some .boolean) : Cond) ∈ TB := List.mem_filter.mpr ⟨List.mem_of_getElem? (i := 432) (by decide +kernel), by decide +kernel⟩
set_option maxRecDepth 20000 in
theorem tw_433 : (.constantLong RX4 278 10 : Cond) ∈ TB := List.mem_filter.mpr ⟨List.mem_of_getElem? (i := 433) (by decide +kernel), by decide +kernel⟩
set_option maxRecDepth 20000 in
theorem tw_434 : (.methodLink RX4 170 yX4_figure : Cond) ∈ TB := List.mem_filter.mpr ⟨List.mem_of_getElem? (i := 434) (by decide +kernel), by decide +kernel⟩
set_option maxRecDepth 20000 in
theorem tw_435 : (.static yX4_figure : Cond) ∈ TB := List.mem_filter.mpr ⟨List.mem_of_getElem? (i := 435) (by decide +kernel), by decide +kernel⟩
set_option maxRecDepth 20000 in
theorem tw_436 : (.code yX4_figure cX4_figure 7 (some .int) : Cond) ∈ TB := List.mem_filter.mpr ⟨List.mem_of_getElem? (i := 436) (by decide +kernel), by decide +kernel⟩
set_option maxRecDepth 20000 in
theorem tw_437 : (.methodLink RX4 155 yX4_isOrder : Cond) ∈ TB := List.mem_filter.mpr ⟨List.mem_of_getElem? (i := 437) (by decide +kernel), by decide +kernel⟩
set_option maxRecDepth 20000 in
theorem tw_438 : (.static yX4_isOrder : Cond) ∈ TB := List.mem_filter.mpr ⟨List.mem_of_getElem? (i := 438) (by decide +kernel), by decide +kernel⟩
set_option maxRecDepth 20000 in
theorem tw_439 : (.code yX4_isOrder cX4_isOrder 4 (some .boolean) : Cond) ∈ TB := List.mem_filter.mpr ⟨List.mem_of_getElem? (i := 439) (by decide +kernel), by decide +kernel⟩
set_option maxRecDepth 20000 in
theorem tw_440 : (.methodLink RX4 174 yX4_moveAt : Cond) ∈ TB := List.mem_filter.mpr ⟨List.mem_of_getElem? (i := 440) (by decide +kernel), by decide +kernel⟩
set_option maxRecDepth 20000 in
theorem tw_441 : (.static yX4_moveAt : Cond) ∈ TB := List.mem_filter.mpr ⟨List.mem_of_getElem? (i := 441) (by decide +kernel), by decide +kernel⟩
set_option maxRecDepth 20000 in
theorem tw_442 : (.code yX4_moveAt cX4_moveAt 3 (some .int) : Cond) ∈ TB := List.mem_filter.mpr ⟨List.mem_of_getElem? (i := 442) (by decide +kernel), by decide +kernel⟩
set_option maxRecDepth 20000 in
theorem tw_443 : (.methodLink RX4 158 yX4_isSafeOrder : Cond) ∈ TB := List.mem_filter.mpr ⟨List.mem_of_getElem? (i := 443) (by decide +kernel), by decide +kernel⟩
set_option maxRecDepth 20000 in
theorem tw_445 : (.instanceMethod yX4_isSafeOrder : Cond) ∈ TB := List.mem_filter.mpr ⟨List.mem_of_getElem? (i := 445) (by decide +kernel), by decide +kernel⟩
set_option maxRecDepth 20000 in
theorem tw_446 : (.code yX4_isSafeOrder cX4_isSafeOrder 6 (some .boolean) : Cond) ∈ TB := List.mem_filter.mpr ⟨List.mem_of_getElem? (i := 446) (by decide +kernel), by decide +kernel⟩
set_option maxRecDepth 20000 in
theorem tw_447 : (.methodLink RX4 178 yX4_canMove : Cond) ∈ TB := List.mem_filter.mpr ⟨List.mem_of_getElem? (i := 447) (by decide +kernel), by decide +kernel⟩
set_option maxRecDepth 20000 in
theorem tw_449 : (.instanceMethod yX4_canMove : Cond) ∈ TB := List.mem_filter.mpr ⟨List.mem_of_getElem? (i := 449) (by decide +kernel), by decide +kernel⟩
set_option maxRecDepth 20000 in
theorem tw_450 : (.code yX4_canMove cX4_canMove 9 (some .boolean) : Cond) ∈ TB := List.mem_filter.mpr ⟨List.mem_of_getElem? (i := 450) (by decide +kernel), by decide +kernel⟩
set_option maxRecDepth 20000 in
theorem tw_451 : (.methodLink RX4 162 yX4_orderNumber : Cond) ∈ TB := List.mem_filter.mpr ⟨List.mem_of_getElem? (i := 451) (by decide +kernel), by decide +kernel⟩
set_option maxRecDepth 20000 in
theorem tw_452 : (.static yX4_orderNumber : Cond) ∈ TB := List.mem_filter.mpr ⟨List.mem_of_getElem? (i := 452) (by decide +kernel), by decide +kernel⟩
set_option maxRecDepth 20000 in
theorem tw_453 : (.code yX4_orderNumber cX4_orderNumber 4 (some .int) : Cond) ∈ TB := List.mem_filter.mpr ⟨List.mem_of_getElem? (i := 453) (by decide +kernel), by decide +kernel⟩
set_option maxRecDepth 20000 in
theorem tw_454 : (.methodLink R_law 84 yX4_piano : Cond) ∈ TB := List.mem_filter.mpr ⟨List.mem_of_getElem? (i := 454) (by decide +kernel), by decide +kernel⟩
set_option maxRecDepth 20000 in
theorem tw_455 : (.instanceMethod yX4_piano : Cond) ∈ TB := List.mem_filter.mpr ⟨List.mem_of_getElem? (i := 455) (by decide +kernel), by decide +kernel⟩
set_option maxRecDepth 20000 in
theorem tw_456 : (.selects RX4 yX4_piano yX4_piano : Cond) ∈ TB := List.mem_filter.mpr ⟨List.mem_of_getElem? (i := 456) (by decide +kernel), by decide +kernel⟩
set_option maxRecDepth 20000 in
theorem tw_457 : (.code yX4_piano cX4_piano 4 (some .int) : Cond) ∈ TB := List.mem_filter.mpr ⟨List.mem_of_getElem? (i := 457) (by decide +kernel), by decide +kernel⟩
set_option maxRecDepth 20000 in
theorem tw_458 : (.methodLink RX4 181 yX0_staysCalm : Cond) ∈ TB := List.mem_filter.mpr ⟨List.mem_of_getElem? (i := 458) (by decide +kernel), by decide +kernel⟩
set_option maxRecDepth 20000 in
theorem tw_459 : (.instanceMethod yX0_staysCalm : Cond) ∈ TB := List.mem_filter.mpr ⟨List.mem_of_getElem? (i := 459) (by decide +kernel), by decide +kernel⟩
set_option maxRecDepth 20000 in
theorem tw_460 : (.selects RX0 yX0_staysCalm yX0_staysCalm : Cond) ∈ TB := List.mem_filter.mpr ⟨List.mem_of_getElem? (i := 460) (by decide +kernel), by decide +kernel⟩
set_option maxRecDepth 20000 in
theorem tw_461 : (.code yX0_staysCalm cX0_staysCalm 3 (some .boolean) : Cond) ∈ TB := List.mem_filter.mpr ⟨List.mem_of_getElem? (i := 461) (by decide +kernel), by decide +kernel⟩
set_option maxRecDepth 20000 in
theorem tw_462 : (.methodLink R_law 88 yX4_sacks : Cond) ∈ TB := List.mem_filter.mpr ⟨List.mem_of_getElem? (i := 462) (by decide +kernel), by decide +kernel⟩
set_option maxRecDepth 20000 in
theorem tw_463 : (.instanceMethod yX4_sacks : Cond) ∈ TB := List.mem_filter.mpr ⟨List.mem_of_getElem? (i := 463) (by decide +kernel), by decide +kernel⟩
set_option maxRecDepth 20000 in
theorem tw_464 : (.selects RX4 yX4_sacks yX4_sacks : Cond) ∈ TB := List.mem_filter.mpr ⟨List.mem_of_getElem? (i := 464) (by decide +kernel), by decide +kernel⟩
set_option maxRecDepth 20000 in
theorem tw_465 : (.code yX4_sacks cX4_sacks 7 (some .int) : Cond) ∈ TB := List.mem_filter.mpr ⟨List.mem_of_getElem? (i := 465) (by decide +kernel), by decide +kernel⟩
set_option maxRecDepth 20000 in
theorem tw_466 : (.methodLink RX4 184 yX4_fewestFromOne : Cond) ∈ TB := List.mem_filter.mpr ⟨List.mem_of_getElem? (i := 466) (by decide +kernel), by decide +kernel⟩
set_option maxRecDepth 20000 in
theorem tw_468 : (.instanceMethod yX4_fewestFromOne : Cond) ∈ TB := List.mem_filter.mpr ⟨List.mem_of_getElem? (i := 468) (by decide +kernel), by decide +kernel⟩
set_option maxRecDepth 20000 in
theorem tw_469 : (.code yX4_fewestFromOne cX4_fewestFromOne 4 (some .int) : Cond) ∈ TB := List.mem_filter.mpr ⟨List.mem_of_getElem? (i := 469) (by decide +kernel), by decide +kernel⟩
set_option maxRecDepth 20000 in
theorem tw_470 : (.methodLink RX4 190 yX4_mostTaken : Cond) ∈ TB := List.mem_filter.mpr ⟨List.mem_of_getElem? (i := 470) (by decide +kernel), by decide +kernel⟩
set_option maxRecDepth 20000 in
theorem tw_472 : (.instanceMethod yX4_mostTaken : Cond) ∈ TB := List.mem_filter.mpr ⟨List.mem_of_getElem? (i := 472) (by decide +kernel), by decide +kernel⟩
set_option maxRecDepth 20000 in
theorem tw_473 : (.code yX4_mostTaken cX4_mostTaken 2 (some .int) : Cond) ∈ TB := List.mem_filter.mpr ⟨List.mem_of_getElem? (i := 473) (by decide +kernel), by decide +kernel⟩
set_option maxRecDepth 20000 in
theorem tw_474 : (.methodLink RX4 197 Lib.Math.min.name : Cond) ∈ TB := List.mem_filter.mpr ⟨List.mem_of_getElem? (i := 474) (by decide +kernel), by decide +kernel⟩
set_option maxRecDepth 20000 in
theorem tw_475 : (.methodLink RX4 193 yX4_isCalmWithout : Cond) ∈ TB := List.mem_filter.mpr ⟨List.mem_of_getElem? (i := 475) (by decide +kernel), by decide +kernel⟩
set_option maxRecDepth 20000 in
theorem tw_477 : (.instanceMethod yX4_isCalmWithout : Cond) ∈ TB := List.mem_filter.mpr ⟨List.mem_of_getElem? (i := 477) (by decide +kernel), by decide +kernel⟩
set_option maxRecDepth 20000 in
theorem tw_478 : (.code yX4_isCalmWithout cX4_isCalmWithout 5 (some .boolean) : Cond) ∈ TB := List.mem_filter.mpr ⟨List.mem_of_getElem? (i := 478) (by decide +kernel), by decide +kernel⟩
set_option maxRecDepth 20000 in
theorem tw_479 : (.methodLink RX4 187 yX4_fewestFromTwo : Cond) ∈ TB := List.mem_filter.mpr ⟨List.mem_of_getElem? (i := 479) (by decide +kernel), by decide +kernel⟩
set_option maxRecDepth 20000 in
theorem tw_481 : (.instanceMethod yX4_fewestFromTwo : Cond) ∈ TB := List.mem_filter.mpr ⟨List.mem_of_getElem? (i := 481) (by decide +kernel), by decide +kernel⟩
set_option maxRecDepth 20000 in
theorem tw_482 : (.code yX4_fewestFromTwo cX4_fewestFromTwo 9 (some .int) : Cond) ∈ TB := List.mem_filter.mpr ⟨List.mem_of_getElem? (i := 482) (by decide +kernel), by decide +kernel⟩
set_option maxRecDepth 20000 in
theorem tw_483 : (.methodLink R_law 92 yX4_judge : Cond) ∈ TB := List.mem_filter.mpr ⟨List.mem_of_getElem? (i := 483) (by decide +kernel), by decide +kernel⟩
set_option maxRecDepth 20000 in
theorem tw_484 : (.instanceMethod yX4_judge : Cond) ∈ TB := List.mem_filter.mpr ⟨List.mem_of_getElem? (i := 484) (by decide +kernel), by decide +kernel⟩
set_option maxRecDepth 20000 in
theorem tw_485 : (.selects RX4 yX4_judge yX4_judge : Cond) ∈ TB := List.mem_filter.mpr ⟨List.mem_of_getElem? (i := 485) (by decide +kernel), by decide +kernel⟩
set_option maxRecDepth 20000 in
theorem tw_486 : (.code yX4_judge cX4_judge 5 (some .int) : Cond) ∈ TB := List.mem_filter.mpr ⟨List.mem_of_getElem? (i := 486) (by decide +kernel), by decide +kernel⟩
set_option maxRecDepth 20000 in
theorem tw_487 : (.methodLink RX4 202 yX4_canBe : Cond) ∈ TB := List.mem_filter.mpr ⟨List.mem_of_getElem? (i := 487) (by decide +kernel), by decide +kernel⟩
set_option maxRecDepth 20000 in
theorem tw_489 : (.instanceMethod yX4_canBe : Cond) ∈ TB := List.mem_filter.mpr ⟨List.mem_of_getElem? (i := 489) (by decide +kernel), by decide +kernel⟩
set_option maxRecDepth 20000 in
theorem tw_490 : (.code yX4_canBe cX4_canBe 8 (some .boolean) : Cond) ∈ TB := List.mem_filter.mpr ⟨List.mem_of_getElem? (i := 490) (by decide +kernel), by decide +kernel⟩
set_option maxRecDepth 20000 in
theorem tw_491 : (.methodLink R_law 97 yX4_see : Cond) ∈ TB := List.mem_filter.mpr ⟨List.mem_of_getElem? (i := 491) (by decide +kernel), by decide +kernel⟩
set_option maxRecDepth 20000 in
theorem tw_492 : (.instanceMethod yX4_see : Cond) ∈ TB := List.mem_filter.mpr ⟨List.mem_of_getElem? (i := 492) (by decide +kernel), by decide +kernel⟩
set_option maxRecDepth 20000 in
theorem tw_493 : (.selects RX4 yX4_see yX4_see : Cond) ∈ TB := List.mem_filter.mpr ⟨List.mem_of_getElem? (i := 493) (by decide +kernel), by decide +kernel⟩
set_option maxRecDepth 20000 in
theorem tw_494 : (.code yX4_see cX4_see 4 (some .int) : Cond) ∈ TB := List.mem_filter.mpr ⟨List.mem_of_getElem? (i := 494) (by decide +kernel), by decide +kernel⟩
set_option maxRecDepth 20000 in
theorem tw_495 : (.methodLink RX4 206 yX2_add : Cond) ∈ TB := List.mem_filter.mpr ⟨List.mem_of_getElem? (i := 495) (by decide +kernel), by decide +kernel⟩
set_option maxRecDepth 20000 in
theorem tw_496 : (.instanceMethod yX2_add : Cond) ∈ TB := List.mem_filter.mpr ⟨List.mem_of_getElem? (i := 496) (by decide +kernel), by decide +kernel⟩
set_option maxRecDepth 20000 in
theorem tw_497 : (.selects RX2 yX2_add yX2_add : Cond) ∈ TB := List.mem_filter.mpr ⟨List.mem_of_getElem? (i := 497) (by decide +kernel), by decide +kernel⟩
set_option maxRecDepth 20000 in
theorem tw_498 : (.code yX2_add cX2_add 4 (some .boolean) : Cond) ∈ TB := List.mem_filter.mpr ⟨List.mem_of_getElem? (i := 498) (by decide +kernel), by decide +kernel⟩
set_option maxRecDepth 20000 in
theorem tw_499 : (.methodLink RX4 210 yX2_size : Cond) ∈ TB := List.mem_filter.mpr ⟨List.mem_of_getElem? (i := 499) (by decide +kernel), by decide +kernel⟩
set_option maxRecDepth 20000 in
theorem tw_500 : (.instanceMethod yX2_size : Cond) ∈ TB := List.mem_filter.mpr ⟨List.mem_of_getElem? (i := 500) (by decide +kernel), by decide +kernel⟩
set_option maxRecDepth 20000 in
theorem tw_501 : (.selects RX2 yX2_size yX2_size : Cond) ∈ TB := List.mem_filter.mpr ⟨List.mem_of_getElem? (i := 501) (by decide +kernel), by decide +kernel⟩
set_option maxRecDepth 20000 in
theorem tw_502 : (.code yX2_size cX2_size 1 (some .int) : Cond) ∈ TB := List.mem_filter.mpr ⟨List.mem_of_getElem? (i := 502) (by decide +kernel), by decide +kernel⟩
set_option maxRecDepth 20000 in
theorem tw_503 : (.methodLink R_law 101 yX4_unsee : Cond) ∈ TB := List.mem_filter.mpr ⟨List.mem_of_getElem? (i := 503) (by decide +kernel), by decide +kernel⟩
set_option maxRecDepth 20000 in
theorem tw_504 : (.instanceMethod yX4_unsee : Cond) ∈ TB := List.mem_filter.mpr ⟨List.mem_of_getElem? (i := 504) (by decide +kernel), by decide +kernel⟩
set_option maxRecDepth 20000 in
theorem tw_505 : (.selects RX4 yX4_unsee yX4_unsee : Cond) ∈ TB := List.mem_filter.mpr ⟨List.mem_of_getElem? (i := 505) (by decide +kernel), by decide +kernel⟩
set_option maxRecDepth 20000 in
theorem tw_506 : (.code yX4_unsee cX4_unsee 1 (some .int) : Cond) ∈ TB := List.mem_filter.mpr ⟨List.mem_of_getElem? (i := 506) (by decide +kernel), by decide +kernel⟩
set_option maxRecDepth 20000 in
theorem tw_507 : (.methodLink RX4 211 yX2_clear : Cond) ∈ TB := List.mem_filter.mpr ⟨List.mem_of_getElem? (i := 507) (by decide +kernel), by decide +kernel⟩
set_option maxRecDepth 20000 in
theorem tw_508 : (.instanceMethod yX2_clear : Cond) ∈ TB := List.mem_filter.mpr ⟨List.mem_of_getElem? (i := 508) (by decide +kernel), by decide +kernel⟩
set_option maxRecDepth 20000 in
theorem tw_509 : (.selects RX2 yX2_clear yX2_clear : Cond) ∈ TB := List.mem_filter.mpr ⟨List.mem_of_getElem? (i := 509) (by decide +kernel), by decide +kernel⟩
set_option maxRecDepth 20000 in
theorem tw_510 : (.code yX2_clear cX2_clear 2 (some .int) : Cond) ∈ TB := List.mem_filter.mpr ⟨List.mem_of_getElem? (i := 510) (by decide +kernel), by decide +kernel⟩
set_option maxRecDepth 20000 in
theorem tw_511 : (.methodLink R_law 105 yX4_night : Cond) ∈ TB := List.mem_filter.mpr ⟨List.mem_of_getElem? (i := 511) (by decide +kernel), by decide +kernel⟩
set_option maxRecDepth 20000 in
theorem tw_512 : (.instanceMethod yX4_night : Cond) ∈ TB := List.mem_filter.mpr ⟨List.mem_of_getElem? (i := 512) (by decide +kernel), by decide +kernel⟩
set_option maxRecDepth 20000 in
theorem tw_513 : (.selects RX4 yX4_night yX4_night : Cond) ∈ TB := List.mem_filter.mpr ⟨List.mem_of_getElem? (i := 513) (by decide +kernel), by decide +kernel⟩
set_option maxRecDepth 20000 in
theorem tw_514 : (.code yX4_night cX4_night 6 (some .int) : Cond) ∈ TB := List.mem_filter.mpr ⟨List.mem_of_getElem? (i := 514) (by decide +kernel), by decide +kernel⟩
set_option maxRecDepth 20000 in
theorem tw_515 : (.methodLink RX4 212 yX4_explainsSeen : Cond) ∈ TB := List.mem_filter.mpr ⟨List.mem_of_getElem? (i := 515) (by decide +kernel), by decide +kernel⟩
set_option maxRecDepth 20000 in
theorem tw_517 : (.instanceMethod yX4_explainsSeen : Cond) ∈ TB := List.mem_filter.mpr ⟨List.mem_of_getElem? (i := 517) (by decide +kernel), by decide +kernel⟩
set_option maxRecDepth 20000 in
theorem tw_518 : (.code yX4_explainsSeen cX4_explainsSeen 4 (some .boolean) : Cond) ∈ TB := List.mem_filter.mpr ⟨List.mem_of_getElem? (i := 518) (by decide +kernel), by decide +kernel⟩
set_option maxRecDepth 20000 in
theorem tw_519 : (.methodLink RX4 215 yX2_agrees : Cond) ∈ TB := List.mem_filter.mpr ⟨List.mem_of_getElem? (i := 519) (by decide +kernel), by decide +kernel⟩
set_option maxRecDepth 20000 in
theorem tw_520 : (.instanceMethod yX2_agrees : Cond) ∈ TB := List.mem_filter.mpr ⟨List.mem_of_getElem? (i := 520) (by decide +kernel), by decide +kernel⟩
set_option maxRecDepth 20000 in
theorem tw_521 : (.selects RX2 yX2_agrees yX2_agrees : Cond) ∈ TB := List.mem_filter.mpr ⟨List.mem_of_getElem? (i := 521) (by decide +kernel), by decide +kernel⟩
set_option maxRecDepth 20000 in
theorem tw_522 : (.code yX2_agrees cX2_agrees 4 (some .boolean) : Cond) ∈ TB := List.mem_filter.mpr ⟨List.mem_of_getElem? (i := 522) (by decide +kernel), by decide +kernel⟩
set_option maxRecDepth 20000 in
theorem tw_523 : (.methodLink RX2 25 yX0_stands : Cond) ∈ TB := List.mem_filter.mpr ⟨List.mem_of_getElem? (i := 523) (by decide +kernel), by decide +kernel⟩
set_option maxRecDepth 20000 in
theorem tw_524 : (.methodLink R_law 109 yX4_share : Cond) ∈ TB := List.mem_filter.mpr ⟨List.mem_of_getElem? (i := 524) (by decide +kernel), by decide +kernel⟩
set_option maxRecDepth 20000 in
theorem tw_525 : (.instanceMethod yX4_share : Cond) ∈ TB := List.mem_filter.mpr ⟨List.mem_of_getElem? (i := 525) (by decide +kernel), by decide +kernel⟩
set_option maxRecDepth 20000 in
theorem tw_526 : (.selects RX4 yX4_share yX4_share : Cond) ∈ TB := List.mem_filter.mpr ⟨List.mem_of_getElem? (i := 526) (by decide +kernel), by decide +kernel⟩
set_option maxRecDepth 20000 in
theorem tw_527 : (.code yX4_share cX4_share 8 (some .int) : Cond) ∈ TB := List.mem_filter.mpr ⟨List.mem_of_getElem? (i := 527) (by decide +kernel), by decide +kernel⟩
set_option maxRecDepth 20000 in
theorem tw_528 : (.methodLink RX4 219 yJ6_bitCount : Cond) ∈ TB := List.mem_filter.mpr ⟨List.mem_of_getElem? (i := 528) (by decide +kernel), by decide +kernel⟩
set_option maxRecDepth 20000 in
theorem tw_529 : (.methodLink RX4 224 yX4_standingWithStonesOf : Cond) ∈ TB := List.mem_filter.mpr ⟨List.mem_of_getElem? (i := 529) (by decide +kernel), by decide +kernel⟩
set_option maxRecDepth 20000 in
theorem tw_531 : (.instanceMethod yX4_standingWithStonesOf : Cond) ∈ TB := List.mem_filter.mpr ⟨List.mem_of_getElem? (i := 531) (by decide +kernel), by decide +kernel⟩
set_option maxRecDepth 20000 in
theorem tw_532 : (.code yX4_standingWithStonesOf cX4_standingWithStonesOf 2 (some .int) : Cond) ∈ TB := List.mem_filter.mpr ⟨List.mem_of_getElem? (i := 532) (by decide +kernel), by decide +kernel⟩
set_option maxRecDepth 20000 in
theorem tw_533 : (.methodLink RX4 234 yX0_emptyAllBut : Cond) ∈ TB := List.mem_filter.mpr ⟨List.mem_of_getElem? (i := 533) (by decide +kernel), by decide +kernel⟩
set_option maxRecDepth 20000 in
theorem tw_534 : (.instanceMethod yX0_emptyAllBut : Cond) ∈ TB := List.mem_filter.mpr ⟨List.mem_of_getElem? (i := 534) (by decide +kernel), by decide +kernel⟩
set_option maxRecDepth 20000 in
theorem tw_535 : (.selects RX0 yX0_emptyAllBut yX0_emptyAllBut : Cond) ∈ TB := List.mem_filter.mpr ⟨List.mem_of_getElem? (i := 535) (by decide +kernel), by decide +kernel⟩
set_option maxRecDepth 20000 in
theorem tw_536 : (.code yX0_emptyAllBut cX0_emptyAllBut 3 none : Cond) ∈ TB := List.mem_filter.mpr ⟨List.mem_of_getElem? (i := 536) (by decide +kernel), by decide +kernel⟩
set_option maxRecDepth 20000 in
theorem tw_537 : (.methodLink RX4 227 yX4_factorial : Cond) ∈ TB := List.mem_filter.mpr ⟨List.mem_of_getElem? (i := 537) (by decide +kernel), by decide +kernel⟩
set_option maxRecDepth 20000 in
theorem tw_538 : (.static yX4_factorial : Cond) ∈ TB := List.mem_filter.mpr ⟨List.mem_of_getElem? (i := 538) (by decide +kernel), by decide +kernel⟩
set_option maxRecDepth 20000 in
theorem tw_539 : (.code yX4_factorial cX4_factorial 3 (some .int) : Cond) ∈ TB := List.mem_filter.mpr ⟨List.mem_of_getElem? (i := 539) (by decide +kernel), by decide +kernel⟩
set_option maxRecDepth 20000 in
theorem tw_540 : (.methodLink RX4 230 yX4_partOfFraction : Cond) ∈ TB := List.mem_filter.mpr ⟨List.mem_of_getElem? (i := 540) (by decide +kernel), by decide +kernel⟩
set_option maxRecDepth 20000 in
theorem tw_541 : (.static yX4_partOfFraction : Cond) ∈ TB := List.mem_filter.mpr ⟨List.mem_of_getElem? (i := 541) (by decide +kernel), by decide +kernel⟩
set_option maxRecDepth 20000 in
theorem tw_542 : (.code yX4_partOfFraction cX4_partOfFraction 4 (some .int) : Cond) ∈ TB := List.mem_filter.mpr ⟨List.mem_of_getElem? (i := 542) (by decide +kernel), by decide +kernel⟩
set_option maxRecDepth 20000 in
theorem tw_543 : (.methodLink RX4 280 Lib.Math.abs.name : Cond) ∈ TB := List.mem_filter.mpr ⟨List.mem_of_getElem? (i := 543) (by decide +kernel), by decide +kernel⟩
set_option maxRecDepth 20000 in
theorem tw_544 : (.static Lib.Math.abs.name : Cond) ∈ TB := List.mem_filter.mpr ⟨List.mem_of_getElem? (i := 544) (by decide +kernel), by decide +kernel⟩
set_option maxRecDepth 20000 in
theorem tw_545 : (.code Lib.Math.abs.name Lib.Math.abs.code 1 (some .int) : Cond) ∈ TB := List.mem_filter.mpr ⟨List.mem_of_getElem? (i := 545) (by decide +kernel), by decide +kernel⟩
set_option maxRecDepth 20000 in
theorem tw_546 : (.methodLink RX4 283 yX4_commonDivisor : Cond) ∈ TB := List.mem_filter.mpr ⟨List.mem_of_getElem? (i := 546) (by decide +kernel), by decide +kernel⟩
set_option maxRecDepth 20000 in
theorem tw_547 : (.static yX4_commonDivisor : Cond) ∈ TB := List.mem_filter.mpr ⟨List.mem_of_getElem? (i := 547) (by decide +kernel), by decide +kernel⟩
set_option maxRecDepth 20000 in
theorem tw_548 : (.code yX4_commonDivisor cX4_commonDivisor 6 (some .int) : Cond) ∈ TB := List.mem_filter.mpr ⟨List.mem_of_getElem? (i := 548) (by decide +kernel), by decide +kernel⟩
set_option maxRecDepth 20000 in
theorem tw_549 : (.methodLink RX4 286 Lib.Math.max.name : Cond) ∈ TB := List.mem_filter.mpr ⟨List.mem_of_getElem? (i := 549) (by decide +kernel), by decide +kernel⟩
set_option maxRecDepth 20000 in
theorem tw_550 : (.static Lib.Math.max.name : Cond) ∈ TB := List.mem_filter.mpr ⟨List.mem_of_getElem? (i := 550) (by decide +kernel), by decide +kernel⟩
set_option maxRecDepth 20000 in
theorem tw_551 : (.code Lib.Math.max.name Lib.Math.max.code 2 (some .int) : Cond) ∈ TB := List.mem_filter.mpr ⟨List.mem_of_getElem? (i := 551) (by decide +kernel), by decide +kernel⟩
set_option maxRecDepth 20000 in
theorem tw_552 : (.methodLink R_law 114 yX4_rests : Cond) ∈ TB := List.mem_filter.mpr ⟨List.mem_of_getElem? (i := 552) (by decide +kernel), by decide +kernel⟩
set_option maxRecDepth 20000 in
theorem tw_553 : (.instanceMethod yX4_rests : Cond) ∈ TB := List.mem_filter.mpr ⟨List.mem_of_getElem? (i := 553) (by decide +kernel), by decide +kernel⟩
set_option maxRecDepth 20000 in
theorem tw_554 : (.selects RX4 yX4_rests yX4_rests : Cond) ∈ TB := List.mem_filter.mpr ⟨List.mem_of_getElem? (i := 554) (by decide +kernel), by decide +kernel⟩
set_option maxRecDepth 20000 in
theorem tw_555 : (.code yX4_rests cX4_rests 8 (some .int) : Cond) ∈ TB := List.mem_filter.mpr ⟨List.mem_of_getElem? (i := 555) (by decide +kernel), by decide +kernel⟩
set_option maxRecDepth 20000 in
theorem tw_556 : (.methodLink RX4 237 yX4_prefers : Cond) ∈ TB := List.mem_filter.mpr ⟨List.mem_of_getElem? (i := 556) (by decide +kernel), by decide +kernel⟩
set_option maxRecDepth 20000 in
theorem tw_558 : (.instanceMethod yX4_prefers : Cond) ∈ TB := List.mem_filter.mpr ⟨List.mem_of_getElem? (i := 558) (by decide +kernel), by decide +kernel⟩
set_option maxRecDepth 20000 in
theorem tw_559 : (.code yX4_prefers cX4_prefers 5 (some .boolean) : Cond) ∈ TB := List.mem_filter.mpr ⟨List.mem_of_getElem? (i := 559) (by decide +kernel), by decide +kernel⟩
set_option maxRecDepth 20000 in
theorem tw_560 : (.methodLink RX4 240 yX4_gain : Cond) ∈ TB := List.mem_filter.mpr ⟨List.mem_of_getElem? (i := 560) (by decide +kernel), by decide +kernel⟩
set_option maxRecDepth 20000 in
theorem tw_562 : (.instanceMethod yX4_gain : Cond) ∈ TB := List.mem_filter.mpr ⟨List.mem_of_getElem? (i := 562) (by decide +kernel), by decide +kernel⟩
set_option maxRecDepth 20000 in
theorem tw_563 : (.code yX4_gain cX4_gain 5 (some .int) : Cond) ∈ TB := List.mem_filter.mpr ⟨List.mem_of_getElem? (i := 563) (by decide +kernel), by decide +kernel⟩
set_option maxRecDepth 20000 in
theorem tw_564 : (.methodLink R_law 118 yX4_fails : Cond) ∈ TB := List.mem_filter.mpr ⟨List.mem_of_getElem? (i := 564) (by decide +kernel), by decide +kernel⟩
set_option maxRecDepth 20000 in
theorem tw_565 : (.instanceMethod yX4_fails : Cond) ∈ TB := List.mem_filter.mpr ⟨List.mem_of_getElem? (i := 565) (by decide +kernel), by decide +kernel⟩
set_option maxRecDepth 20000 in
theorem tw_566 : (.selects RX4 yX4_fails yX4_fails : Cond) ∈ TB := List.mem_filter.mpr ⟨List.mem_of_getElem? (i := 566) (by decide +kernel), by decide +kernel⟩
set_option maxRecDepth 20000 in
theorem tw_567 : (.code yX4_fails cX4_fails 9 (some .int) : Cond) ∈ TB := List.mem_filter.mpr ⟨List.mem_of_getElem? (i := 567) (by decide +kernel), by decide +kernel⟩
set_option maxRecDepth 20000 in
theorem tw_568 : (.methodLink RX4 244 yX4_standingWithFailed : Cond) ∈ TB := List.mem_filter.mpr ⟨List.mem_of_getElem? (i := 568) (by decide +kernel), by decide +kernel⟩
set_option maxRecDepth 20000 in
theorem tw_570 : (.instanceMethod yX4_standingWithFailed : Cond) ∈ TB := List.mem_filter.mpr ⟨List.mem_of_getElem? (i := 570) (by decide +kernel), by decide +kernel⟩
set_option maxRecDepth 20000 in
theorem tw_571 : (.code yX4_standingWithFailed cX4_standingWithFailed 2 (some .int) : Cond) ∈ TB := List.mem_filter.mpr ⟨List.mem_of_getElem? (i := 571) (by decide +kernel), by decide +kernel⟩
set_option maxRecDepth 20000 in
theorem tw_572 : (.methodLink RX4 250 yX0_failDeeds : Cond) ∈ TB := List.mem_filter.mpr ⟨List.mem_of_getElem? (i := 572) (by decide +kernel), by decide +kernel⟩
set_option maxRecDepth 20000 in
theorem tw_573 : (.instanceMethod yX0_failDeeds : Cond) ∈ TB := List.mem_filter.mpr ⟨List.mem_of_getElem? (i := 573) (by decide +kernel), by decide +kernel⟩
set_option maxRecDepth 20000 in
theorem tw_574 : (.selects RX0 yX0_failDeeds yX0_failDeeds : Cond) ∈ TB := List.mem_filter.mpr ⟨List.mem_of_getElem? (i := 574) (by decide +kernel), by decide +kernel⟩
set_option maxRecDepth 20000 in
theorem tw_575 : (.code yX0_failDeeds cX0_failDeeds 3 none : Cond) ∈ TB := List.mem_filter.mpr ⟨List.mem_of_getElem? (i := 575) (by decide +kernel), by decide +kernel⟩
set_option maxRecDepth 20000 in
theorem tw_576 : (.methodLink RX4 247 yX4_power : Cond) ∈ TB := List.mem_filter.mpr ⟨List.mem_of_getElem? (i := 576) (by decide +kernel), by decide +kernel⟩
set_option maxRecDepth 20000 in
theorem tw_577 : (.static yX4_power : Cond) ∈ TB := List.mem_filter.mpr ⟨List.mem_of_getElem? (i := 577) (by decide +kernel), by decide +kernel⟩
set_option maxRecDepth 20000 in
theorem tw_578 : (.code yX4_power cX4_power 4 (some .int) : Cond) ∈ TB := List.mem_filter.mpr ⟨List.mem_of_getElem? (i := 578) (by decide +kernel), by decide +kernel⟩
set_option maxRecDepth 20000 in
theorem tw_579 : (.methodLink R_law 123 yX4_seed : Cond) ∈ TB := List.mem_filter.mpr ⟨List.mem_of_getElem? (i := 579) (by decide +kernel), by decide +kernel⟩
set_option maxRecDepth 20000 in
theorem tw_580 : (.instanceMethod yX4_seed : Cond) ∈ TB := List.mem_filter.mpr ⟨List.mem_of_getElem? (i := 580) (by decide +kernel), by decide +kernel⟩
set_option maxRecDepth 20000 in
theorem tw_581 : (.selects RX4 yX4_seed yX4_seed : Cond) ∈ TB := List.mem_filter.mpr ⟨List.mem_of_getElem? (i := 581) (by decide +kernel), by decide +kernel⟩
set_option maxRecDepth 20000 in
theorem tw_582 : (.code yX4_seed cX4_seed 5 (some .long) : Cond) ∈ TB := List.mem_filter.mpr ⟨List.mem_of_getElem? (i := 582) (by decide +kernel), by decide +kernel⟩
set_option maxRecDepth 20000 in
theorem tw_583 : (.methodLink R_law 128 yX4_years : Cond) ∈ TB := List.mem_filter.mpr ⟨List.mem_of_getElem? (i := 583) (by decide +kernel), by decide +kernel⟩
set_option maxRecDepth 20000 in
theorem tw_584 : (.instanceMethod yX4_years : Cond) ∈ TB := List.mem_filter.mpr ⟨List.mem_of_getElem? (i := 584) (by decide +kernel), by decide +kernel⟩
set_option maxRecDepth 20000 in
theorem tw_585 : (.selects RX4 yX4_years yX4_years : Cond) ∈ TB := List.mem_filter.mpr ⟨List.mem_of_getElem? (i := 585) (by decide +kernel), by decide +kernel⟩
set_option maxRecDepth 20000 in
theorem tw_586 : (.code yX4_years cX4_years 4 (some .int) : Cond) ∈ TB := List.mem_filter.mpr ⟨List.mem_of_getElem? (i := 586) (by decide +kernel), by decide +kernel⟩
set_option maxRecDepth 20000 in
theorem tw_587 : (.constantLong RX4 257 6364136223846793005 : Cond) ∈ TB := List.mem_filter.mpr ⟨List.mem_of_getElem? (i := 587) (by decide +kernel), by decide +kernel⟩
set_option maxRecDepth 20000 in
theorem tw_588 : (.constantLong RX4 259 1442695040888963407 : Cond) ∈ TB := List.mem_filter.mpr ⟨List.mem_of_getElem? (i := 588) (by decide +kernel), by decide +kernel⟩
set_option maxRecDepth 20000 in
theorem tw_589 : (.constantLong RX4 261 40 : Cond) ∈ TB := List.mem_filter.mpr ⟨List.mem_of_getElem? (i := 589) (by decide +kernel), by decide +kernel⟩
set_option maxRecDepth 20000 in
theorem tw_590 : (.methodLink RX4 263 yX4_playYear : Cond) ∈ TB := List.mem_filter.mpr ⟨List.mem_of_getElem? (i := 590) (by decide +kernel), by decide +kernel⟩
set_option maxRecDepth 20000 in
theorem tw_592 : (.instanceMethod yX4_playYear : Cond) ∈ TB := List.mem_filter.mpr ⟨List.mem_of_getElem? (i := 592) (by decide +kernel), by decide +kernel⟩
set_option maxRecDepth 20000 in
theorem tw_593 : (.code yX4_playYear cX4_playYear 2 none : Cond) ∈ TB := List.mem_filter.mpr ⟨List.mem_of_getElem? (i := 593) (by decide +kernel), by decide +kernel⟩
set_option maxRecDepth 20000 in
theorem tw_594 : (.methodLink R_law 132 yX4_keep : Cond) ∈ TB := List.mem_filter.mpr ⟨List.mem_of_getElem? (i := 594) (by decide +kernel), by decide +kernel⟩
set_option maxRecDepth 20000 in
theorem tw_595 : (.instanceMethod yX4_keep : Cond) ∈ TB := List.mem_filter.mpr ⟨List.mem_of_getElem? (i := 595) (by decide +kernel), by decide +kernel⟩
set_option maxRecDepth 20000 in
theorem tw_596 : (.selects RX4 yX4_keep yX4_keep : Cond) ∈ TB := List.mem_filter.mpr ⟨List.mem_of_getElem? (i := 596) (by decide +kernel), by decide +kernel⟩
set_option maxRecDepth 20000 in
theorem tw_597 : (.code yX4_keep cX4_keep 2 (some .int) : Cond) ∈ TB := List.mem_filter.mpr ⟨List.mem_of_getElem? (i := 597) (by decide +kernel), by decide +kernel⟩
set_option maxRecDepth 20000 in
theorem tw_598 : (.methodLink RX4 266 yX0_hoursPassed : Cond) ∈ TB := List.mem_filter.mpr ⟨List.mem_of_getElem? (i := 598) (by decide +kernel), by decide +kernel⟩
set_option maxRecDepth 20000 in
theorem tw_599 : (.instanceMethod yX0_hoursPassed : Cond) ∈ TB := List.mem_filter.mpr ⟨List.mem_of_getElem? (i := 599) (by decide +kernel), by decide +kernel⟩
set_option maxRecDepth 20000 in
theorem tw_600 : (.selects RX0 yX0_hoursPassed yX0_hoursPassed : Cond) ∈ TB := List.mem_filter.mpr ⟨List.mem_of_getElem? (i := 600) (by decide +kernel), by decide +kernel⟩
set_option maxRecDepth 20000 in
theorem tw_601 : (.code yX0_hoursPassed cX0_hoursPassed 1 (some .int) : Cond) ∈ TB := List.mem_filter.mpr ⟨List.mem_of_getElem? (i := 601) (by decide +kernel), by decide +kernel⟩
set_option maxRecDepth 20000 in
theorem tw_602 : (.methodLink R_law 136 yX4_again : Cond) ∈ TB := List.mem_filter.mpr ⟨List.mem_of_getElem? (i := 602) (by decide +kernel), by decide +kernel⟩
set_option maxRecDepth 20000 in
theorem tw_603 : (.instanceMethod yX4_again : Cond) ∈ TB := List.mem_filter.mpr ⟨List.mem_of_getElem? (i := 603) (by decide +kernel), by decide +kernel⟩
set_option maxRecDepth 20000 in
theorem tw_604 : (.selects RX4 yX4_again yX4_again : Cond) ∈ TB := List.mem_filter.mpr ⟨List.mem_of_getElem? (i := 604) (by decide +kernel), by decide +kernel⟩
set_option maxRecDepth 20000 in
theorem tw_605 : (.code yX4_again cX4_again 2 (some .int) : Cond) ∈ TB := List.mem_filter.mpr ⟨List.mem_of_getElem? (i := 605) (by decide +kernel), by decide +kernel⟩
set_option maxRecDepth 20000 in
theorem tw_606 : (.methodLink R_law 140 yX4_count : Cond) ∈ TB := List.mem_filter.mpr ⟨List.mem_of_getElem? (i := 606) (by decide +kernel), by decide +kernel⟩
set_option maxRecDepth 20000 in
theorem tw_607 : (.instanceMethod yX4_count : Cond) ∈ TB := List.mem_filter.mpr ⟨List.mem_of_getElem? (i := 607) (by decide +kernel), by decide +kernel⟩
set_option maxRecDepth 20000 in
theorem tw_608 : (.selects RX4 yX4_count yX4_count : Cond) ∈ TB := List.mem_filter.mpr ⟨List.mem_of_getElem? (i := 608) (by decide +kernel), by decide +kernel⟩
set_option maxRecDepth 20000 in
theorem tw_609 : (.code yX4_count cX4_count 2 (some .int) : Cond) ∈ TB := List.mem_filter.mpr ⟨List.mem_of_getElem? (i := 609) (by decide +kernel), by decide +kernel⟩
set_option maxRecDepth 20000 in
theorem tw_610 : (.methodLink RX4 269 yX0_allStones : Cond) ∈ TB := List.mem_filter.mpr ⟨List.mem_of_getElem? (i := 610) (by decide +kernel), by decide +kernel⟩
set_option maxRecDepth 20000 in
theorem tw_611 : (.instanceMethod yX0_allStones : Cond) ∈ TB := List.mem_filter.mpr ⟨List.mem_of_getElem? (i := 611) (by decide +kernel), by decide +kernel⟩
set_option maxRecDepth 20000 in
theorem tw_612 : (.selects RX0 yX0_allStones yX0_allStones : Cond) ∈ TB := List.mem_filter.mpr ⟨List.mem_of_getElem? (i := 612) (by decide +kernel), by decide +kernel⟩
set_option maxRecDepth 20000 in
theorem tw_613 : (.code yX0_allStones cX0_allStones 3 (some .int) : Cond) ∈ TB := List.mem_filter.mpr ⟨List.mem_of_getElem? (i := 613) (by decide +kernel), by decide +kernel⟩
set_option maxRecDepth 20000 in
theorem tw_614 : (.methodLink RX4 272 yX0_allGround : Cond) ∈ TB := List.mem_filter.mpr ⟨List.mem_of_getElem? (i := 614) (by decide +kernel), by decide +kernel⟩
set_option maxRecDepth 20000 in
theorem tw_615 : (.instanceMethod yX0_allGround : Cond) ∈ TB := List.mem_filter.mpr ⟨List.mem_of_getElem? (i := 615) (by decide +kernel), by decide +kernel⟩
set_option maxRecDepth 20000 in
theorem tw_616 : (.selects RX0 yX0_allGround yX0_allGround : Cond) ∈ TB := List.mem_filter.mpr ⟨List.mem_of_getElem? (i := 616) (by decide +kernel), by decide +kernel⟩
set_option maxRecDepth 20000 in
theorem tw_617 : (.code yX0_allGround cX0_allGround 3 (some .int) : Cond) ∈ TB := List.mem_filter.mpr ⟨List.mem_of_getElem? (i := 617) (by decide +kernel), by decide +kernel⟩
set_option maxRecDepth 20000 in
theorem tw_618 : (.methodLink RX0 109 yX0_groundOf : Cond) ∈ TB := List.mem_filter.mpr ⟨List.mem_of_getElem? (i := 618) (by decide +kernel), by decide +kernel⟩
set_option maxRecDepth 20000 in
theorem tw_619 : (.methodLink RX4 275 yX0_monkLoad : Cond) ∈ TB := List.mem_filter.mpr ⟨List.mem_of_getElem? (i := 619) (by decide +kernel), by decide +kernel⟩
set_option maxRecDepth 20000 in
theorem tw_620 : (.instanceMethod yX0_monkLoad : Cond) ∈ TB := List.mem_filter.mpr ⟨List.mem_of_getElem? (i := 620) (by decide +kernel), by decide +kernel⟩
set_option maxRecDepth 20000 in
theorem tw_621 : (.selects RX0 yX0_monkLoad yX0_monkLoad : Cond) ∈ TB := List.mem_filter.mpr ⟨List.mem_of_getElem? (i := 621) (by decide +kernel), by decide +kernel⟩
set_option maxRecDepth 20000 in
theorem tw_622 : (.code yX0_monkLoad cX0_monkLoad 3 (some .int) : Cond) ∈ TB := List.mem_filter.mpr ⟨List.mem_of_getElem? (i := 622) (by decide +kernel), by decide +kernel⟩
set_option maxRecDepth 20000 in
theorem tw_623 : (.classLink R_law 10 RX5 : Cond) ∈ TB := List.mem_filter.mpr ⟨List.mem_of_getElem? (i := 623) (by decide +kernel), by decide +kernel⟩
set_option maxRecDepth 20000 in
theorem tw_624 : (.instantiable RX5 19 : Cond) ∈ TB := List.mem_filter.mpr ⟨List.mem_of_getElem? (i := 624) (by decide +kernel), by decide +kernel⟩
set_option maxRecDepth 20000 in
theorem tw_625 : (.methodLink R_law 12 yX5_init : Cond) ∈ TB := List.mem_filter.mpr ⟨List.mem_of_getElem? (i := 625) (by decide +kernel), by decide +kernel⟩
set_option maxRecDepth 20000 in
theorem tw_626 : (.instanceMethod yX5_init : Cond) ∈ TB := List.mem_filter.mpr ⟨List.mem_of_getElem? (i := 626) (by decide +kernel), by decide +kernel⟩
set_option maxRecDepth 20000 in
theorem tw_627 : (.code yX5_init cX5_init 1 none : Cond) ∈ TB := List.mem_filter.mpr ⟨List.mem_of_getElem? (i := 627) (by decide +kernel), by decide +kernel⟩
set_option maxRecDepth 20000 in
theorem tw_628 : (.methodLink RX5 1 objectInit : Cond) ∈ TB := List.mem_filter.mpr ⟨List.mem_of_getElem? (i := 628) (by decide +kernel), by decide +kernel⟩
set_option maxRecDepth 20000 in
theorem tw_629 : (.fieldLink RX5 74 "LeanLaneModel" "houses" "I" : Cond) ∈ TB := List.mem_filter.mpr ⟨List.mem_of_getElem? (i := 629) (by decide +kernel), by decide +kernel⟩
set_option maxRecDepth 20000 in
theorem tw_630 : (.fieldLink RX5 7 "LeanLaneModel" "strength" "[I" : Cond) ∈ TB := List.mem_filter.mpr ⟨List.mem_of_getElem? (i := 630) (by decide +kernel), by decide +kernel⟩
set_option maxRecDepth 20000 in
theorem tw_631 : (.fieldLink RX5 13 "LeanLaneModel" "now" "[I" : Cond) ∈ TB := List.mem_filter.mpr ⟨List.mem_of_getElem? (i := 631) (by decide +kernel), by decide +kernel⟩
set_option maxRecDepth 20000 in
theorem tw_632 : (.fieldLink RX5 16 "LeanLaneModel" "read" "[I" : Cond) ∈ TB := List.mem_filter.mpr ⟨List.mem_of_getElem? (i := 632) (by decide +kernel), by decide +kernel⟩
set_option maxRecDepth 20000 in
theorem tw_633 : (.fieldLink RX5 57 "LeanLaneModel" "readHouses" "I" : Cond) ∈ TB := List.mem_filter.mpr ⟨List.mem_of_getElem? (i := 633) (by decide +kernel), by decide +kernel⟩
set_option maxRecDepth 20000 in
theorem tw_634 : (.fieldLink RX5 19 "LeanLaneModel" "text" "[I" : Cond) ∈ TB := List.mem_filter.mpr ⟨List.mem_of_getElem? (i := 634) (by decide +kernel), by decide +kernel⟩
set_option maxRecDepth 20000 in
theorem tw_635 : (.fieldLink RX5 53 "LeanLaneModel" "length" "I" : Cond) ∈ TB := List.mem_filter.mpr ⟨List.mem_of_getElem? (i := 635) (by decide +kernel), by decide +kernel⟩
set_option maxRecDepth 20000 in
theorem tw_636 : (.fieldLink RX5 22 "LeanLaneModel" "loads" "[I" : Cond) ∈ TB := List.mem_filter.mpr ⟨List.mem_of_getElem? (i := 636) (by decide +kernel), by decide +kernel⟩
set_option maxRecDepth 20000 in
theorem tw_637 : (.fieldLink RX5 25 "LeanLaneModel" "falling" "[I" : Cond) ∈ TB := List.mem_filter.mpr ⟨List.mem_of_getElem? (i := 637) (by decide +kernel), by decide +kernel⟩
set_option maxRecDepth 20000 in
theorem tw_638 : (.fieldLink RX5 77 "LeanLaneModel" "acts" "I" : Cond) ∈ TB := List.mem_filter.mpr ⟨List.mem_of_getElem? (i := 638) (by decide +kernel), by decide +kernel⟩
set_option maxRecDepth 20000 in
theorem tw_639 : (.fieldLink RX5 105 "LeanLaneModel" "next" "I" : Cond) ∈ TB := List.mem_filter.mpr ⟨List.mem_of_getElem? (i := 639) (by decide +kernel), by decide +kernel⟩
set_option maxRecDepth 20000 in
theorem tw_640 : (.fieldLink RX5 28 "LeanLaneModel" "row" "[I" : Cond) ∈ TB := List.mem_filter.mpr ⟨List.mem_of_getElem? (i := 640) (by decide +kernel), by decide +kernel⟩
set_option maxRecDepth 20000 in
theorem tw_641 : (.fieldLink RX5 175 "LeanLaneModel" "seen" "I" : Cond) ∈ TB := List.mem_filter.mpr ⟨List.mem_of_getElem? (i := 641) (by decide +kernel), by decide +kernel⟩
set_option maxRecDepth 20000 in
theorem tw_642 : (.fieldLink RX5 31 "LeanLaneModel" "seenHours" "[I" : Cond) ∈ TB := List.mem_filter.mpr ⟨List.mem_of_getElem? (i := 642) (by decide +kernel), by decide +kernel⟩
set_option maxRecDepth 20000 in
theorem tw_643 : (.fieldLink RX5 34 "LeanLaneModel" "seenHouse" "[I" : Cond) ∈ TB := List.mem_filter.mpr ⟨List.mem_of_getElem? (i := 643) (by decide +kernel), by decide +kernel⟩
set_option maxRecDepth 20000 in
theorem tw_644 : (.fieldLink RX5 37 "LeanLaneModel" "seenStood" "[I" : Cond) ∈ TB := List.mem_filter.mpr ⟨List.mem_of_getElem? (i := 644) (by decide +kernel), by decide +kernel⟩
set_option maxRecDepth 20000 in
theorem tw_645 : (.fieldLink RX5 199 "LeanLaneModel" "seed" "J" : Cond) ∈ TB := List.mem_filter.mpr ⟨List.mem_of_getElem? (i := 645) (by decide +kernel), by decide +kernel⟩
set_option maxRecDepth 20000 in
theorem tw_646 : (.fieldLink RX5 40 "LeanLaneModel" "isKept" "[Z" : Cond) ∈ TB := List.mem_filter.mpr ⟨List.mem_of_getElem? (i := 646) (by decide +kernel), by decide +kernel⟩
set_option maxRecDepth 20000 in
theorem tw_647 : (.fieldLink RX5 44 "LeanLaneModel" "kept" "[I" : Cond) ∈ TB := List.mem_filter.mpr ⟨List.mem_of_getElem? (i := 647) (by decide +kernel), by decide +kernel⟩
set_option maxRecDepth 20000 in
theorem tw_687 : (.arrayClass .boolean : Cond) ∈ TB := List.mem_filter.mpr ⟨List.mem_of_getElem? (i := 687) (by decide +kernel), by decide +kernel⟩
set_option maxRecDepth 20000 in
theorem tw_688 : (.methodLink R_law 17 yX5_write : Cond) ∈ TB := List.mem_filter.mpr ⟨List.mem_of_getElem? (i := 688) (by decide +kernel), by decide +kernel⟩
set_option maxRecDepth 20000 in
theorem tw_689 : (.instanceMethod yX5_write : Cond) ∈ TB := List.mem_filter.mpr ⟨List.mem_of_getElem? (i := 689) (by decide +kernel), by decide +kernel⟩
set_option maxRecDepth 20000 in
theorem tw_690 : (.selects RX5 yX5_write yX5_write : Cond) ∈ TB := List.mem_filter.mpr ⟨List.mem_of_getElem? (i := 690) (by decide +kernel), by decide +kernel⟩
set_option maxRecDepth 20000 in
theorem tw_691 : (.code yX5_write cX5_write 2 (some .int) : Cond) ∈ TB := List.mem_filter.mpr ⟨List.mem_of_getElem? (i := 691) (by decide +kernel), by decide +kernel⟩
set_option maxRecDepth 20000 in
theorem tw_692 : (.constantLong RX5 47 255 : Cond) ∈ TB := List.mem_filter.mpr ⟨List.mem_of_getElem? (i := 692) (by decide +kernel), by decide +kernel⟩
set_option maxRecDepth 20000 in
theorem tw_693 : (.methodLink RX5 49 yX5_in : Cond) ∈ TB := List.mem_filter.mpr ⟨List.mem_of_getElem? (i := 693) (by decide +kernel), by decide +kernel⟩
set_option maxRecDepth 20000 in
theorem tw_694 : (.static yX5_in : Cond) ∈ TB := List.mem_filter.mpr ⟨List.mem_of_getElem? (i := 694) (by decide +kernel), by decide +kernel⟩
set_option maxRecDepth 20000 in
theorem tw_695 : (.code yX5_in cX5_in 6 (some .boolean) : Cond) ∈ TB := List.mem_filter.mpr ⟨List.mem_of_getElem? (i := 695) (by decide +kernel), by decide +kernel⟩
set_option maxRecDepth 20000 in
theorem tw_696 : (.methodLink R_law 22 yX5_wipe : Cond) ∈ TB := List.mem_filter.mpr ⟨List.mem_of_getElem? (i := 696) (by decide +kernel), by decide +kernel⟩
set_option maxRecDepth 20000 in
theorem tw_697 : (.instanceMethod yX5_wipe : Cond) ∈ TB := List.mem_filter.mpr ⟨List.mem_of_getElem? (i := 697) (by decide +kernel), by decide +kernel⟩
set_option maxRecDepth 20000 in
theorem tw_698 : (.selects RX5 yX5_wipe yX5_wipe : Cond) ∈ TB := List.mem_filter.mpr ⟨List.mem_of_getElem? (i := 698) (by decide +kernel), by decide +kernel⟩
set_option maxRecDepth 20000 in
theorem tw_699 : (.code yX5_wipe cX5_wipe 2 (some .int) : Cond) ∈ TB := List.mem_filter.mpr ⟨List.mem_of_getElem? (i := 699) (by decide +kernel), by decide +kernel⟩
set_option maxRecDepth 20000 in
theorem tw_700 : (.methodLink R_law 26 yX5_fault : Cond) ∈ TB := List.mem_filter.mpr ⟨List.mem_of_getElem? (i := 700) (by decide +kernel), by decide +kernel⟩
set_option maxRecDepth 20000 in
theorem tw_701 : (.instanceMethod yX5_fault : Cond) ∈ TB := List.mem_filter.mpr ⟨List.mem_of_getElem? (i := 701) (by decide +kernel), by decide +kernel⟩
set_option maxRecDepth 20000 in
theorem tw_702 : (.selects RX5 yX5_fault yX5_fault : Cond) ∈ TB := List.mem_filter.mpr ⟨List.mem_of_getElem? (i := 702) (by decide +kernel), by decide +kernel⟩
set_option maxRecDepth 20000 in
theorem tw_703 : (.code yX5_fault cX5_fault 1 (some .int) : Cond) ∈ TB := List.mem_filter.mpr ⟨List.mem_of_getElem? (i := 703) (by decide +kernel), by decide +kernel⟩
set_option maxRecDepth 20000 in
theorem tw_704 : (.methodLink RX5 70 yX5_readText : Cond) ∈ TB := List.mem_filter.mpr ⟨List.mem_of_getElem? (i := 704) (by decide +kernel), by decide +kernel⟩
set_option maxRecDepth 20000 in
theorem tw_706 : (.instanceMethod yX5_readText : Cond) ∈ TB := List.mem_filter.mpr ⟨List.mem_of_getElem? (i := 706) (by decide +kernel), by decide +kernel⟩
set_option maxRecDepth 20000 in
theorem tw_707 : (.code yX5_readText cX5_readText 5 (some .int) : Cond) ∈ TB := List.mem_filter.mpr ⟨List.mem_of_getElem? (i := 707) (by decide +kernel), by decide +kernel⟩
set_option maxRecDepth 20000 in
theorem tw_708 : (.constantLong RX5 60 48 : Cond) ∈ TB := List.mem_filter.mpr ⟨List.mem_of_getElem? (i := 708) (by decide +kernel), by decide +kernel⟩
set_option maxRecDepth 20000 in
theorem tw_709 : (.constantLong RX5 62 52 : Cond) ∈ TB := List.mem_filter.mpr ⟨List.mem_of_getElem? (i := 709) (by decide +kernel), by decide +kernel⟩
set_option maxRecDepth 20000 in
theorem tw_710 : (.constantLong RX5 64 57 : Cond) ∈ TB := List.mem_filter.mpr ⟨List.mem_of_getElem? (i := 710) (by decide +kernel), by decide +kernel⟩
set_option maxRecDepth 20000 in
theorem tw_711 : (.methodLink RX5 66 yX5_deedOf : Cond) ∈ TB := List.mem_filter.mpr ⟨List.mem_of_getElem? (i := 711) (by decide +kernel), by decide +kernel⟩
set_option maxRecDepth 20000 in
theorem tw_712 : (.static yX5_deedOf : Cond) ∈ TB := List.mem_filter.mpr ⟨List.mem_of_getElem? (i := 712) (by decide +kernel), by decide +kernel⟩
set_option maxRecDepth 20000 in
theorem tw_713 : (.code yX5_deedOf cX5_deedOf 1 (some .int) : Cond) ∈ TB := List.mem_filter.mpr ⟨List.mem_of_getElem? (i := 713) (by decide +kernel), by decide +kernel⟩
set_option maxRecDepth 20000 in
theorem tw_714 : (.methodLink R_law 30 yX5_lane : Cond) ∈ TB := List.mem_filter.mpr ⟨List.mem_of_getElem? (i := 714) (by decide +kernel), by decide +kernel⟩
set_option maxRecDepth 20000 in
theorem tw_715 : (.instanceMethod yX5_lane : Cond) ∈ TB := List.mem_filter.mpr ⟨List.mem_of_getElem? (i := 715) (by decide +kernel), by decide +kernel⟩
set_option maxRecDepth 20000 in
theorem tw_716 : (.selects RX5 yX5_lane yX5_lane : Cond) ∈ TB := List.mem_filter.mpr ⟨List.mem_of_getElem? (i := 716) (by decide +kernel), by decide +kernel⟩
set_option maxRecDepth 20000 in
theorem tw_717 : (.code yX5_lane cX5_lane 2 (some .int) : Cond) ∈ TB := List.mem_filter.mpr ⟨List.mem_of_getElem? (i := 717) (by decide +kernel), by decide +kernel⟩
set_option maxRecDepth 20000 in
theorem tw_718 : (.methodLink R_law 35 yX5_house : Cond) ∈ TB := List.mem_filter.mpr ⟨List.mem_of_getElem? (i := 718) (by decide +kernel), by decide +kernel⟩
set_option maxRecDepth 20000 in
theorem tw_719 : (.instanceMethod yX5_house : Cond) ∈ TB := List.mem_filter.mpr ⟨List.mem_of_getElem? (i := 719) (by decide +kernel), by decide +kernel⟩
set_option maxRecDepth 20000 in
theorem tw_720 : (.selects RX5 yX5_house yX5_house : Cond) ∈ TB := List.mem_filter.mpr ⟨List.mem_of_getElem? (i := 720) (by decide +kernel), by decide +kernel⟩
set_option maxRecDepth 20000 in
theorem tw_721 : (.code yX5_house cX5_house 3 (some .int) : Cond) ∈ TB := List.mem_filter.mpr ⟨List.mem_of_getElem? (i := 721) (by decide +kernel), by decide +kernel⟩
set_option maxRecDepth 20000 in
theorem tw_722 : (.methodLink RX5 91 yX5_isHouse : Cond) ∈ TB := List.mem_filter.mpr ⟨List.mem_of_getElem? (i := 722) (by decide +kernel), by decide +kernel⟩
set_option maxRecDepth 20000 in
theorem tw_724 : (.instanceMethod yX5_isHouse : Cond) ∈ TB := List.mem_filter.mpr ⟨List.mem_of_getElem? (i := 724) (by decide +kernel), by decide +kernel⟩
set_option maxRecDepth 20000 in
theorem tw_725 : (.code yX5_isHouse cX5_isHouse 2 (some .boolean) : Cond) ∈ TB := List.mem_filter.mpr ⟨List.mem_of_getElem? (i := 725) (by decide +kernel), by decide +kernel⟩
set_option maxRecDepth 20000 in
theorem tw_726 : (.methodLink RX5 84 yX5_givesOf : Cond) ∈ TB := List.mem_filter.mpr ⟨List.mem_of_getElem? (i := 726) (by decide +kernel), by decide +kernel⟩
set_option maxRecDepth 20000 in
theorem tw_728 : (.instanceMethod yX5_givesOf : Cond) ∈ TB := List.mem_filter.mpr ⟨List.mem_of_getElem? (i := 728) (by decide +kernel), by decide +kernel⟩
set_option maxRecDepth 20000 in
theorem tw_729 : (.code yX5_givesOf cX5_givesOf 5 (some .int) : Cond) ∈ TB := List.mem_filter.mpr ⟨List.mem_of_getElem? (i := 729) (by decide +kernel), by decide +kernel⟩
set_option maxRecDepth 20000 in
theorem tw_730 : (.methodLink RX5 80 yX5_at : Cond) ∈ TB := List.mem_filter.mpr ⟨List.mem_of_getElem? (i := 730) (by decide +kernel), by decide +kernel⟩
set_option maxRecDepth 20000 in
theorem tw_732 : (.instanceMethod yX5_at : Cond) ∈ TB := List.mem_filter.mpr ⟨List.mem_of_getElem? (i := 732) (by decide +kernel), by decide +kernel⟩
set_option maxRecDepth 20000 in
theorem tw_733 : (.code yX5_at cX5_at 4 (some .int) : Cond) ∈ TB := List.mem_filter.mpr ⟨List.mem_of_getElem? (i := 733) (by decide +kernel), by decide +kernel⟩
set_option maxRecDepth 20000 in
theorem tw_734 : (.methodLink RX5 99 yX5_groundOf : Cond) ∈ TB := List.mem_filter.mpr ⟨List.mem_of_getElem? (i := 734) (by decide +kernel), by decide +kernel⟩
set_option maxRecDepth 20000 in
theorem tw_736 : (.instanceMethod yX5_groundOf : Cond) ∈ TB := List.mem_filter.mpr ⟨List.mem_of_getElem? (i := 736) (by decide +kernel), by decide +kernel⟩
set_option maxRecDepth 20000 in
theorem tw_737 : (.code yX5_groundOf cX5_groundOf 3 (some .int) : Cond) ∈ TB := List.mem_filter.mpr ⟨List.mem_of_getElem? (i := 737) (by decide +kernel), by decide +kernel⟩
set_option maxRecDepth 20000 in
theorem tw_738 : (.methodLink R_law 39 yX5_hour : Cond) ∈ TB := List.mem_filter.mpr ⟨List.mem_of_getElem? (i := 738) (by decide +kernel), by decide +kernel⟩
set_option maxRecDepth 20000 in
theorem tw_739 : (.instanceMethod yX5_hour : Cond) ∈ TB := List.mem_filter.mpr ⟨List.mem_of_getElem? (i := 739) (by decide +kernel), by decide +kernel⟩
set_option maxRecDepth 20000 in
theorem tw_740 : (.selects RX5 yX5_hour yX5_hour : Cond) ∈ TB := List.mem_filter.mpr ⟨List.mem_of_getElem? (i := 740) (by decide +kernel), by decide +kernel⟩
set_option maxRecDepth 20000 in
theorem tw_741 : (.code yX5_hour cX5_hour 1 (some .int) : Cond) ∈ TB := List.mem_filter.mpr ⟨List.mem_of_getElem? (i := 741) (by decide +kernel), by decide +kernel⟩
set_option maxRecDepth 20000 in
theorem tw_742 : (.methodLink RX5 108 yX5_keepAct : Cond) ∈ TB := List.mem_filter.mpr ⟨List.mem_of_getElem? (i := 742) (by decide +kernel), by decide +kernel⟩
set_option maxRecDepth 20000 in
theorem tw_744 : (.instanceMethod yX5_keepAct : Cond) ∈ TB := List.mem_filter.mpr ⟨List.mem_of_getElem? (i := 744) (by decide +kernel), by decide +kernel⟩
set_option maxRecDepth 20000 in
theorem tw_745 : (.code yX5_keepAct cX5_keepAct 2 none : Cond) ∈ TB := List.mem_filter.mpr ⟨List.mem_of_getElem? (i := 745) (by decide +kernel), by decide +kernel⟩
set_option maxRecDepth 20000 in
theorem tw_746 : (.methodLink RX5 111 yX5_hourOn : Cond) ∈ TB := List.mem_filter.mpr ⟨List.mem_of_getElem? (i := 746) (by decide +kernel), by decide +kernel⟩
set_option maxRecDepth 20000 in
theorem tw_748 : (.instanceMethod yX5_hourOn : Cond) ∈ TB := List.mem_filter.mpr ⟨List.mem_of_getElem? (i := 748) (by decide +kernel), by decide +kernel⟩
set_option maxRecDepth 20000 in
theorem tw_749 : (.code yX5_hourOn cX5_hourOn 7 (some .int) : Cond) ∈ TB := List.mem_filter.mpr ⟨List.mem_of_getElem? (i := 749) (by decide +kernel), by decide +kernel⟩
set_option maxRecDepth 20000 in
theorem tw_750 : (.methodLink RX5 88 yX5_leansOn : Cond) ∈ TB := List.mem_filter.mpr ⟨List.mem_of_getElem? (i := 750) (by decide +kernel), by decide +kernel⟩
set_option maxRecDepth 20000 in
theorem tw_752 : (.instanceMethod yX5_leansOn : Cond) ∈ TB := List.mem_filter.mpr ⟨List.mem_of_getElem? (i := 752) (by decide +kernel), by decide +kernel⟩
set_option maxRecDepth 20000 in
theorem tw_753 : (.code yX5_leansOn cX5_leansOn 4 (some .int) : Cond) ∈ TB := List.mem_filter.mpr ⟨List.mem_of_getElem? (i := 753) (by decide +kernel), by decide +kernel⟩
set_option maxRecDepth 20000 in
theorem tw_754 : (.methodLink RX5 95 yX5_isHeld : Cond) ∈ TB := List.mem_filter.mpr ⟨List.mem_of_getElem? (i := 754) (by decide +kernel), by decide +kernel⟩
set_option maxRecDepth 20000 in
theorem tw_756 : (.instanceMethod yX5_isHeld : Cond) ∈ TB := List.mem_filter.mpr ⟨List.mem_of_getElem? (i := 756) (by decide +kernel), by decide +kernel⟩
set_option maxRecDepth 20000 in
theorem tw_757 : (.code yX5_isHeld cX5_isHeld 4 (some .boolean) : Cond) ∈ TB := List.mem_filter.mpr ⟨List.mem_of_getElem? (i := 757) (by decide +kernel), by decide +kernel⟩
set_option maxRecDepth 20000 in
theorem tw_758 : (.methodLink RX5 102 yX5_has : Cond) ∈ TB := List.mem_filter.mpr ⟨List.mem_of_getElem? (i := 758) (by decide +kernel), by decide +kernel⟩
set_option maxRecDepth 20000 in
theorem tw_759 : (.static yX5_has : Cond) ∈ TB := List.mem_filter.mpr ⟨List.mem_of_getElem? (i := 759) (by decide +kernel), by decide +kernel⟩
set_option maxRecDepth 20000 in
theorem tw_760 : (.code yX5_has cX5_has 2 (some .boolean) : Cond) ∈ TB := List.mem_filter.mpr ⟨List.mem_of_getElem? (i := 760) (by decide +kernel), by decide +kernel⟩
set_option maxRecDepth 20000 in
theorem tw_761 : (.methodLink RX5 114 yX5_ones : Cond) ∈ TB := List.mem_filter.mpr ⟨List.mem_of_getElem? (i := 761) (by decide +kernel), by decide +kernel⟩
set_option maxRecDepth 20000 in
theorem tw_762 : (.static yX5_ones : Cond) ∈ TB := List.mem_filter.mpr ⟨List.mem_of_getElem? (i := 762) (by decide +kernel), by decide +kernel⟩
set_option maxRecDepth 20000 in
theorem tw_763 : (.code yX5_ones cX5_ones 3 (some .int) : Cond) ∈ TB := List.mem_filter.mpr ⟨List.mem_of_getElem? (i := 763) (by decide +kernel), by decide +kernel⟩
set_option maxRecDepth 20000 in
theorem tw_764 : (.methodLink R_law 43 yX5_bring : Cond) ∈ TB := List.mem_filter.mpr ⟨List.mem_of_getElem? (i := 764) (by decide +kernel), by decide +kernel⟩
set_option maxRecDepth 20000 in
theorem tw_765 : (.instanceMethod yX5_bring : Cond) ∈ TB := List.mem_filter.mpr ⟨List.mem_of_getElem? (i := 765) (by decide +kernel), by decide +kernel⟩
set_option maxRecDepth 20000 in
theorem tw_766 : (.selects RX5 yX5_bring yX5_bring : Cond) ∈ TB := List.mem_filter.mpr ⟨List.mem_of_getElem? (i := 766) (by decide +kernel), by decide +kernel⟩
set_option maxRecDepth 20000 in
theorem tw_767 : (.code yX5_bring cX5_bring 3 (some .int) : Cond) ∈ TB := List.mem_filter.mpr ⟨List.mem_of_getElem? (i := 767) (by decide +kernel), by decide +kernel⟩
set_option maxRecDepth 20000 in
theorem tw_768 : (.constantLong RX5 117 9 : Cond) ∈ TB := List.mem_filter.mpr ⟨List.mem_of_getElem? (i := 768) (by decide +kernel), by decide +kernel⟩
set_option maxRecDepth 20000 in
theorem tw_769 : (.methodLink RX5 119 yX5_canBring : Cond) ∈ TB := List.mem_filter.mpr ⟨List.mem_of_getElem? (i := 769) (by decide +kernel), by decide +kernel⟩
set_option maxRecDepth 20000 in
theorem tw_771 : (.instanceMethod yX5_canBring : Cond) ∈ TB := List.mem_filter.mpr ⟨List.mem_of_getElem? (i := 771) (by decide +kernel), by decide +kernel⟩
set_option maxRecDepth 20000 in
theorem tw_772 : (.code yX5_canBring cX5_canBring 4 (some .boolean) : Cond) ∈ TB := List.mem_filter.mpr ⟨List.mem_of_getElem? (i := 772) (by decide +kernel), by decide +kernel⟩
set_option maxRecDepth 20000 in
theorem tw_773 : (.methodLink R_law 47 yX5_take : Cond) ∈ TB := List.mem_filter.mpr ⟨List.mem_of_getElem? (i := 773) (by decide +kernel), by decide +kernel⟩
set_option maxRecDepth 20000 in
theorem tw_774 : (.instanceMethod yX5_take : Cond) ∈ TB := List.mem_filter.mpr ⟨List.mem_of_getElem? (i := 774) (by decide +kernel), by decide +kernel⟩
set_option maxRecDepth 20000 in
theorem tw_775 : (.selects RX5 yX5_take yX5_take : Cond) ∈ TB := List.mem_filter.mpr ⟨List.mem_of_getElem? (i := 775) (by decide +kernel), by decide +kernel⟩
set_option maxRecDepth 20000 in
theorem tw_776 : (.code yX5_take cX5_take 3 (some .int) : Cond) ∈ TB := List.mem_filter.mpr ⟨List.mem_of_getElem? (i := 776) (by decide +kernel), by decide +kernel⟩
set_option maxRecDepth 20000 in
theorem tw_777 : (.methodLink RX5 123 yX5_canTake : Cond) ∈ TB := List.mem_filter.mpr ⟨List.mem_of_getElem? (i := 777) (by decide +kernel), by decide +kernel⟩
set_option maxRecDepth 20000 in
theorem tw_779 : (.instanceMethod yX5_canTake : Cond) ∈ TB := List.mem_filter.mpr ⟨List.mem_of_getElem? (i := 779) (by decide +kernel), by decide +kernel⟩
set_option maxRecDepth 20000 in
theorem tw_780 : (.code yX5_canTake cX5_canTake 4 (some .boolean) : Cond) ∈ TB := List.mem_filter.mpr ⟨List.mem_of_getElem? (i := 780) (by decide +kernel), by decide +kernel⟩
set_option maxRecDepth 20000 in
theorem tw_781 : (.methodLink R_law 51 yX5_deed : Cond) ∈ TB := List.mem_filter.mpr ⟨List.mem_of_getElem? (i := 781) (by decide +kernel), by decide +kernel⟩
set_option maxRecDepth 20000 in
theorem tw_782 : (.instanceMethod yX5_deed : Cond) ∈ TB := List.mem_filter.mpr ⟨List.mem_of_getElem? (i := 782) (by decide +kernel), by decide +kernel⟩
set_option maxRecDepth 20000 in
theorem tw_783 : (.selects RX5 yX5_deed yX5_deed : Cond) ∈ TB := List.mem_filter.mpr ⟨List.mem_of_getElem? (i := 783) (by decide +kernel), by decide +kernel⟩
set_option maxRecDepth 20000 in
theorem tw_784 : (.code yX5_deed cX5_deed 4 (some .int) : Cond) ∈ TB := List.mem_filter.mpr ⟨List.mem_of_getElem? (i := 784) (by decide +kernel), by decide +kernel⟩
set_option maxRecDepth 20000 in
theorem tw_785 : (.constantLong RX5 126 2 : Cond) ∈ TB := List.mem_filter.mpr ⟨List.mem_of_getElem? (i := 785) (by decide +kernel), by decide +kernel⟩
set_option maxRecDepth 20000 in
theorem tw_786 : (.methodLink R_law 55 yX5_build : Cond) ∈ TB := List.mem_filter.mpr ⟨List.mem_of_getElem? (i := 786) (by decide +kernel), by decide +kernel⟩
set_option maxRecDepth 20000 in
theorem tw_787 : (.instanceMethod yX5_build : Cond) ∈ TB := List.mem_filter.mpr ⟨List.mem_of_getElem? (i := 787) (by decide +kernel), by decide +kernel⟩
set_option maxRecDepth 20000 in
theorem tw_788 : (.selects RX5 yX5_build yX5_build : Cond) ∈ TB := List.mem_filter.mpr ⟨List.mem_of_getElem? (i := 788) (by decide +kernel), by decide +kernel⟩
set_option maxRecDepth 20000 in
theorem tw_789 : (.code yX5_build cX5_build 2 (some .int) : Cond) ∈ TB := List.mem_filter.mpr ⟨List.mem_of_getElem? (i := 789) (by decide +kernel), by decide +kernel⟩
set_option maxRecDepth 20000 in
theorem tw_790 : (.methodLink RX5 128 yX5_buildOn : Cond) ∈ TB := List.mem_filter.mpr ⟨List.mem_of_getElem? (i := 790) (by decide +kernel), by decide +kernel⟩
set_option maxRecDepth 20000 in
theorem tw_792 : (.instanceMethod yX5_buildOn : Cond) ∈ TB := List.mem_filter.mpr ⟨List.mem_of_getElem? (i := 792) (by decide +kernel), by decide +kernel⟩
set_option maxRecDepth 20000 in
theorem tw_793 : (.code yX5_buildOn cX5_buildOn 4 none : Cond) ∈ TB := List.mem_filter.mpr ⟨List.mem_of_getElem? (i := 793) (by decide +kernel), by decide +kernel⟩
set_option maxRecDepth 20000 in
theorem tw_794 : (.methodLink R_law 59 yX5_undo : Cond) ∈ TB := List.mem_filter.mpr ⟨List.mem_of_getElem? (i := 794) (by decide +kernel), by decide +kernel⟩
set_option maxRecDepth 20000 in
theorem tw_795 : (.instanceMethod yX5_undo : Cond) ∈ TB := List.mem_filter.mpr ⟨List.mem_of_getElem? (i := 795) (by decide +kernel), by decide +kernel⟩
set_option maxRecDepth 20000 in
theorem tw_796 : (.selects RX5 yX5_undo yX5_undo : Cond) ∈ TB := List.mem_filter.mpr ⟨List.mem_of_getElem? (i := 796) (by decide +kernel), by decide +kernel⟩
set_option maxRecDepth 20000 in
theorem tw_797 : (.code yX5_undo cX5_undo 2 (some .int) : Cond) ∈ TB := List.mem_filter.mpr ⟨List.mem_of_getElem? (i := 797) (by decide +kernel), by decide +kernel⟩
set_option maxRecDepth 20000 in
theorem tw_798 : (.methodLink R_law 64 yX5_later : Cond) ∈ TB := List.mem_filter.mpr ⟨List.mem_of_getElem? (i := 798) (by decide +kernel), by decide +kernel⟩
set_option maxRecDepth 20000 in
theorem tw_799 : (.instanceMethod yX5_later : Cond) ∈ TB := List.mem_filter.mpr ⟨List.mem_of_getElem? (i := 799) (by decide +kernel), by decide +kernel⟩
set_option maxRecDepth 20000 in
theorem tw_800 : (.selects RX5 yX5_later yX5_later : Cond) ∈ TB := List.mem_filter.mpr ⟨List.mem_of_getElem? (i := 800) (by decide +kernel), by decide +kernel⟩
set_option maxRecDepth 20000 in
theorem tw_801 : (.code yX5_later cX5_later 4 (some .int) : Cond) ∈ TB := List.mem_filter.mpr ⟨List.mem_of_getElem? (i := 801) (by decide +kernel), by decide +kernel⟩
set_option maxRecDepth 20000 in
theorem tw_802 : (.constantLong RX5 132 30 : Cond) ∈ TB := List.mem_filter.mpr ⟨List.mem_of_getElem? (i := 802) (by decide +kernel), by decide +kernel⟩
set_option maxRecDepth 20000 in
theorem tw_803 : (.methodLink RX5 134 yX5_layTrial : Cond) ∈ TB := List.mem_filter.mpr ⟨List.mem_of_getElem? (i := 803) (by decide +kernel), by decide +kernel⟩
set_option maxRecDepth 20000 in
theorem tw_805 : (.instanceMethod yX5_layTrial : Cond) ∈ TB := List.mem_filter.mpr ⟨List.mem_of_getElem? (i := 805) (by decide +kernel), by decide +kernel⟩
set_option maxRecDepth 20000 in
theorem tw_806 : (.code yX5_layTrial cX5_layTrial 2 none : Cond) ∈ TB := List.mem_filter.mpr ⟨List.mem_of_getElem? (i := 806) (by decide +kernel), by decide +kernel⟩
set_option maxRecDepth 20000 in
theorem tw_807 : (.methodLink RX5 137 yX5_goOn : Cond) ∈ TB := List.mem_filter.mpr ⟨List.mem_of_getElem? (i := 807) (by decide +kernel), by decide +kernel⟩
set_option maxRecDepth 20000 in
theorem tw_809 : (.instanceMethod yX5_goOn : Cond) ∈ TB := List.mem_filter.mpr ⟨List.mem_of_getElem? (i := 809) (by decide +kernel), by decide +kernel⟩
set_option maxRecDepth 20000 in
theorem tw_810 : (.code yX5_goOn cX5_goOn 4 (some .int) : Cond) ∈ TB := List.mem_filter.mpr ⟨List.mem_of_getElem? (i := 810) (by decide +kernel), by decide +kernel⟩
set_option maxRecDepth 20000 in
theorem tw_811 : (.methodLink R_law 68 yX5_standing : Cond) ∈ TB := List.mem_filter.mpr ⟨List.mem_of_getElem? (i := 811) (by decide +kernel), by decide +kernel⟩
set_option maxRecDepth 20000 in
theorem tw_812 : (.instanceMethod yX5_standing : Cond) ∈ TB := List.mem_filter.mpr ⟨List.mem_of_getElem? (i := 812) (by decide +kernel), by decide +kernel⟩
set_option maxRecDepth 20000 in
theorem tw_813 : (.selects RX5 yX5_standing yX5_standing : Cond) ∈ TB := List.mem_filter.mpr ⟨List.mem_of_getElem? (i := 813) (by decide +kernel), by decide +kernel⟩
set_option maxRecDepth 20000 in
theorem tw_814 : (.code yX5_standing cX5_standing 2 (some .int) : Cond) ∈ TB := List.mem_filter.mpr ⟨List.mem_of_getElem? (i := 814) (by decide +kernel), by decide +kernel⟩
set_option maxRecDepth 20000 in
theorem tw_815 : (.methodLink RX5 140 yX5_standingOn : Cond) ∈ TB := List.mem_filter.mpr ⟨List.mem_of_getElem? (i := 815) (by decide +kernel), by decide +kernel⟩
set_option maxRecDepth 20000 in
theorem tw_817 : (.instanceMethod yX5_standingOn : Cond) ∈ TB := List.mem_filter.mpr ⟨List.mem_of_getElem? (i := 817) (by decide +kernel), by decide +kernel⟩
set_option maxRecDepth 20000 in
theorem tw_818 : (.code yX5_standingOn cX5_standingOn 4 (some .int) : Cond) ∈ TB := List.mem_filter.mpr ⟨List.mem_of_getElem? (i := 818) (by decide +kernel), by decide +kernel⟩
set_option maxRecDepth 20000 in
theorem tw_819 : (.methodLink R_law 72 yX5_falls : Cond) ∈ TB := List.mem_filter.mpr ⟨List.mem_of_getElem? (i := 819) (by decide +kernel), by decide +kernel⟩
set_option maxRecDepth 20000 in
theorem tw_820 : (.instanceMethod yX5_falls : Cond) ∈ TB := List.mem_filter.mpr ⟨List.mem_of_getElem? (i := 820) (by decide +kernel), by decide +kernel⟩
set_option maxRecDepth 20000 in
theorem tw_821 : (.selects RX5 yX5_falls yX5_falls : Cond) ∈ TB := List.mem_filter.mpr ⟨List.mem_of_getElem? (i := 821) (by decide +kernel), by decide +kernel⟩
set_option maxRecDepth 20000 in
theorem tw_822 : (.code yX5_falls cX5_falls 3 (some .int) : Cond) ∈ TB := List.mem_filter.mpr ⟨List.mem_of_getElem? (i := 822) (by decide +kernel), by decide +kernel⟩
set_option maxRecDepth 20000 in
theorem tw_823 : (.methodLink R_law 76 yX5_rings : Cond) ∈ TB := List.mem_filter.mpr ⟨List.mem_of_getElem? (i := 823) (by decide +kernel), by decide +kernel⟩
set_option maxRecDepth 20000 in
theorem tw_824 : (.instanceMethod yX5_rings : Cond) ∈ TB := List.mem_filter.mpr ⟨List.mem_of_getElem? (i := 824) (by decide +kernel), by decide +kernel⟩
set_option maxRecDepth 20000 in
theorem tw_825 : (.selects RX5 yX5_rings yX5_rings : Cond) ∈ TB := List.mem_filter.mpr ⟨List.mem_of_getElem? (i := 825) (by decide +kernel), by decide +kernel⟩
set_option maxRecDepth 20000 in
theorem tw_826 : (.code yX5_rings cX5_rings 4 (some .int) : Cond) ∈ TB := List.mem_filter.mpr ⟨List.mem_of_getElem? (i := 826) (by decide +kernel), by decide +kernel⟩
set_option maxRecDepth 20000 in
theorem tw_827 : (.methodLink R_law 83 yX5_orders : Cond) ∈ TB := List.mem_filter.mpr ⟨List.mem_of_getElem? (i := 827) (by decide +kernel), by decide +kernel⟩
set_option maxRecDepth 20000 in
theorem tw_828 : (.instanceMethod yX5_orders : Cond) ∈ TB := List.mem_filter.mpr ⟨List.mem_of_getElem? (i := 828) (by decide +kernel), by decide +kernel⟩
set_option maxRecDepth 20000 in
theorem tw_829 : (.selects RX5 yX5_orders yX5_orders : Cond) ∈ TB := List.mem_filter.mpr ⟨List.mem_of_getElem? (i := 829) (by decide +kernel), by decide +kernel⟩
set_option maxRecDepth 20000 in
theorem tw_830 : (.code yX5_orders cX5_orders 8 (some .int) : Cond) ∈ TB := List.mem_filter.mpr ⟨List.mem_of_getElem? (i := 830) (by decide +kernel), by decide +kernel⟩
set_option maxRecDepth 20000 in
theorem tw_831 : (.constantLong RX5 151 4 : Cond) ∈ TB := List.mem_filter.mpr ⟨List.mem_of_getElem? (i := 831) (by decide +kernel), by decide +kernel⟩
set_option maxRecDepth 20000 in
theorem tw_832 : (.methodLink RX5 145 yX5_tenTo : Cond) ∈ TB := List.mem_filter.mpr ⟨List.mem_of_getElem? (i := 832) (by decide +kernel), by decide +kernel⟩
set_option maxRecDepth 20000 in
theorem tw_833 : (.static yX5_tenTo : Cond) ∈ TB := List.mem_filter.mpr ⟨List.mem_of_getElem? (i := 833) (by decide +kernel), by decide +kernel⟩
set_option maxRecDepth 20000 in
theorem tw_834 : (.code yX5_tenTo cX5_tenTo 4 (some .long) : Cond) ∈ TB := List.mem_filter.mpr ⟨List.mem_of_getElem? (i := 834) (by decide +kernel), by decide +kernel⟩
set_option maxRecDepth 20000 in
theorem tw_835 : (.constantLong RX5 143 10 : Cond) ∈ TB := List.mem_filter.mpr ⟨List.mem_of_getElem? (i := 835) (by decide +kernel), by decide +kernel⟩
set_option maxRecDepth 20000 in
theorem tw_836 : (.methodLink RX5 153 yX5_areMoves : Cond) ∈ TB := List.mem_filter.mpr ⟨List.mem_of_getElem? (i := 836) (by decide +kernel), by decide +kernel⟩
set_option maxRecDepth 20000 in
theorem tw_838 : (.instanceMethod yX5_areMoves : Cond) ∈ TB := List.mem_filter.mpr ⟨List.mem_of_getElem? (i := 838) (by decide +kernel), by decide +kernel⟩
set_option maxRecDepth 20000 in
theorem tw_839 : (.code yX5_areMoves cX5_areMoves 7 (some .boolean) : Cond) ∈ TB := List.mem_filter.mpr ⟨List.mem_of_getElem? (i := 839) (by decide +kernel), by decide +kernel⟩
set_option maxRecDepth 20000 in
theorem tw_840 : (.constantLong RX5 149 1000 : Cond) ∈ TB := List.mem_filter.mpr ⟨List.mem_of_getElem? (i := 840) (by decide +kernel), by decide +kernel⟩
set_option maxRecDepth 20000 in
theorem tw_841 : (.methodLink RX5 157 yX5_isOrder : Cond) ∈ TB := List.mem_filter.mpr ⟨List.mem_of_getElem? (i := 841) (by decide +kernel), by decide +kernel⟩
set_option maxRecDepth 20000 in
theorem tw_842 : (.static yX5_isOrder : Cond) ∈ TB := List.mem_filter.mpr ⟨List.mem_of_getElem? (i := 842) (by decide +kernel), by decide +kernel⟩
set_option maxRecDepth 20000 in
theorem tw_843 : (.code yX5_isOrder cX5_isOrder 5 (some .boolean) : Cond) ∈ TB := List.mem_filter.mpr ⟨List.mem_of_getElem? (i := 843) (by decide +kernel), by decide +kernel⟩
set_option maxRecDepth 20000 in
theorem tw_844 : (.methodLink RX5 160 yX5_canMove : Cond) ∈ TB := List.mem_filter.mpr ⟨List.mem_of_getElem? (i := 844) (by decide +kernel), by decide +kernel⟩
set_option maxRecDepth 20000 in
theorem tw_846 : (.instanceMethod yX5_canMove : Cond) ∈ TB := List.mem_filter.mpr ⟨List.mem_of_getElem? (i := 846) (by decide +kernel), by decide +kernel⟩
set_option maxRecDepth 20000 in
theorem tw_847 : (.code yX5_canMove cX5_canMove 12 (some .boolean) : Cond) ∈ TB := List.mem_filter.mpr ⟨List.mem_of_getElem? (i := 847) (by decide +kernel), by decide +kernel⟩
set_option maxRecDepth 20000 in
theorem tw_848 : (.methodLink R_law 87 yX5_piano : Cond) ∈ TB := List.mem_filter.mpr ⟨List.mem_of_getElem? (i := 848) (by decide +kernel), by decide +kernel⟩
set_option maxRecDepth 20000 in
theorem tw_849 : (.instanceMethod yX5_piano : Cond) ∈ TB := List.mem_filter.mpr ⟨List.mem_of_getElem? (i := 849) (by decide +kernel), by decide +kernel⟩
set_option maxRecDepth 20000 in
theorem tw_850 : (.selects RX5 yX5_piano yX5_piano : Cond) ∈ TB := List.mem_filter.mpr ⟨List.mem_of_getElem? (i := 850) (by decide +kernel), by decide +kernel⟩
set_option maxRecDepth 20000 in
theorem tw_851 : (.code yX5_piano cX5_piano 5 (some .int) : Cond) ∈ TB := List.mem_filter.mpr ⟨List.mem_of_getElem? (i := 851) (by decide +kernel), by decide +kernel⟩
set_option maxRecDepth 20000 in
theorem tw_852 : (.methodLink R_law 91 yX5_sacks : Cond) ∈ TB := List.mem_filter.mpr ⟨List.mem_of_getElem? (i := 852) (by decide +kernel), by decide +kernel⟩
set_option maxRecDepth 20000 in
theorem tw_853 : (.instanceMethod yX5_sacks : Cond) ∈ TB := List.mem_filter.mpr ⟨List.mem_of_getElem? (i := 853) (by decide +kernel), by decide +kernel⟩
set_option maxRecDepth 20000 in
theorem tw_854 : (.selects RX5 yX5_sacks yX5_sacks : Cond) ∈ TB := List.mem_filter.mpr ⟨List.mem_of_getElem? (i := 854) (by decide +kernel), by decide +kernel⟩
set_option maxRecDepth 20000 in
theorem tw_855 : (.code yX5_sacks cX5_sacks 9 (some .int) : Cond) ∈ TB := List.mem_filter.mpr ⟨List.mem_of_getElem? (i := 855) (by decide +kernel), by decide +kernel⟩
set_option maxRecDepth 20000 in
theorem tw_856 : (.methodLink RX5 164 yX5_isSafe : Cond) ∈ TB := List.mem_filter.mpr ⟨List.mem_of_getElem? (i := 856) (by decide +kernel), by decide +kernel⟩
set_option maxRecDepth 20000 in
theorem tw_858 : (.instanceMethod yX5_isSafe : Cond) ∈ TB := List.mem_filter.mpr ⟨List.mem_of_getElem? (i := 858) (by decide +kernel), by decide +kernel⟩
set_option maxRecDepth 20000 in
theorem tw_859 : (.code yX5_isSafe cX5_isSafe 5 (some .boolean) : Cond) ∈ TB := List.mem_filter.mpr ⟨List.mem_of_getElem? (i := 859) (by decide +kernel), by decide +kernel⟩
set_option maxRecDepth 20000 in
theorem tw_860 : (.methodLink R_law 96 yX5_judge : Cond) ∈ TB := List.mem_filter.mpr ⟨List.mem_of_getElem? (i := 860) (by decide +kernel), by decide +kernel⟩
set_option maxRecDepth 20000 in
theorem tw_861 : (.instanceMethod yX5_judge : Cond) ∈ TB := List.mem_filter.mpr ⟨List.mem_of_getElem? (i := 861) (by decide +kernel), by decide +kernel⟩
set_option maxRecDepth 20000 in
theorem tw_862 : (.selects RX5 yX5_judge yX5_judge : Cond) ∈ TB := List.mem_filter.mpr ⟨List.mem_of_getElem? (i := 862) (by decide +kernel), by decide +kernel⟩
set_option maxRecDepth 20000 in
theorem tw_863 : (.code yX5_judge cX5_judge 6 (some .int) : Cond) ∈ TB := List.mem_filter.mpr ⟨List.mem_of_getElem? (i := 863) (by decide +kernel), by decide +kernel⟩
set_option maxRecDepth 20000 in
theorem tw_864 : (.constantLong RX5 168 10000 : Cond) ∈ TB := List.mem_filter.mpr ⟨List.mem_of_getElem? (i := 864) (by decide +kernel), by decide +kernel⟩
set_option maxRecDepth 20000 in
theorem tw_865 : (.methodLink RX5 170 yX5_tryThing : Cond) ∈ TB := List.mem_filter.mpr ⟨List.mem_of_getElem? (i := 865) (by decide +kernel), by decide +kernel⟩
set_option maxRecDepth 20000 in
theorem tw_867 : (.instanceMethod yX5_tryThing : Cond) ∈ TB := List.mem_filter.mpr ⟨List.mem_of_getElem? (i := 867) (by decide +kernel), by decide +kernel⟩
set_option maxRecDepth 20000 in
theorem tw_868 : (.code yX5_tryThing cX5_tryThing 11 (some .boolean) : Cond) ∈ TB := List.mem_filter.mpr ⟨List.mem_of_getElem? (i := 868) (by decide +kernel), by decide +kernel⟩
set_option maxRecDepth 20000 in
theorem tw_869 : (.methodLink R_law 100 yX5_see : Cond) ∈ TB := List.mem_filter.mpr ⟨List.mem_of_getElem? (i := 869) (by decide +kernel), by decide +kernel⟩
set_option maxRecDepth 20000 in
theorem tw_870 : (.instanceMethod yX5_see : Cond) ∈ TB := List.mem_filter.mpr ⟨List.mem_of_getElem? (i := 870) (by decide +kernel), by decide +kernel⟩
set_option maxRecDepth 20000 in
theorem tw_871 : (.selects RX5 yX5_see yX5_see : Cond) ∈ TB := List.mem_filter.mpr ⟨List.mem_of_getElem? (i := 871) (by decide +kernel), by decide +kernel⟩
set_option maxRecDepth 20000 in
theorem tw_872 : (.code yX5_see cX5_see 4 (some .int) : Cond) ∈ TB := List.mem_filter.mpr ⟨List.mem_of_getElem? (i := 872) (by decide +kernel), by decide +kernel⟩
set_option maxRecDepth 20000 in
theorem tw_873 : (.constantLong RX5 173 5 : Cond) ∈ TB := List.mem_filter.mpr ⟨List.mem_of_getElem? (i := 873) (by decide +kernel), by decide +kernel⟩
set_option maxRecDepth 20000 in
theorem tw_874 : (.methodLink R_law 104 yX5_unsee : Cond) ∈ TB := List.mem_filter.mpr ⟨List.mem_of_getElem? (i := 874) (by decide +kernel), by decide +kernel⟩
set_option maxRecDepth 20000 in
theorem tw_875 : (.instanceMethod yX5_unsee : Cond) ∈ TB := List.mem_filter.mpr ⟨List.mem_of_getElem? (i := 875) (by decide +kernel), by decide +kernel⟩
set_option maxRecDepth 20000 in
theorem tw_876 : (.selects RX5 yX5_unsee yX5_unsee : Cond) ∈ TB := List.mem_filter.mpr ⟨List.mem_of_getElem? (i := 876) (by decide +kernel), by decide +kernel⟩
set_option maxRecDepth 20000 in
theorem tw_877 : (.code yX5_unsee cX5_unsee 2 (some .int) : Cond) ∈ TB := List.mem_filter.mpr ⟨List.mem_of_getElem? (i := 877) (by decide +kernel), by decide +kernel⟩
set_option maxRecDepth 20000 in
theorem tw_878 : (.methodLink R_law 108 yX5_night : Cond) ∈ TB := List.mem_filter.mpr ⟨List.mem_of_getElem? (i := 878) (by decide +kernel), by decide +kernel⟩
set_option maxRecDepth 20000 in
theorem tw_879 : (.instanceMethod yX5_night : Cond) ∈ TB := List.mem_filter.mpr ⟨List.mem_of_getElem? (i := 879) (by decide +kernel), by decide +kernel⟩
set_option maxRecDepth 20000 in
theorem tw_880 : (.selects RX5 yX5_night yX5_night : Cond) ∈ TB := List.mem_filter.mpr ⟨List.mem_of_getElem? (i := 880) (by decide +kernel), by decide +kernel⟩
set_option maxRecDepth 20000 in
theorem tw_881 : (.code yX5_night cX5_night 6 (some .int) : Cond) ∈ TB := List.mem_filter.mpr ⟨List.mem_of_getElem? (i := 881) (by decide +kernel), by decide +kernel⟩
set_option maxRecDepth 20000 in
theorem tw_882 : (.methodLink RX5 178 yX5_mayBe : Cond) ∈ TB := List.mem_filter.mpr ⟨List.mem_of_getElem? (i := 882) (by decide +kernel), by decide +kernel⟩
set_option maxRecDepth 20000 in
theorem tw_884 : (.instanceMethod yX5_mayBe : Cond) ∈ TB := List.mem_filter.mpr ⟨List.mem_of_getElem? (i := 884) (by decide +kernel), by decide +kernel⟩
set_option maxRecDepth 20000 in
theorem tw_885 : (.code yX5_mayBe cX5_mayBe 7 (some .boolean) : Cond) ∈ TB := List.mem_filter.mpr ⟨List.mem_of_getElem? (i := 885) (by decide +kernel), by decide +kernel⟩
set_option maxRecDepth 20000 in
theorem tw_886 : (.methodLink R_law 113 yX5_share : Cond) ∈ TB := List.mem_filter.mpr ⟨List.mem_of_getElem? (i := 886) (by decide +kernel), by decide +kernel⟩
set_option maxRecDepth 20000 in
theorem tw_887 : (.instanceMethod yX5_share : Cond) ∈ TB := List.mem_filter.mpr ⟨List.mem_of_getElem? (i := 887) (by decide +kernel), by decide +kernel⟩
set_option maxRecDepth 20000 in
theorem tw_888 : (.selects RX5 yX5_share yX5_share : Cond) ∈ TB := List.mem_filter.mpr ⟨List.mem_of_getElem? (i := 888) (by decide +kernel), by decide +kernel⟩
set_option maxRecDepth 20000 in
theorem tw_889 : (.code yX5_share cX5_share 6 (some .int) : Cond) ∈ TB := List.mem_filter.mpr ⟨List.mem_of_getElem? (i := 889) (by decide +kernel), by decide +kernel⟩
set_option maxRecDepth 20000 in
theorem tw_890 : (.methodLink RX5 181 yX5_factorial : Cond) ∈ TB := List.mem_filter.mpr ⟨List.mem_of_getElem? (i := 890) (by decide +kernel), by decide +kernel⟩
set_option maxRecDepth 20000 in
theorem tw_891 : (.static yX5_factorial : Cond) ∈ TB := List.mem_filter.mpr ⟨List.mem_of_getElem? (i := 891) (by decide +kernel), by decide +kernel⟩
set_option maxRecDepth 20000 in
theorem tw_892 : (.code yX5_factorial cX5_factorial 3 (some .int) : Cond) ∈ TB := List.mem_filter.mpr ⟨List.mem_of_getElem? (i := 892) (by decide +kernel), by decide +kernel⟩
set_option maxRecDepth 20000 in
theorem tw_893 : (.methodLink RX5 184 yX5_standWith : Cond) ∈ TB := List.mem_filter.mpr ⟨List.mem_of_getElem? (i := 893) (by decide +kernel), by decide +kernel⟩
set_option maxRecDepth 20000 in
theorem tw_895 : (.instanceMethod yX5_standWith : Cond) ∈ TB := List.mem_filter.mpr ⟨List.mem_of_getElem? (i := 895) (by decide +kernel), by decide +kernel⟩
set_option maxRecDepth 20000 in
theorem tw_896 : (.code yX5_standWith cX5_standWith 3 (some .int) : Cond) ∈ TB := List.mem_filter.mpr ⟨List.mem_of_getElem? (i := 896) (by decide +kernel), by decide +kernel⟩
set_option maxRecDepth 20000 in
theorem tw_897 : (.methodLink RX5 187 yX5_common : Cond) ∈ TB := List.mem_filter.mpr ⟨List.mem_of_getElem? (i := 897) (by decide +kernel), by decide +kernel⟩
set_option maxRecDepth 20000 in
theorem tw_898 : (.static yX5_common : Cond) ∈ TB := List.mem_filter.mpr ⟨List.mem_of_getElem? (i := 898) (by decide +kernel), by decide +kernel⟩
set_option maxRecDepth 20000 in
theorem tw_899 : (.code yX5_common cX5_common 5 (some .int) : Cond) ∈ TB := List.mem_filter.mpr ⟨List.mem_of_getElem? (i := 899) (by decide +kernel), by decide +kernel⟩
set_option maxRecDepth 20000 in
theorem tw_900 : (.methodLink R_law 117 yX5_rests : Cond) ∈ TB := List.mem_filter.mpr ⟨List.mem_of_getElem? (i := 900) (by decide +kernel), by decide +kernel⟩
set_option maxRecDepth 20000 in
theorem tw_901 : (.instanceMethod yX5_rests : Cond) ∈ TB := List.mem_filter.mpr ⟨List.mem_of_getElem? (i := 901) (by decide +kernel), by decide +kernel⟩
set_option maxRecDepth 20000 in
theorem tw_902 : (.selects RX5 yX5_rests yX5_rests : Cond) ∈ TB := List.mem_filter.mpr ⟨List.mem_of_getElem? (i := 902) (by decide +kernel), by decide +kernel⟩
set_option maxRecDepth 20000 in
theorem tw_903 : (.code yX5_rests cX5_rests 7 (some .int) : Cond) ∈ TB := List.mem_filter.mpr ⟨List.mem_of_getElem? (i := 903) (by decide +kernel), by decide +kernel⟩
set_option maxRecDepth 20000 in
theorem tw_904 : (.methodLink RX5 194 yX5_isRest : Cond) ∈ TB := List.mem_filter.mpr ⟨List.mem_of_getElem? (i := 904) (by decide +kernel), by decide +kernel⟩
set_option maxRecDepth 20000 in
theorem tw_906 : (.instanceMethod yX5_isRest : Cond) ∈ TB := List.mem_filter.mpr ⟨List.mem_of_getElem? (i := 906) (by decide +kernel), by decide +kernel⟩
set_option maxRecDepth 20000 in
theorem tw_907 : (.code yX5_isRest cX5_isRest 5 (some .boolean) : Cond) ∈ TB := List.mem_filter.mpr ⟨List.mem_of_getElem? (i := 907) (by decide +kernel), by decide +kernel⟩
set_option maxRecDepth 20000 in
theorem tw_908 : (.methodLink RX5 190 yX5_gain : Cond) ∈ TB := List.mem_filter.mpr ⟨List.mem_of_getElem? (i := 908) (by decide +kernel), by decide +kernel⟩
set_option maxRecDepth 20000 in
theorem tw_910 : (.instanceMethod yX5_gain : Cond) ∈ TB := List.mem_filter.mpr ⟨List.mem_of_getElem? (i := 910) (by decide +kernel), by decide +kernel⟩
set_option maxRecDepth 20000 in
theorem tw_911 : (.code yX5_gain cX5_gain 5 (some .int) : Cond) ∈ TB := List.mem_filter.mpr ⟨List.mem_of_getElem? (i := 911) (by decide +kernel), by decide +kernel⟩
set_option maxRecDepth 20000 in
theorem tw_912 : (.methodLink R_law 122 yX5_fails : Cond) ∈ TB := List.mem_filter.mpr ⟨List.mem_of_getElem? (i := 912) (by decide +kernel), by decide +kernel⟩
set_option maxRecDepth 20000 in
theorem tw_913 : (.instanceMethod yX5_fails : Cond) ∈ TB := List.mem_filter.mpr ⟨List.mem_of_getElem? (i := 913) (by decide +kernel), by decide +kernel⟩
set_option maxRecDepth 20000 in
theorem tw_914 : (.selects RX5 yX5_fails yX5_fails : Cond) ∈ TB := List.mem_filter.mpr ⟨List.mem_of_getElem? (i := 914) (by decide +kernel), by decide +kernel⟩
set_option maxRecDepth 20000 in
theorem tw_915 : (.code yX5_fails cX5_fails 10 (some .int) : Cond) ∈ TB := List.mem_filter.mpr ⟨List.mem_of_getElem? (i := 915) (by decide +kernel), by decide +kernel⟩
set_option maxRecDepth 20000 in
theorem tw_916 : (.constantLong RX5 197 6 : Cond) ∈ TB := List.mem_filter.mpr ⟨List.mem_of_getElem? (i := 916) (by decide +kernel), by decide +kernel⟩
set_option maxRecDepth 20000 in
theorem tw_917 : (.methodLink R_law 127 yX5_seed : Cond) ∈ TB := List.mem_filter.mpr ⟨List.mem_of_getElem? (i := 917) (by decide +kernel), by decide +kernel⟩
set_option maxRecDepth 20000 in
theorem tw_918 : (.instanceMethod yX5_seed : Cond) ∈ TB := List.mem_filter.mpr ⟨List.mem_of_getElem? (i := 918) (by decide +kernel), by decide +kernel⟩
set_option maxRecDepth 20000 in
theorem tw_919 : (.selects RX5 yX5_seed yX5_seed : Cond) ∈ TB := List.mem_filter.mpr ⟨List.mem_of_getElem? (i := 919) (by decide +kernel), by decide +kernel⟩
set_option maxRecDepth 20000 in
theorem tw_920 : (.code yX5_seed cX5_seed 5 (some .long) : Cond) ∈ TB := List.mem_filter.mpr ⟨List.mem_of_getElem? (i := 920) (by decide +kernel), by decide +kernel⟩
set_option maxRecDepth 20000 in
theorem tw_921 : (.methodLink R_law 131 yX5_years : Cond) ∈ TB := List.mem_filter.mpr ⟨List.mem_of_getElem? (i := 921) (by decide +kernel), by decide +kernel⟩
set_option maxRecDepth 20000 in
theorem tw_922 : (.instanceMethod yX5_years : Cond) ∈ TB := List.mem_filter.mpr ⟨List.mem_of_getElem? (i := 922) (by decide +kernel), by decide +kernel⟩
set_option maxRecDepth 20000 in
theorem tw_923 : (.selects RX5 yX5_years yX5_years : Cond) ∈ TB := List.mem_filter.mpr ⟨List.mem_of_getElem? (i := 923) (by decide +kernel), by decide +kernel⟩
set_option maxRecDepth 20000 in
theorem tw_924 : (.code yX5_years cX5_years 5 (some .int) : Cond) ∈ TB := List.mem_filter.mpr ⟨List.mem_of_getElem? (i := 924) (by decide +kernel), by decide +kernel⟩
set_option maxRecDepth 20000 in
theorem tw_925 : (.constantLong RX5 203 6364136223846793005 : Cond) ∈ TB := List.mem_filter.mpr ⟨List.mem_of_getElem? (i := 925) (by decide +kernel), by decide +kernel⟩
set_option maxRecDepth 20000 in
theorem tw_926 : (.constantLong RX5 205 1442695040888963407 : Cond) ∈ TB := List.mem_filter.mpr ⟨List.mem_of_getElem? (i := 926) (by decide +kernel), by decide +kernel⟩
set_option maxRecDepth 20000 in
theorem tw_927 : (.constantLong RX5 207 40 : Cond) ∈ TB := List.mem_filter.mpr ⟨List.mem_of_getElem? (i := 927) (by decide +kernel), by decide +kernel⟩
set_option maxRecDepth 20000 in
theorem tw_928 : (.methodLink R_law 135 yX5_keep : Cond) ∈ TB := List.mem_filter.mpr ⟨List.mem_of_getElem? (i := 928) (by decide +kernel), by decide +kernel⟩
set_option maxRecDepth 20000 in
theorem tw_929 : (.instanceMethod yX5_keep : Cond) ∈ TB := List.mem_filter.mpr ⟨List.mem_of_getElem? (i := 929) (by decide +kernel), by decide +kernel⟩
set_option maxRecDepth 20000 in
theorem tw_930 : (.selects RX5 yX5_keep yX5_keep : Cond) ∈ TB := List.mem_filter.mpr ⟨List.mem_of_getElem? (i := 930) (by decide +kernel), by decide +kernel⟩
set_option maxRecDepth 20000 in
theorem tw_931 : (.code yX5_keep cX5_keep 3 (some .int) : Cond) ∈ TB := List.mem_filter.mpr ⟨List.mem_of_getElem? (i := 931) (by decide +kernel), by decide +kernel⟩
set_option maxRecDepth 20000 in
theorem tw_932 : (.methodLink R_law 139 yX5_again : Cond) ∈ TB := List.mem_filter.mpr ⟨List.mem_of_getElem? (i := 932) (by decide +kernel), by decide +kernel⟩
set_option maxRecDepth 20000 in
theorem tw_933 : (.instanceMethod yX5_again : Cond) ∈ TB := List.mem_filter.mpr ⟨List.mem_of_getElem? (i := 933) (by decide +kernel), by decide +kernel⟩
set_option maxRecDepth 20000 in
theorem tw_934 : (.selects RX5 yX5_again yX5_again : Cond) ∈ TB := List.mem_filter.mpr ⟨List.mem_of_getElem? (i := 934) (by decide +kernel), by decide +kernel⟩
set_option maxRecDepth 20000 in
theorem tw_935 : (.code yX5_again cX5_again 3 (some .int) : Cond) ∈ TB := List.mem_filter.mpr ⟨List.mem_of_getElem? (i := 935) (by decide +kernel), by decide +kernel⟩
set_option maxRecDepth 20000 in
theorem tw_936 : (.methodLink R_law 143 yX5_count : Cond) ∈ TB := List.mem_filter.mpr ⟨List.mem_of_getElem? (i := 936) (by decide +kernel), by decide +kernel⟩
set_option maxRecDepth 20000 in
theorem tw_937 : (.instanceMethod yX5_count : Cond) ∈ TB := List.mem_filter.mpr ⟨List.mem_of_getElem? (i := 937) (by decide +kernel), by decide +kernel⟩
set_option maxRecDepth 20000 in
theorem tw_938 : (.selects RX5 yX5_count yX5_count : Cond) ∈ TB := List.mem_filter.mpr ⟨List.mem_of_getElem? (i := 938) (by decide +kernel), by decide +kernel⟩
set_option maxRecDepth 20000 in
theorem tw_939 : (.code yX5_count cX5_count 2 (some .int) : Cond) ∈ TB := List.mem_filter.mpr ⟨List.mem_of_getElem? (i := 939) (by decide +kernel), by decide +kernel⟩
set_option maxRecDepth 20000 in
theorem tw_940 : (.methodLink RX5 209 yX5_together : Cond) ∈ TB := List.mem_filter.mpr ⟨List.mem_of_getElem? (i := 940) (by decide +kernel), by decide +kernel⟩
set_option maxRecDepth 20000 in
theorem tw_942 : (.instanceMethod yX5_together : Cond) ∈ TB := List.mem_filter.mpr ⟨List.mem_of_getElem? (i := 942) (by decide +kernel), by decide +kernel⟩
set_option maxRecDepth 20000 in
theorem tw_943 : (.code yX5_together cX5_together 4 (some .int) : Cond) ∈ TB := List.mem_filter.mpr ⟨List.mem_of_getElem? (i := 943) (by decide +kernel), by decide +kernel⟩
set_option maxRecDepth 20000 in
theorem tw_944 : (.constantLong R_law 77 4294967295 : Cond) ∈ TB := List.mem_filter.mpr ⟨List.mem_of_getElem? (i := 944) (by decide +kernel), by decide +kernel⟩
set_option maxRecDepth 20000 in
theorem iX0 : ∀ w ∈ wsX00, w ∈ TB := by decide +kernel
set_option maxRecDepth 20000 in
theorem iX1 : ∀ w ∈ wsX10, w ∈ TB := by decide +kernel
set_option maxRecDepth 20000 in
theorem iX2 : ∀ w ∈ wsX20, w ∈ TB := by decide +kernel
set_option maxRecDepth 20000 in
theorem iX3 : ∀ w ∈ wsX30, w ∈ TB := by decide +kernel
set_option maxRecDepth 20000 in
theorem iX4 : ∀ w ∈ wsX40, w ∈ TB := by decide +kernel
set_option maxRecDepth 20000 in
theorem iX5 : ∀ w ∈ wsX50, w ∈ TB := by decide +kernel
end
section
/-! own kit: a world of numbered cells; rows over it -/
abbrev CX : Type := va_G × (Nat → ClassId) × (Nat → Nat) × Nat
abbrev xD (cx : CX) : va_G := cx.1
abbrev xT (cx : CX) : Nat → ClassId := cx.2.1
abbrev xa (cx : CX) : Nat → Nat := cx.2.2.1
abbrev xN (cx : CX) : Nat := cx.2.2.2
abbrev ME : Type := Nat → va_E
abbrev xtys (cx : CX) : List (ClassId × FieldType) := [(xT cx 0, .int), (xT cx 1, .char), (xT cx 2, .boolean), (xT cx 3, .object RX0)]
def wl (ad : Nat → Nat) (N : Nat) (μ : ME) : va_W := (List.range N).map (fun i => (ad i, μ i))
theorem wl_at {ad : Nat → Nat} {N i : Nat} {μ : ME} {e : va_E} (hi : i < N) (h : μ i = e) : (wl ad N μ)[i]? = some (ad i, e) := by
  simp [wl, hi, h]
theorem wl_in {ad : Nat → Nat} {N k : Nat} {μ : ME} {q : Nat × va_E} (h : (wl ad N μ)[k]? = some q) : k < N ∧ q = (ad k, μ k) := by
  have hk : k < N := by
    have := (List.getElem?_eq_some_iff.mp h).1
    simpa [wl] using this
  refine ⟨hk, ?_⟩
  rw [wl_at hk rfl] at h
  exact (Option.some.inj h).symm
theorem wl_set {ad : Nat → Nat} {N i : Nat} {μ : ME} {e : va_E} : (wl ad N μ).set i (ad i, e) = wl ad N (va_up μ i e) := by
  apply List.ext_getElem?
  intro k
  by_cases hk : k < N
  · by_cases hki : k = i
    · subst hki
      rw [List.getElem?_set_self (by simpa [wl] using hk), wl_at hk rfl]
      simp [va_up]
    · rw [List.getElem?_set_ne (Ne.symm hki), wl_at hk rfl, wl_at hk rfl]
      simp [va_up, hki]
  · rw [List.getElem?_eq_none (by simp [wl]; omega), List.getElem?_eq_none (by simp [wl]; omega)]
def xA (cx : CX) : Nat → Prop := fun q => ∃ i, i < xN cx ∧ q = xa cx i
def xI (cx : CX) : Prop := ∀ i j, i < xN cx → j < xN cx → xa cx i = xa cx j → i = j
theorem wl_D {cx : CX} (hI : xI cx) (μ : ME) : va_D (xA cx) (wl (xa cx) (xN cx) μ) := by
  refine ⟨fun i j p q hp hq e => ?_, fun k q hq => ?_⟩
  · obtain ⟨h1, rfl⟩ := wl_in hp
    obtain ⟨h2, rfl⟩ := wl_in hq
    exact hI i j h1 h2 e
  · obtain ⟨h1, rfl⟩ := wl_in hq
    exact ⟨k, h1, rfl⟩
abbrev xP (cx : CX) (μ : ME) (H : Heap) : Prop := va_P (xD cx) classes (wl (xa cx) (xN cx) μ) H
def xNW (U : State) : Prop := va_Nw (.methodLinkNest RX0 96 yX4_isCarried RX4) U
abbrev xK (cx : CX) (U : State) : Prop := va_K (xD cx) classes (xtys cx) U ∧ xNW U
def WD (cx : CX) (μ : ME) (U : State) : Prop := xP cx μ U.heap ∧ xK cx U
def WP (cx : CX) (μ : ME) (U : State) : Prop := xP cx μ U.heap
def St (cx : CX) (s : State) (μ : ME) (H : Heap) (locs : List Loc) : Prop := xP cx μ H ∧ va_S (xA cx) s.heap H locs
def Fx (cx : CX) (p : Program) (s : State) (m : MethodId) (args : Array Value) (c : Code) (cc : ByteArray) (nL : Nat) (own : String) : Prop := CallFix p m c cc nL s args TB own ∧ xK cx s ∧ xI cx
abbrev WT (y : MethodName) (bytes : ByteArray) (maxL : Nat) (ret : Option FieldType) : List Cond := Cond.code y bytes maxL ret :: TB
abbrev Qi (cx : CX) (post : Int32 → ME → Prop) := va_Qi post (WP cx) (xA cx)
abbrev Ql (cx : CX) (post : Int64 → ME → Prop) := va_Ql post (WP cx) (xA cx)
abbrev Qv (cx : CX) (post : ME → Prop) := va_Qv post (WP cx) (xA cx)
/-- a contract over the world -/
abbrev MT (cx : CX) (l : Launch) (y : MethodName) (bytes : ByteArray) (maxL : Nat) (ret : Option FieldType) (fr lo : Nat) (av : List Value) (μ : ME) (Q : Array Value → State → Outcome → State → Prop) : Prop :=
  Met l y (WT y bytes maxL ret) { frames := fr, cells := 0, slots := 0, locals := lo } (va_Pc av (WD cx μ)) Q 0 0 (xA cx)
theorem WD_blind {cx : CX} {μ : ME} {av : List Value} : FrameBlind (va_Pc av (WD cx μ)) := by
  intro a U g mk h
  obtain ⟨h0, hP, hK, hN⟩ := h
  exact ⟨h0, hP, va_K.moved (u := U) (U := U.calling g mk a) (Vm.Alike.refl U.vm) hK, va_Nw.same (w := .methodLinkNest RX0 96 yX4_isCarried RX4) rfl (u := U) (U := U.calling g mk a) rfl hN⟩
theorem WD_at {cx : CX} {μ : ME} {s U : State} {H : Heap} (hP : xP cx μ H) (hK : xK cx s) (hU : U.heap = H) (hW : s.WarmedH U.vm) : WD cx μ U :=
  ⟨by rw [hU]; exact hP, va_K.moved hW.alike hK.1, va_Nw.warmM hW hK.2⟩
theorem mt_of {cx : CX} {l : Launch} {y : MethodName} {cc : ByteArray} {maxL fr lo : Nat} {ret : Option FieldType} {av : List Value} {μ : ME} {Qc : Array Value → State → Outcome → State → Prop} (hI : xI cx)
    (hy : plainName y.cls = true) (hn : (lg_sl av).length ≤ maxL)
    (body : ∀ (p : Program) (e : Env) (s : State) (m : MethodId) (below : List Frame) (meth : Method) (c : Code) (ls : Array Slot), Fx cx p s m av.toArray c cc maxL y.cls → meth.sig.returnType = ret → meth.locks = false → St cx s μ s.heap [] → lv_has ls maxL (lv_args 0 av) →
      W p l e { frames := fr, cells := 0, slots := 0, locals := lo } s m av.toArray below meth c s.heap [] 0 0 (MQ below Qc av.toArray s 0 0 (xA cx)) (F0 m 0 ls [])) : MT cx l y cc maxL ret fr lo av μ Qc := by
  refine Met.ofW (cc := cc) (maxL := maxL) (ret := ret) hy rfl ?_
  intro p e s m args below meth c s₁ B hml hv
  obtain ⟨rfl, hP, hK⟩ := hv
  have hts := atoms_spec (ws := WT y cc maxL ret) B.pre
  have hl := lv_entry av hn
  rw [lg_entry_eq]
  exact body p e s m below meth c _ ⟨⟨B.exec, B.bytes, hml, findClass_of_methodNamed B.named, fun w hw => hts w (List.mem_cons_of_mem _ hw)⟩, hK, hI⟩ B.returns B.notSynchronized ⟨hP, va_S.rf⟩ hl
section KIT
variable {cx : CX} {p : Program} {l : Launch} {e : Env} {R : Room} {s : State} {m : MethodId} {args : Array Value} {below : List Frame} {meth : Method} {c : Code} {H : Heap} {locs : List Loc} {cells slots : Nat} {Q : State → Prop}
variable {cc : ByteArray} {pc nL : Nat} {ls : Array Slot} {rest : List Value} {own : String} {μ : ME}
theorem rt_i {post : Int32 → ME → Prop} {v : Int32} (F : Fx cx p s m args c cc nL own) (hr : meth.sig.returnType = some .int) (hlk : meth.locks = false) (hW : St cx s μ H locs) (hp : post v μ) (hdg : decode cc pc = .ok (.ireturn, 1)) :
    W p l e R s m args below meth c H locs 0 0 (MQ below (Qi cx post) args s 0 0 (xA cx)) (F0 m pc ls [.int v]) :=
  W.iret F.1.1 F.1.2.1 hr (fun t ht _ => ⟨⟨v, μ, rfl, hp, by show xP cx μ t.heap; rw [ht]; exact hW.1⟩, hW.2.F ht⟩) hW.2.2.2 hdg hlk
theorem rt_z {post : Int32 → ME → Prop} {v : Int32} {ty : FieldType} (F : Fx cx p s m args c cc nL own) (hr : meth.sig.returnType = some ty) (hlk : meth.locks = false) (hn : narrow ty (.int v) = .int v) (hW : St cx s μ H locs) (hp : post v μ) (hdg : decode cc pc = .ok (.ireturn, 1)) :
    W p l e R s m args below meth c H locs 0 0 (MQ below (Qi cx post) args s 0 0 (xA cx)) (F0 m pc ls [.int v]) :=
  W.zret F.1.1 F.1.2.1 hr hn (fun t ht _ => ⟨⟨v, μ, rfl, hp, by show xP cx μ t.heap; rw [ht]; exact hW.1⟩, hW.2.F ht⟩) hW.2.2.2 hdg hlk
theorem rt_l {post : Int64 → ME → Prop} {v : Int64} (F : Fx cx p s m args c cc nL own) (hr : meth.sig.returnType = some .long) (hlk : meth.locks = false) (hW : St cx s μ H locs) (hp : post v μ) (hdg : decode cc pc = .ok (.lreturn, 1)) :
    W p l e R s m args below meth c H locs 0 0 (MQ below (Ql cx post) args s 0 0 (xA cx)) (F0 m pc ls [.long v]) :=
  W.lret F.1.1 F.1.2.1 hr (fun t ht _ => ⟨⟨v, μ, rfl, hp, by show xP cx μ t.heap; rw [ht]; exact hW.1⟩, hW.2.F ht⟩) hW.2.2.2 hdg hlk
theorem rt_v {post : ME → Prop} (F : Fx cx p s m args c cc nL own) (hr : meth.sig.returnType = none) (hlk : meth.locks = false) (hW : St cx s μ H locs) (hp : post μ) (hdg : decode cc pc = .ok (.return_, 1)) :
    W p l e R s m args below meth c H locs 0 0 (MQ below (Qv cx post) args s 0 0 (xA cx)) (F0 m pc ls []) :=
  W.vret F.1.1 F.1.2.1 hr (fun t ht _ => ⟨⟨μ, rfl, hp, by show xP cx μ t.heap; rw [ht]; exact hW.1⟩, hW.2.F ht⟩) hW.2.2.2 hdg hlk
theorem nv_get (F : Fx cx p s m args c cc nL own) (hW : St cx s μ H locs) {i ci index N : Nat} {fs : List Value} {C : String} {T : u_T} (hi : i < xN cx) (hμ : μ i = .inr (ci, fs)) (hc : classes[ci]? = some (C, T, N)) (hin : ∀ w ∈ u_ws C T N, w ∈ TB) (k : Nat) (hk : k < N)
    (hlink : Cond.fieldLink own index (T k).1 (T k).2.1 (T k).2.2.1 ∈ TB) {v : Value} (hv : fs[k]? = some v) (hdg : decode cc pc = .ok (.getfield index, 3)) (kk : W p l e R s m args below meth c H locs cells slots Q (F0 m (pc + 3) ls (v :: rest))) : W p l e R s m args below meth c H locs cells slots Q (F0 m pc ls (.ref (xa cx i) :: rest)) :=
  va_get F.1.1 F.1.2.1 F.1.2.2.2.2 hin F.1.2.2.2.1 F.2.1.1 hW.1 i (wl_at hi hμ) hc k hk (F.1.2.2.2.2 _ hlink) (fun _ h => h) hv hdg kk
theorem nv_put (F : Fx cx p s m args c cc nL own) (hW : St cx s μ H locs) {i ci index N : Nat} {fs : List Value} {C : String} {T : u_T} (hi : i < xN cx) (hμ : μ i = .inr (ci, fs)) (hc : classes[ci]? = some (C, T, N)) (hin : ∀ w ∈ u_ws C T N, w ∈ TB) (ty0 : Nat → FieldType) (hty : ∀ k, k < N → parseFieldDescriptor (T k).2.2.1 = some (ty0 k)) (hnm : ∀ a, a < N → ∀ b, b < N → a ≠ b → (T a).2.1 ≠ (T b).2.1) (k : Nat) (hk : k < N)
    (hlink : Cond.fieldLink own index (T k).1 (T k).2.1 (T k).2.2.1 ∈ TB) (hfin : (T k).2.2.2 = false) {v : Value} (hn : narrow (ty0 k) v = v) (hfit : fits (ty0 k) v = true) (hl : k < fs.length) (hdg : decode cc pc = .ok (.putfield index, 3))
    (kk : ∀ (H1 : Heap) (locs1 : List Loc), St cx s (va_up μ i (.inr (ci, fs.set k v))) H1 locs1 → W p l e R s m args below meth c H1 locs1 cells slots Q (F0 m (pc + 3) ls rest)) : W p l e R s m args below meth c H locs cells slots Q (F0 m pc ls (v :: .ref (xa cx i) :: rest)) :=
  va_put F.1.1 F.1.2.1 F.1.2.2.2.2 hin ty0 hty hnm F.1.2.2.2.1 F.2.1.1 hW.1 (wl_D F.2.2 μ) hW.2 i (wl_at hi hμ) hc k hk (F.1.2.2.2.2 _ hlink) (fun _ h => h) hfin (hty k hk) hn hfit hl hdg (fun H1 locs1 h1 _ h3 => kk H1 locs1 ⟨by rw [wl_set] at h1; exact h1, h3⟩)
theorem nv_iald (F : Fx cx p s m args c cc nL own) (hW : St cx s μ H locs) {i n : Nat} {f : Nat → Int32} {j : Int32} (hi : i < xN cx) (hμ : μ i = .inl (xT cx 0, n, .inl f)) (hj : vp_in j n) (hdg : decode cc pc = .ok (.iaload, 1))
    (kk : W p l e R s m args below meth c H locs cells slots Q (F0 m (pc + 1) ls (.int (f j.toNatClampNeg) :: rest))) : W p l e R s m args below meth c H locs cells slots Q (F0 m pc ls (.int j :: .ref (xa cx i) :: rest)) :=
  va_iald F.1.1 F.1.2.1 F.2.1.1 hW.1 i 0 (wl_at hi hμ) rfl hj hdg kk
theorem nv_ialdN (F : Fx cx p s m args c cc nL own) (hW : St cx s μ H locs) {i n j : Nat} {f : Nat → Int32} {x : Int32} (hi : i < xN cx) (hμ : μ i = .inl (xT cx 0, n, .inl f)) (hj : j < n) (hn : n < 2147483648) (hx : f j = x) (hdg : decode cc pc = .ok (.iaload, 1))
    (kk : W p l e R s m args below meth c H locs cells slots Q (F0 m (pc + 1) ls (.int x :: rest))) : W p l e R s m args below meth c H locs cells slots Q (F0 m pc ls (.int (nI j) :: .ref (xa cx i) :: rest)) :=
  nv_iald F hW hi hμ (vp_in_nI hj hn) hdg (by rw [nI_clamp (Nat.lt_trans hj hn), hx]; exact kk)
theorem nv_caldN (F : Fx cx p s m args c cc nL own) (hW : St cx s μ H locs) {i n j : Nat} {f : Nat → Int32} {x : Int32} (hi : i < xN cx) (hμ : μ i = .inl (xT cx 1, n, .inl f)) (hj : j < n) (hn : n < 2147483648) (hx : f j = x) (hdg : decode cc pc = .ok (.caload, 1))
    (kk : W p l e R s m args below meth c H locs cells slots Q (F0 m (pc + 1) ls (.int x :: rest))) : W p l e R s m args below meth c H locs cells slots Q (F0 m pc ls (.int (nI j) :: .ref (xa cx i) :: rest)) :=
  va_cald F.1.1 F.1.2.1 F.2.1.1 hW.1 i 1 (wl_at hi hμ) rfl (vp_in_nI hj hn) hdg (by rw [nI_clamp (Nat.lt_trans hj hn), hx]; exact kk)
theorem nv_zaldN (F : Fx cx p s m args c cc nL own) (hW : St cx s μ H locs) {i n j : Nat} {f : Nat → Int32} {x : Int32} (hi : i < xN cx) (hμ : μ i = .inl (xT cx 2, n, .inl f)) (hj : j < n) (hn : n < 2147483648) (hx : f j = x) (hdg : decode cc pc = .ok (.baload, 1))
    (kk : W p l e R s m args below meth c H locs cells slots Q (F0 m (pc + 1) ls (.int x :: rest))) : W p l e R s m args below meth c H locs cells slots Q (F0 m pc ls (.int (nI j) :: .ref (xa cx i) :: rest)) :=
  va_zald F.1.1 F.1.2.1 F.2.1.1 hW.1 i 2 (wl_at hi hμ) rfl (vp_in_nI hj hn) hdg (by rw [nI_clamp (Nat.lt_trans hj hn), hx]; exact kk)
theorem nv_aaldN (F : Fx cx p s m args c cc nL own) (hW : St cx s μ H locs) {i n j a : Nat} {f : Nat → Option Nat} (hi : i < xN cx) (hμ : μ i = .inl (xT cx 3, n, .inr (.inr (.inr (.inr f))))) (hj : j < n) (hn : n < 2147483648) (hx : f j = some a) (hdg : decode cc pc = .ok (.aaload, 1))
    (kk : W p l e R s m args below meth c H locs cells slots Q (F0 m (pc + 1) ls (.ref a :: rest))) : W p l e R s m args below meth c H locs cells slots Q (F0 m pc ls (.int (nI j) :: .ref (xa cx i) :: rest)) :=
  va_aldq F.1.1 F.1.2.1 F.2.1.1 hW.1 i 3 (wl_at hi hμ) rfl (vp_in_nI hj hn) hdg (by rw [nI_clamp (Nat.lt_trans hj hn), hx]; exact kk)
theorem nv_iastN (F : Fx cx p s m args c cc nL own) (hW : St cx s μ H locs) {i n j : Nat} {f : Nat → Int32} {x : Int32} (hi : i < xN cx) (hμ : μ i = .inl (xT cx 0, n, .inl f)) (hj : j < n) (hn : n < 2147483648) (hdg : decode cc pc = .ok (.iastore, 1))
    (kk : ∀ (H1 : Heap) (locs1 : List Loc), St cx s (va_up μ i (.inl (xT cx 0, n, .inl (upd f j x)))) H1 locs1 → W p l e R s m args below meth c H1 locs1 cells slots Q (F0 m (pc + 1) ls rest)) : W p l e R s m args below meth c H locs cells slots Q (F0 m pc ls (.int x :: .int (nI j) :: .ref (xa cx i) :: rest)) :=
  va_iast F.1.1 F.1.2.1 F.2.1.1 hW.1 (wl_D F.2.2 μ) hW.2 i 0 (wl_at hi hμ) rfl (vp_in_nI hj hn) hdg (fun H1 locs1 h1 _ h3 => kk H1 locs1 ⟨by rw [wl_set, nI_clamp (Nat.lt_trans hj hn)] at h1; exact h1, h3⟩)
theorem nv_castN (F : Fx cx p s m args c cc nL own) (hW : St cx s μ H locs) {i n j : Nat} {f : Nat → Int32} {x : Int32} (hi : i < xN cx) (hμ : μ i = .inl (xT cx 1, n, .inl f)) (hj : j < n) (hn : n < 2147483648) (hx : vp_nar .char x = x) (hdg : decode cc pc = .ok (.castore, 1))
    (kk : ∀ (H1 : Heap) (locs1 : List Loc), St cx s (va_up μ i (.inl (xT cx 1, n, .inl (upd f j x)))) H1 locs1 → W p l e R s m args below meth c H1 locs1 cells slots Q (F0 m (pc + 1) ls rest)) : W p l e R s m args below meth c H locs cells slots Q (F0 m pc ls (.int x :: .int (nI j) :: .ref (xa cx i) :: rest)) :=
  va_cast F.1.1 F.1.2.1 F.2.1.1 hW.1 (wl_D F.2.2 μ) hW.2 i 1 (wl_at hi hμ) rfl (vp_in_nI hj hn) hdg (fun H1 locs1 h1 _ h3 => kk H1 locs1 ⟨by rw [wl_set, nI_clamp (Nat.lt_trans hj hn), hx] at h1; exact h1, h3⟩)
theorem nv_zastN (F : Fx cx p s m args c cc nL own) (hW : St cx s μ H locs) {i n j : Nat} {f : Nat → Int32} {x : Int32} (hi : i < xN cx) (hμ : μ i = .inl (xT cx 2, n, .inl f)) (hj : j < n) (hn : n < 2147483648) (hx : vp_nar .boolean x = x) (hdg : decode cc pc = .ok (.bastore, 1))
    (kk : ∀ (H1 : Heap) (locs1 : List Loc), St cx s (va_up μ i (.inl (xT cx 2, n, .inl (upd f j x)))) H1 locs1 → W p l e R s m args below meth c H1 locs1 cells slots Q (F0 m (pc + 1) ls rest)) : W p l e R s m args below meth c H locs cells slots Q (F0 m pc ls (.int x :: .int (nI j) :: .ref (xa cx i) :: rest)) :=
  va_zast F.1.1 F.1.2.1 F.2.1.1 hW.1 (wl_D F.2.2 μ) hW.2 i 2 (wl_at hi hμ) rfl (vp_in_nI hj hn) hdg (fun H1 locs1 h1 _ h3 => kk H1 locs1 ⟨by rw [wl_set, nI_clamp (Nat.lt_trans hj hn), hx] at h1; exact h1, h3⟩)
/-- System.arraycopy between two different int rows, from 0 to 0 -/
theorem nv_copy (F : Fx cx p s m args c cc nL own) (hW : St cx s μ H locs) (hl : ls.size = nL) {index i j n0 n1 n : Nat} {f g : Nat → Int32} (hlink : Cond.methodLink own index arraycopyName ∈ TB) (hnat : Cond.native arraycopyName ∈ TB) (hst : Cond.static arraycopyName ∈ TB) (hini : Cond.initialized "java/lang/System" ∈ TB)
    (hi : i < xN cx) (hj : j < xN cx) (hμ : μ i = .inl (xT cx 0, n0, .inl f)) (hν : μ j = .inl (xT cx 0, n1, .inl g)) (h0 : n ≤ n0) (h1 : n ≤ n1) (hn : n < 2147483648) (hfr : 1 ≤ R.frames) (hlo : (rest.map fun v => v.category).sum + (nativeFrameWords "java/lang/System" "arraycopy" 5 + 11) ≤ R.locals) (hdg : decode cc pc = .ok (.invokestatic index, 3))
    (kk : ∀ (H1 : Heap) (locs1 : List Loc), St cx s (va_up μ j (.inl (xT cx 0, n1, .inl (va_cpy f g 0 0 n)))) H1 locs1 → W p l e R s m args below meth c H1 locs1 cells slots Q (F0 m (pc + 3) ls rest)) : W p l e R s m args below meth c H locs cells slots Q (F0 m pc ls (.int (nI n) :: .int (nI 0) :: .ref (xa cx j) :: .int (nI 0) :: .ref (xa cx i) :: rest)) := by
  have c0 : (nI 0).toNatClampNeg = 0 := nI_clamp (by omega)
  have cn : (nI n).toNatClampNeg = n := nI_clamp hn
  refine va_copyi (ty := .int) F.1.1 F.1.2.1 (F.1.2.2.1.trans hl.symm) F.1.2.2.2.1 (F.1.2.2.2.2 _ hlink) (F.1.2.2.2.2 _ hnat) (F.1.2.2.2.2 _ hst) (F.1.2.2.2.2 _ hini) F.2.1.1 hW.1 (wl_D F.2.2 μ) hW.2 i j 0 0 (wl_at hi hμ) (wl_at hj hν) rfl rfl rfl (nI_pos (by omega)) (nI_pos (by omega)) (nI_pos hn) (by rw [c0, cn]; omega) (by rw [c0, cn]; omega) (fun _ _ => rfl) hfr hlo hdg (fun H1 locs1 h1 _ h3 => kk H1 locs1 ⟨?_, h3⟩)
  rw [wl_set, c0, cn] at h1
  exact h1
/-- what a virtual call needs of the tables -/
def CV (own : String) (index : Nat) (C : String) (y : MethodName) (bytes : ByteArray) (maxL : Nat) (ret : Option FieldType) (n : Nat) : Prop := GoodIn TB (wsV own index C y (WT y bytes maxL ret)) ∧ y.cls = C ∧ y.cls ≠ "java/lang/invoke/MethodHandle" ∧ y.cls ≠ "java/lang/invoke/VarHandle" ∧ (parseMethodDescriptor y.desc).map (fun d => d.parameters.length) = some n
def CS (own : String) (index : Nat) (y : MethodName) (bytes : ByteArray) (maxL : Nat) (ret : Option FieldType) (n : Nat) : Prop := GoodIn TB (va_wsS own index y (WT y bytes maxL ret)) ∧ y.cls ≠ "java/lang/invoke/MethodHandle" ∧ y.cls ≠ "java/lang/invoke/VarHandle" ∧ (parseMethodDescriptor y.desc).map (fun d => d.parameters.length) = some n
theorem tb_good {w : Cond} (h : w ∈ TB) : w ∈ TB ∧ ((w.onTables && w.keeps) = true ∨ ∃ ty, w = .arrayClass ty) := ⟨h, good_of_word (List.all_eq_true.mp TB_good w h)⟩
theorem wt_good {y : MethodName} {bytes : ByteArray} {maxL : Nat} {ret : Option FieldType} (h : Cond.code y bytes maxL ret ∈ TB) : GoodIn TB (WT y bytes maxL ret) := by
  intro w hw
  rcases List.mem_cons.mp hw with rfl | hw
  · exact tb_good h
  · exact tb_good hw
theorem cv_mk {C : String} {index n maxL : Nat} {y : MethodName} {bytes : ByteArray} {ret : Option FieldType} (h1 : Cond.methodLink own index y ∈ TB) (h2 : Cond.instanceMethod y ∈ TB) (h3 : Cond.selects C y y ∈ TB) (h4 : Cond.initialized C ∈ TB) (h5 : Cond.code y bytes maxL ret ∈ TB) (hd : y.cls = C ∧ y.cls ≠ "java/lang/invoke/MethodHandle" ∧ y.cls ≠ "java/lang/invoke/VarHandle" ∧ (parseMethodDescriptor y.desc).map (fun d => d.parameters.length) = some n) : CV own index C y bytes maxL ret n := by
  refine ⟨fun w hw => ?_, hd⟩
  rcases List.mem_append.mp hw with hw | hw
  · simp only [List.mem_cons, List.not_mem_nil, or_false] at hw
    rcases hw with rfl | rfl | rfl | rfl
    · exact tb_good h1
    · exact tb_good h2
    · exact tb_good h3
    · exact tb_good h4
  · exact wt_good h5 w hw
theorem cs_mk {index n maxL : Nat} {y : MethodName} {bytes : ByteArray} {ret : Option FieldType} (h1 : Cond.methodLink own index y ∈ TB) (h2 : Cond.static y ∈ TB) (h4 : Cond.initialized y.cls ∈ TB) (h5 : Cond.code y bytes maxL ret ∈ TB) (hd : y.cls ≠ "java/lang/invoke/MethodHandle" ∧ y.cls ≠ "java/lang/invoke/VarHandle" ∧ (parseMethodDescriptor y.desc).map (fun d => d.parameters.length) = some n) : CS own index y bytes maxL ret n := by
  refine ⟨fun w hw => ?_, hd⟩
  rcases List.mem_append.mp hw with hw | hw
  · simp only [List.mem_cons, List.not_mem_nil, or_false] at hw
    rcases hw with rfl | rfl | rfl
    · exact tb_good h1
    · exact tb_good h2
    · exact tb_good h4
  · exact wt_good h5 w hw
variable {y : MethodName} {bytes : ByteArray} {maxL fr lo n index i ci N : Nat} {ret : Option FieldType} {C : String} {T : u_T} {fs As st0 : List Value} {lv : List (Nat × Value)}
theorem cl_run {Qc : Array Value → State → Outcome → State → Prop} (F : Fx cx p s m args c cc nL own) (hW : St cx s μ H locs) (hg : CV own index C y bytes maxL ret n) (hM : MT cx l y bytes maxL ret fr lo (.ref (xa cx i) :: As) μ Qc) (hR : fr + 1 ≤ R.frames ∧ 8 + (maxL + 11) + lo ≤ R.locals) (hi : i < xN cx) (hμ : μ i = .inr (ci, fs)) (hc : classes[ci]? = some (C, T, N)) (hn : As.length = n) (hst : st0 = As.reverse ++ .ref (xa cx i) :: rest) (hl : lv_has ls nL lv) (hrm : (rest.map fun v => v.category).sum ≤ 8) (hdg : decode cc pc = .ok (.invokevirtual index, 3)) (hz : cells ≤ R.cells ∧ slots ≤ R.slots) :
    va_Run p l e R s m args below meth c H locs cells slots 0 0 (F0 m pc ls st0) rest (Qc (Value.ref (xa cx i) :: As).toArray) (xA cx) :=
  va_runV (C := C) F.1 hM (cwV n F.1.2.2.2.2 hg.1 rfl rfl rfl hg.2 hR) ⟨WD_blind, va_recv F.2.1.1 hW.1 hc (wl_at hi hμ), fun U hU hV => ⟨rfl, WD_at hW.1 F.2.1 hU hV⟩⟩ rfl hn hl.1 hst (lv_room hrm) hdg hz
theorem cl_runS {Qc : Array Value → State → Outcome → State → Prop} (F : Fx cx p s m args c cc nL own) (hW : St cx s μ H locs) (hg : CS own index y bytes maxL ret n) (hM : MT cx l y bytes maxL ret fr lo As μ Qc) (hR : fr + 1 ≤ R.frames ∧ 8 + (maxL + 11) + lo ≤ R.locals) (hn : As.length = n) (hst : st0 = As.reverse ++ rest) (hl : lv_has ls nL lv) (hrm : (rest.map fun v => v.category).sum ≤ 8) (hdg : decode cc pc = .ok (.invokestatic index, 3)) (hz : cells ≤ R.cells ∧ slots ≤ R.slots) :
    va_Run p l e R s m args below meth c H locs cells slots 0 0 (F0 m pc ls st0) rest (Qc As.toArray) (xA cx) :=
  va_runS F.1 hM (va_cwS n F.1.2.2.2.2 hg.1 rfl rfl rfl hg.2 hR) ⟨WD_blind, fun U hU hV => ⟨rfl, WD_at hW.1 F.2.1 hU hV⟩⟩ rfl hn hl.1 hst (lv_room hrm) hdg hz
theorem cl_i {post : Int32 → ME → Prop} {a : Array Value} (hr : va_Run p l e R s m args below meth c H locs cells slots 0 0 (F0 m pc ls st0) rest (Qi cx post a) (xA cx)) (hW : St cx s μ H locs)
    (kk : ∀ (r : Int32) (μ1 : ME) (H1 : Heap) (locs1 : List Loc), post r μ1 → St cx s μ1 H1 locs1 → W p l e R s m args below meth c H1 locs1 cells slots Q (F0 m (pc + 3) ls (.int r :: rest))) : W p l e R s m args below meth c H locs cells slots Q (F0 m pc ls st0) :=
  va_calli hr hW.2 (fun _ _ h => h) (fun _ h => h) (fun r u t H1 locs1 ht _ hp hB _ _ hS => kk r u H1 locs1 hp ⟨by rw [← ht]; exact hB, hS⟩)
theorem cl_l {post : Int64 → ME → Prop} {a : Array Value} (hr : va_Run p l e R s m args below meth c H locs cells slots 0 0 (F0 m pc ls st0) rest (Ql cx post a) (xA cx)) (hW : St cx s μ H locs)
    (kk : ∀ (r : Int64) (μ1 : ME) (H1 : Heap) (locs1 : List Loc), post r μ1 → St cx s μ1 H1 locs1 → W p l e R s m args below meth c H1 locs1 cells slots Q (F0 m (pc + 3) ls (.long r :: rest))) : W p l e R s m args below meth c H locs cells slots Q (F0 m pc ls st0) :=
  va_calll hr hW.2 (fun _ _ h => h) (fun _ h => h) (fun r u t H1 locs1 ht _ hp hB _ _ hS => kk r u H1 locs1 hp ⟨by rw [← ht]; exact hB, hS⟩)
theorem cl_v {post : ME → Prop} {a : Array Value} (hr : va_Run p l e R s m args below meth c H locs cells slots 0 0 (F0 m pc ls st0) rest (Qv cx post a) (xA cx)) (hW : St cx s μ H locs)
    (kk : ∀ (μ1 : ME) (H1 : Heap) (locs1 : List Loc), post μ1 → St cx s μ1 H1 locs1 → W p l e R s m args below meth c H1 locs1 cells slots Q (F0 m (pc + 3) ls rest)) : W p l e R s m args below meth c H locs cells slots Q (F0 m pc ls st0) :=
  va_callv hr hW.2 (fun _ _ h => h) (fun _ h => h) (fun u t H1 locs1 ht _ hp hB _ _ hS => kk u H1 locs1 hp ⟨by rw [← ht]; exact hB, hS⟩)
end KIT
end
section
/-! rows over small numbers: nI a -/
def b2 (b : Bool) : Int32 := if b then 1 else 0
theorem b2_nar (b : Bool) : narrow .boolean (.int (b2 b)) = .int (b2 b) := by cases b <;> rfl
theorem b2_vnar (b : Bool) : vp_nar .boolean (b2 b) = b2 b := by cases b <;> rfl
theorem b2_n (b : Bool) : b2 b = nI (if b then 1 else 0) := by cases b <;> rfl
theorem b2_0 (b : Bool) : b2 b = 0 ↔ b = false := by cases b <;> decide
theorem b2_inj {a b : Bool} : b2 a = b2 b ↔ a = b := by cases a <;> cases b <;> decide
theorem sm_l : ∀ n, n < 32 → ((nI n &&& 31).toBitVec.smod 32).toNat = n := by decide +kernel
theorem nI_and (a b : Nat) : nI a &&& nI b = nI (a &&& b) := by
  apply Int32.toBitVec_inj.1
  show BitVec.ofNat 32 a &&& BitVec.ofNat 32 b = BitVec.ofNat 32 (a &&& b)
  apply BitVec.eq_of_getLsbD_eq
  intro i hi
  simp [hi]
theorem nI_or (a b : Nat) : nI a ||| nI b = nI (a ||| b) := by
  apply Int32.toBitVec_inj.1
  show BitVec.ofNat 32 a ||| BitVec.ofNat 32 b = BitVec.ofNat 32 (a ||| b)
  apply BitVec.eq_of_getLsbD_eq
  intro i hi
  simp [hi]
theorem nI_shl {a k : Nat} (hk : k < 32) (h : a * 2 ^ k < 4294967296) : nI a <<< (nI k &&& 31) = nI (a * 2 ^ k) := pk_shlN _ k (sm_l k hk) h
theorem nI_shr {a k : Nat} (ha : a < 2147483648) (hk : k < 32) : nI a >>> (nI k &&& 31) = nI (a / 2 ^ k) := pk_shrN ha _ k (sm_l k hk)
def inR (h : Int32) (n : Nat) : Bool := decide (0 ≤ h.toInt ∧ h.toInt < n)
theorem inR_nI {j n : Nat} (hj : j < 2147483648) : inR (nI j) n = decide (j < n) := by
  unfold inR
  rw [nI_toInt hj]
  congr 1
  apply propext
  omega
theorem inR_of {h : Int32} {n : Nat} (e : inR h n = true) (hn : n < 2147483648) : ∃ j : Nat, j < n ∧ h = nI j := by
  have e2 := of_decide_eq_true e
  exact vp_in_of (vp_in_iff.mpr e2) hn
theorem inR_neg {h : Int32} {n : Nat} (c : h < 0) : inR h n = false := by
  apply decide_eq_false
  have := Int32.lt_iff_toInt_lt.mp c
  have e : (0 : Int32).toInt = 0 := rfl
  omega
theorem inR_ge {h : Int32} {n : Nat} (hn : n < 2147483648) (c : nI n ≤ h) : inR h n = false := by
  apply decide_eq_false
  have := Int32.le_iff_toInt_le.mp c
  rw [nI_toInt hn] at this
  omega
theorem inR_in {h : Int32} {n : Nat} (hn : n < 2147483648) (c : ¬ h < 0) (d : ¬ nI n ≤ h) : inR h n = true := by
  apply decide_eq_true
  have e : (0 : Int32).toInt = 0 := rfl
  rw [Int32.lt_iff_toInt_lt] at c
  rw [Int32.le_iff_toInt_le, nI_toInt hn] at d
  omega
section NUM
variable {cx : CX} {p : Program} {l : Launch} {e : Env} {R : Room} {s : State} {m : MethodId} {args : Array Value} {below : List Frame} {meth : Method} {c : Code} {H : Heap} {locs : List Loc} {cells slots : Nat} {Q : State → Prop}
variable {cc : ByteArray} {pc nL : Nat} {ls : Array Slot} {rest : List Value} {own : String}
theorem nv_add (F : Fx cx p s m args c cc nL own) {a b : Nat} (hdg : decode cc pc = .ok (.iadd, 1)) (k : W p l e R s m args below meth c H locs cells slots Q (F0 m (pc + 1) ls (.int (nI (a + b)) :: rest))) : W p l e R s m args below meth c H locs cells slots Q (F0 m pc ls (.int (nI b) :: .int (nI a) :: rest)) := lv_iadd F.1.1 F.1.2.1 hdg (by rw [nI_add]; exact k)
theorem nv_mul (F : Fx cx p s m args c cc nL own) {a b : Nat} (hdg : decode cc pc = .ok (.imul, 1)) (k : W p l e R s m args below meth c H locs cells slots Q (F0 m (pc + 1) ls (.int (nI (a * b)) :: rest))) : W p l e R s m args below meth c H locs cells slots Q (F0 m pc ls (.int (nI b) :: .int (nI a) :: rest)) := lv_imul F.1.1 F.1.2.1 hdg (by rw [pk_mul]; exact k)
theorem nv_sub (F : Fx cx p s m args c cc nL own) {a b : Nat} (h : b ≤ a) (hdg : decode cc pc = .ok (.isub, 1)) (k : W p l e R s m args below meth c H locs cells slots Q (F0 m (pc + 1) ls (.int (nI (a - b)) :: rest))) : W p l e R s m args below meth c H locs cells slots Q (F0 m pc ls (.int (nI b) :: .int (nI a) :: rest)) := lv_isub F.1.1 F.1.2.1 hdg (by rw [pk_sub h]; exact k)
theorem nv_div (F : Fx cx p s m args c cc nL own) {a b : Nat} (ha : a < 2147483648) (h0 : 0 < b) (hd : b < 2147483648) (hdg : decode cc pc = .ok (.idiv, 1)) (k : W p l e R s m args below meth c H locs cells slots Q (F0 m (pc + 1) ls (.int (nI (a / b)) :: rest))) : W p l e R s m args below meth c H locs cells slots Q (F0 m pc ls (.int (nI b) :: .int (nI a) :: rest)) := lv_idiv F.1.1 F.1.2.1 hdg (nI_ne0 h0 hd) (by rw [pk_div ha h0 hd]; exact k)
theorem nv_rem (F : Fx cx p s m args c cc nL own) {a b : Nat} (ha : a < 2147483648) (h0 : 0 < b) (hd : b < 2147483648) (hdg : decode cc pc = .ok (.irem, 1)) (k : W p l e R s m args below meth c H locs cells slots Q (F0 m (pc + 1) ls (.int (nI (a % b)) :: rest))) : W p l e R s m args below meth c H locs cells slots Q (F0 m pc ls (.int (nI b) :: .int (nI a) :: rest)) := lv_irem F.1.1 F.1.2.1 hdg (nI_ne0 h0 hd) (by rw [pk_rem ha h0 hd]; exact k)
theorem nv_and (F : Fx cx p s m args c cc nL own) {a b : Nat} (hdg : decode cc pc = .ok (.iand, 1)) (k : W p l e R s m args below meth c H locs cells slots Q (F0 m (pc + 1) ls (.int (nI (a &&& b)) :: rest))) : W p l e R s m args below meth c H locs cells slots Q (F0 m pc ls (.int (nI b) :: .int (nI a) :: rest)) := lv_iand F.1.1 F.1.2.1 hdg (by rw [nI_and]; exact k)
theorem nv_or (F : Fx cx p s m args c cc nL own) {a b : Nat} (hdg : decode cc pc = .ok (.ior, 1)) (k : W p l e R s m args below meth c H locs cells slots Q (F0 m (pc + 1) ls (.int (nI (a ||| b)) :: rest))) : W p l e R s m args below meth c H locs cells slots Q (F0 m pc ls (.int (nI b) :: .int (nI a) :: rest)) := lv_ior F.1.1 F.1.2.1 hdg (by rw [nI_or]; exact k)
theorem nv_shl (F : Fx cx p s m args c cc nL own) {a b : Nat} (hk : b < 32) (h : a * 2 ^ b < 4294967296) (hdg : decode cc pc = .ok (.ishl, 1)) (k : W p l e R s m args below meth c H locs cells slots Q (F0 m (pc + 1) ls (.int (nI (a * 2 ^ b)) :: rest))) : W p l e R s m args below meth c H locs cells slots Q (F0 m pc ls (.int (nI b) :: .int (nI a) :: rest)) := lv_ishl F.1.1 F.1.2.1 hdg (by rw [nI_shl hk h]; exact k)
theorem nv_shr (F : Fx cx p s m args c cc nL own) {a b : Nat} (ha : a < 2147483648) (hk : b < 32) (hdg : decode cc pc = .ok (.ishr, 1)) (k : W p l e R s m args below meth c H locs cells slots Q (F0 m (pc + 1) ls (.int (nI (a / 2 ^ b)) :: rest))) : W p l e R s m args below meth c H locs cells slots Q (F0 m pc ls (.int (nI b) :: .int (nI a) :: rest)) := lv_ishr F.1.1 F.1.2.1 hdg (by rw [nI_shr ha hk]; exact k)
theorem nv_ceq (F : Fx cx p s m args c cc nL own) {a b : Nat} {off : Int} {tgt : Nat} (ha : a < 2147483648) (hb : b < 2147483648) (hdg : decode cc pc = .ok (.if_icmp .eq off, 3)) (ht : (pc : Int) + off = (tgt : Int)) (kt : a = b → W p l e R s m args below meth c H locs cells slots Q (F0 m tgt ls rest)) (kf : ¬ a = b → W p l e R s m args below meth c H locs cells slots Q (F0 m (pc + 3) ls rest)) : W p l e R s m args below meth c H locs cells slots Q (F0 m pc ls (.int (nI b) :: .int (nI a) :: rest)) := lv_icmp_eq F.1.1 F.1.2.1 hdg ht (fun h => kt ((nI_eq ha hb).mp h)) (fun h => kf (fun q => h ((nI_eq ha hb).mpr q)))
theorem nv_cne (F : Fx cx p s m args c cc nL own) {a b : Nat} {off : Int} {tgt : Nat} (ha : a < 2147483648) (hb : b < 2147483648) (hdg : decode cc pc = .ok (.if_icmp .ne off, 3)) (ht : (pc : Int) + off = (tgt : Int)) (kt : ¬ a = b → W p l e R s m args below meth c H locs cells slots Q (F0 m tgt ls rest)) (kf : a = b → W p l e R s m args below meth c H locs cells slots Q (F0 m (pc + 3) ls rest)) : W p l e R s m args below meth c H locs cells slots Q (F0 m pc ls (.int (nI b) :: .int (nI a) :: rest)) := lv_icmp_ne F.1.1 F.1.2.1 hdg ht (fun h => kt (fun q => h ((nI_eq ha hb).mpr q))) (fun h => kf ((nI_eq ha hb).mp h))
theorem nv_clt (F : Fx cx p s m args c cc nL own) {a b : Nat} {off : Int} {tgt : Nat} (ha : a < 2147483648) (hb : b < 2147483648) (hdg : decode cc pc = .ok (.if_icmp .lt off, 3)) (ht : (pc : Int) + off = (tgt : Int)) (kt : a < b → W p l e R s m args below meth c H locs cells slots Q (F0 m tgt ls rest)) (kf : ¬ a < b → W p l e R s m args below meth c H locs cells slots Q (F0 m (pc + 3) ls rest)) : W p l e R s m args below meth c H locs cells slots Q (F0 m pc ls (.int (nI b) :: .int (nI a) :: rest)) := lv_icmp_lt F.1.1 F.1.2.1 hdg ht (fun h => kt ((nI_ltI ha hb).mp h)) (fun h => kf (fun q => h ((nI_ltI ha hb).mpr q)))
theorem nv_cge (F : Fx cx p s m args c cc nL own) {a b : Nat} {off : Int} {tgt : Nat} (ha : a < 2147483648) (hb : b < 2147483648) (hdg : decode cc pc = .ok (.if_icmp .ge off, 3)) (ht : (pc : Int) + off = (tgt : Int)) (kt : b ≤ a → W p l e R s m args below meth c H locs cells slots Q (F0 m tgt ls rest)) (kf : ¬ b ≤ a → W p l e R s m args below meth c H locs cells slots Q (F0 m (pc + 3) ls rest)) : W p l e R s m args below meth c H locs cells slots Q (F0 m pc ls (.int (nI b) :: .int (nI a) :: rest)) := lv_icmp_ge F.1.1 F.1.2.1 hdg ht (fun h => kt ((nI_leI hb ha).mp h)) (fun h => kf (fun q => h ((nI_leI hb ha).mpr q)))
theorem nv_cgt (F : Fx cx p s m args c cc nL own) {a b : Nat} {off : Int} {tgt : Nat} (ha : a < 2147483648) (hb : b < 2147483648) (hdg : decode cc pc = .ok (.if_icmp .gt off, 3)) (ht : (pc : Int) + off = (tgt : Int)) (kt : b < a → W p l e R s m args below meth c H locs cells slots Q (F0 m tgt ls rest)) (kf : ¬ b < a → W p l e R s m args below meth c H locs cells slots Q (F0 m (pc + 3) ls rest)) : W p l e R s m args below meth c H locs cells slots Q (F0 m pc ls (.int (nI b) :: .int (nI a) :: rest)) := lv_icmp_gt F.1.1 F.1.2.1 hdg ht (fun h => kt ((nI_ltI hb ha).mp h)) (fun h => kf (fun q => h ((nI_ltI hb ha).mpr q)))
theorem nv_cle (F : Fx cx p s m args c cc nL own) {a b : Nat} {off : Int} {tgt : Nat} (ha : a < 2147483648) (hb : b < 2147483648) (hdg : decode cc pc = .ok (.if_icmp .le off, 3)) (ht : (pc : Int) + off = (tgt : Int)) (kt : a ≤ b → W p l e R s m args below meth c H locs cells slots Q (F0 m tgt ls rest)) (kf : ¬ a ≤ b → W p l e R s m args below meth c H locs cells slots Q (F0 m (pc + 3) ls rest)) : W p l e R s m args below meth c H locs cells slots Q (F0 m pc ls (.int (nI b) :: .int (nI a) :: rest)) := lv_icmp_le F.1.1 F.1.2.1 hdg ht (fun h => kt ((nI_leI ha hb).mp h)) (fun h => kf (fun q => h ((nI_leI ha hb).mpr q)))
theorem nv_zeq (F : Fx cx p s m args c cc nL own) {a : Nat} {off : Int} {tgt : Nat} (ha : a < 2147483648) (hdg : decode cc pc = .ok (.ifCond .eq off, 3)) (ht : (pc : Int) + off = (tgt : Int)) (kt : a = 0 → W p l e R s m args below meth c H locs cells slots Q (F0 m tgt ls rest)) (kf : ¬ a = 0 → W p l e R s m args below meth c H locs cells slots Q (F0 m (pc + 3) ls rest)) : W p l e R s m args below meth c H locs cells slots Q (F0 m pc ls (.int (nI a) :: rest)) := lv_if_eq F.1.1 F.1.2.1 hdg ht (fun h => kt ((nI_eq ha (show 0 < 2147483648 by decide)).mp h)) (fun h => kf (fun q => h ((nI_eq ha (show 0 < 2147483648 by decide)).mpr q)))
theorem nv_zne (F : Fx cx p s m args c cc nL own) {a : Nat} {off : Int} {tgt : Nat} (ha : a < 2147483648) (hdg : decode cc pc = .ok (.ifCond .ne off, 3)) (ht : (pc : Int) + off = (tgt : Int)) (kt : ¬ a = 0 → W p l e R s m args below meth c H locs cells slots Q (F0 m tgt ls rest)) (kf : a = 0 → W p l e R s m args below meth c H locs cells slots Q (F0 m (pc + 3) ls rest)) : W p l e R s m args below meth c H locs cells slots Q (F0 m pc ls (.int (nI a) :: rest)) := lv_if_ne F.1.1 F.1.2.1 hdg ht (fun h => kt (fun q => h ((nI_eq ha (show 0 < 2147483648 by decide)).mpr q))) (fun h => kf ((nI_eq ha (show 0 < 2147483648 by decide)).mp h))
theorem nv_zlt (F : Fx cx p s m args c cc nL own) {a : Nat} {off : Int} {tgt : Nat} (ha : a < 2147483648) (hdg : decode cc pc = .ok (.ifCond .lt off, 3)) (ht : (pc : Int) + off = (tgt : Int)) (kt : a < 0 → W p l e R s m args below meth c H locs cells slots Q (F0 m tgt ls rest)) (kf : ¬ a < 0 → W p l e R s m args below meth c H locs cells slots Q (F0 m (pc + 3) ls rest)) : W p l e R s m args below meth c H locs cells slots Q (F0 m pc ls (.int (nI a) :: rest)) := lv_if_lt F.1.1 F.1.2.1 hdg ht (fun h => kt ((nI_ltI ha (show 0 < 2147483648 by decide)).mp h)) (fun h => kf (fun q => h ((nI_ltI ha (show 0 < 2147483648 by decide)).mpr q)))
theorem nv_zge (F : Fx cx p s m args c cc nL own) {a : Nat} {off : Int} {tgt : Nat} (ha : a < 2147483648) (hdg : decode cc pc = .ok (.ifCond .ge off, 3)) (ht : (pc : Int) + off = (tgt : Int)) (kt : 0 ≤ a → W p l e R s m args below meth c H locs cells slots Q (F0 m tgt ls rest)) (kf : ¬ 0 ≤ a → W p l e R s m args below meth c H locs cells slots Q (F0 m (pc + 3) ls rest)) : W p l e R s m args below meth c H locs cells slots Q (F0 m pc ls (.int (nI a) :: rest)) := lv_if_ge F.1.1 F.1.2.1 hdg ht (fun h => kt ((nI_leI (show 0 < 2147483648 by decide) ha).mp h)) (fun h => kf (fun q => h ((nI_leI (show 0 < 2147483648 by decide) ha).mpr q)))
theorem nv_zgt (F : Fx cx p s m args c cc nL own) {a : Nat} {off : Int} {tgt : Nat} (ha : a < 2147483648) (hdg : decode cc pc = .ok (.ifCond .gt off, 3)) (ht : (pc : Int) + off = (tgt : Int)) (kt : 0 < a → W p l e R s m args below meth c H locs cells slots Q (F0 m tgt ls rest)) (kf : ¬ 0 < a → W p l e R s m args below meth c H locs cells slots Q (F0 m (pc + 3) ls rest)) : W p l e R s m args below meth c H locs cells slots Q (F0 m pc ls (.int (nI a) :: rest)) := lv_if_gt F.1.1 F.1.2.1 hdg ht (fun h => kt ((nI_ltI (show 0 < 2147483648 by decide) ha).mp h)) (fun h => kf (fun q => h ((nI_ltI (show 0 < 2147483648 by decide) ha).mpr q)))
theorem nv_zle (F : Fx cx p s m args c cc nL own) {a : Nat} {off : Int} {tgt : Nat} (ha : a < 2147483648) (hdg : decode cc pc = .ok (.ifCond .le off, 3)) (ht : (pc : Int) + off = (tgt : Int)) (kt : a ≤ 0 → W p l e R s m args below meth c H locs cells slots Q (F0 m tgt ls rest)) (kf : ¬ a ≤ 0 → W p l e R s m args below meth c H locs cells slots Q (F0 m (pc + 3) ls rest)) : W p l e R s m args below meth c H locs cells slots Q (F0 m pc ls (.int (nI a) :: rest)) := lv_if_le F.1.1 F.1.2.1 hdg ht (fun h => kt ((nI_leI ha (show 0 < 2147483648 by decide)).mp h)) (fun h => kf (fun q => h ((nI_leI ha (show 0 < 2147483648 by decide)).mpr q)))
theorem nv_beq (F : Fx cx p s m args c cc nL own) {b : Bool} {off : Int} {tgt : Nat} (hdg : decode cc pc = .ok (.ifCond .eq off, 3)) (ht : (pc : Int) + off = (tgt : Int)) (kt : b = false → W p l e R s m args below meth c H locs cells slots Q (F0 m tgt ls rest)) (kf : b = true → W p l e R s m args below meth c H locs cells slots Q (F0 m (pc + 3) ls rest)) : W p l e R s m args below meth c H locs cells slots Q (F0 m pc ls (.int (b2 b) :: rest)) := lv_if_eq F.1.1 F.1.2.1 hdg ht (fun h => kt ((b2_0 b).mp h)) (fun h => kf (by cases b with | true => rfl | false => exact absurd rfl h))
theorem nv_bne (F : Fx cx p s m args c cc nL own) {b : Bool} {off : Int} {tgt : Nat} (hdg : decode cc pc = .ok (.ifCond .ne off, 3)) (ht : (pc : Int) + off = (tgt : Int)) (kt : b = true → W p l e R s m args below meth c H locs cells slots Q (F0 m tgt ls rest)) (kf : b = false → W p l e R s m args below meth c H locs cells slots Q (F0 m (pc + 3) ls rest)) : W p l e R s m args below meth c H locs cells slots Q (F0 m pc ls (.int (b2 b) :: rest)) := lv_if_ne F.1.1 F.1.2.1 hdg ht (fun h => kt (by cases b with | true => rfl | false => exact absurd rfl h)) (fun h => kf ((b2_0 b).mp h))
theorem nv_top {x y : Int32} (h : x = y) (k : W p l e R s m args below meth c H locs cells slots Q (F0 m pc ls (.int y :: rest))) : W p l e R s m args below meth c H locs cells slots Q (F0 m pc ls (.int x :: rest)) := by rw [h]; exact k
theorem nv_topl {x y : Int64} (h : x = y) (k : W p l e R s m args below meth c H locs cells slots Q (F0 m pc ls (.long y :: rest))) : W p l e R s m args below meth c H locs cells slots Q (F0 m pc ls (.long x :: rest)) := by rw [h]; exact k
end NUM
end
section
theorem e_X4_44 : CV RX4 44 RX3 yX3_append cX3_append 2 (some .boolean) 1 := cv_mk tw_177 tw_178 tw_179 tw_45 tw_180 (by decide +kernel)
theorem e_X4_48 : CV RX4 48 RX3 yX3_length cX3_length 1 (some .int) 0 := cv_mk tw_181 tw_182 tw_183 tw_45 tw_184 (by decide +kernel)
theorem e_X4_52 : CV RX4 52 RX3 yX3_clear cX3_clear 2 (some .int) 0 := cv_mk tw_189 tw_190 tw_191 tw_45 tw_192 (by decide +kernel)
theorem e_X4_55 : CV RX4 55 RX3 yX3_firstFault cX3_firstFault 2 (some .int) 0 := cv_mk tw_197 tw_198 tw_199 tw_45 tw_200 (by decide +kernel)
theorem e_X4_58 : CV RX4 58 RX0 yX0_readFrom cX0_readFrom 3 none 1 := cv_mk tw_208 tw_209 tw_210 tw_46 tw_211 (by decide +kernel)
theorem e_X4_62 : CV RX4 62 RX1 yX1_clear cX1_clear 1 none 0 := cv_mk tw_235 tw_236 tw_237 tw_47 tw_238 (by decide +kernel)
theorem e_X4_68 : CV RX4 68 RX0 yX0_size cX0_size 1 (some .int) 0 := cv_mk tw_239 tw_240 tw_241 tw_46 tw_242 (by decide +kernel)
theorem e_X4_71 : CV RX4 71 RX0 yX0_has cX0_has 2 (some .boolean) 1 := cv_mk tw_247 tw_248 tw_249 tw_46 tw_250 (by decide +kernel)
theorem e_X4_74 : CV RX4 74 RX0 yX0_kindOf cX0_kindOf 2 (some .int) 1 := cv_mk tw_251 tw_252 tw_253 tw_46 tw_254 (by decide +kernel)
theorem e_X4_78 : CV RX4 78 RX0 yX0_stonesOf cX0_stonesOf 2 (some .int) 1 := cv_mk tw_256 tw_257 tw_258 tw_46 tw_259 (by decide +kernel)
theorem e_X4_81 : CV RX4 81 RX0 yX0_strengthOf cX0_strengthOf 2 (some .int) 1 := cv_mk tw_260 tw_261 tw_262 tw_46 tw_263 (by decide +kernel)
theorem e_X4_84 : CV RX4 84 RX0 yX0_deedOf cX0_deedOf 2 (some .int) 1 := cv_mk tw_264 tw_265 tw_266 tw_46 tw_267 (by decide +kernel)
theorem e_X4_87 : CV RX4 87 RX0 yX0_stands cX0_stands 2 (some .boolean) 1 := cv_mk tw_268 tw_269 tw_270 tw_46 tw_271 (by decide +kernel)
theorem e_X4_90 : CV RX4 90 RX0 yX0_loadOf cX0_loadOf 2 (some .int) 1 := cv_mk tw_272 tw_273 tw_274 tw_46 tw_275 (by decide +kernel)
theorem e_X4_93 : CV RX4 93 RX0 yX0_givesOf cX0_givesOf 2 (some .int) 1 := cv_mk tw_277 tw_278 tw_279 tw_46 tw_280 (by decide +kernel)
theorem e_X4_96 : CV RX4 96 RX0 yX0_groundOf cX0_groundOf 2 (some .int) 1 := cv_mk tw_284 tw_285 tw_286 tw_46 tw_287 (by decide +kernel)
theorem e_X4_99 : CV RX4 99 RX1 yX1_remember cX1_remember 2 none 1 := cv_mk tw_294 tw_295 tw_296 tw_47 tw_297 (by decide +kernel)
theorem e_X4_103 : CV RX4 103 RX0 yX0_passHour cX0_passHour 2 (some .int) 0 := cv_mk tw_305 tw_306 tw_307 tw_46 tw_308 (by decide +kernel)
theorem e_X4_106 : CS RX4 106 yX4_isCarried cX4_isCarried 1 (some .boolean) 1 := cs_mk tw_331 tw_332 tw_44 tw_333 (by decide +kernel)
theorem e_X4_109 : CV RX4 109 RX0 yX0_canAdd cX0_canAdd 3 (some .boolean) 2 := cv_mk tw_334 tw_335 tw_336 tw_46 tw_337 (by decide +kernel)
theorem e_X4_113 : CV RX4 113 RX0 yX0_addStones cX0_addStones 3 (some .boolean) 2 := cv_mk tw_339 tw_340 tw_341 tw_46 tw_342 (by decide +kernel)
theorem e_X4_116 : CV RX4 116 RX0 yX0_canRemove cX0_canRemove 3 (some .boolean) 2 := cv_mk tw_348 tw_349 tw_350 tw_46 tw_351 (by decide +kernel)
theorem e_X4_119 : CV RX4 119 RX0 yX0_removeStones cX0_removeStones 3 (some .boolean) 2 := cv_mk tw_352 tw_353 tw_354 tw_46 tw_355 (by decide +kernel)
theorem e_X4_122 : CS RX4 122 yX0_isDeed cX0_isDeed 1 (some .boolean) 1 := cs_mk tw_361 tw_362 tw_46 tw_363 (by decide +kernel)
theorem e_X4_125 : CV RX4 125 RX0 yX0_writeDeed cX0_writeDeed 3 (some .boolean) 2 := cv_mk tw_364 tw_365 tw_366 tw_46 tw_367 (by decide +kernel)
theorem e_X4_128 : CV RX4 128 RX0 yX0_raise cX0_raise 2 (some .boolean) 1 := cv_mk tw_373 tw_374 tw_375 tw_46 tw_376 (by decide +kernel)
theorem e_X4_131 : CV RX4 131 RX1 yX1_size cX1_size 1 (some .int) 0 := cv_mk tw_381 tw_382 tw_383 tw_47 tw_384 (by decide +kernel)
theorem e_X4_132 : CV RX4 132 RX1 yX1_goBack cX1_goBack 2 none 1 := cv_mk tw_385 tw_386 tw_387 tw_47 tw_388 (by decide +kernel)
theorem e_X4_135 : CS RX4 135 yX4_isHalf cX4_isHalf 1 (some .boolean) 1 := cs_mk tw_393 tw_394 tw_44 tw_395 (by decide +kernel)
theorem e_X4_138 : CV RX4 138 RX0 yX0_copyFrom cX0_copyFrom 2 none 1 := cv_mk tw_396 tw_299 tw_300 tw_46 tw_301 (by decide +kernel)
theorem e_X4_141 : CV RX4 141 RX0 yX0_passHours cX0_passHours 3 none 1 := cv_mk tw_397 tw_398 tw_399 tw_46 tw_400 (by decide +kernel)
theorem e_X4_145 : CV RX4 145 RX0 yX0_standingBits cX0_standingBits 1 (some .int) 0 := cv_mk tw_406 tw_407 tw_408 tw_46 tw_409 (by decide +kernel)
theorem e_X4_148 : CV RX4 148 RX0 yX0_ringBits cX0_ringBits 3 (some .int) 0 := cv_mk tw_418 tw_419 tw_420 tw_46 tw_421 (by decide +kernel)
theorem e_X4_151 : CV RX4 151 RX4 yX4_areMoves cX4_areMoves 7 (some .boolean) 2 := cv_mk tw_426 tw_428 tw_5 tw_44 tw_429 (by decide +kernel)
theorem e_X4_155 : CS RX4 155 yX4_isOrder cX4_isOrder 4 (some .boolean) 2 := cs_mk tw_437 tw_438 tw_44 tw_439 (by decide +kernel)
theorem e_X4_158 : CV RX4 158 RX4 yX4_isSafeOrder cX4_isSafeOrder 6 (some .boolean) 3 := cv_mk tw_443 tw_445 tw_6 tw_44 tw_446 (by decide +kernel)
theorem e_X4_162 : CS RX4 162 yX4_orderNumber cX4_orderNumber 4 (some .int) 2 := cs_mk tw_451 tw_452 tw_44 tw_453 (by decide +kernel)
theorem e_X4_166 : CS RX4 166 yX4_hasFigures cX4_hasFigures 6 (some .boolean) 2 := cs_mk tw_430 tw_431 tw_44 tw_432 (by decide +kernel)
theorem e_X4_170 : CS RX4 170 yX4_figure cX4_figure 7 (some .int) 3 := cs_mk tw_434 tw_435 tw_44 tw_436 (by decide +kernel)
theorem e_X4_174 : CS RX4 174 yX4_moveAt cX4_moveAt 3 (some .int) 3 := cs_mk tw_440 tw_441 tw_44 tw_442 (by decide +kernel)
theorem e_X4_178 : CV RX4 178 RX4 yX4_canMove cX4_canMove 9 (some .boolean) 3 := cv_mk tw_447 tw_449 tw_7 tw_44 tw_450 (by decide +kernel)
theorem e_X4_181 : CV RX4 181 RX0 yX0_staysCalm cX0_staysCalm 3 (some .boolean) 1 := cv_mk tw_458 tw_459 tw_460 tw_46 tw_461 (by decide +kernel)
theorem e_X4_184 : CV RX4 184 RX4 yX4_fewestFromOne cX4_fewestFromOne 4 (some .int) 2 := cv_mk tw_466 tw_468 tw_8 tw_44 tw_469 (by decide +kernel)
theorem e_X4_187 : CV RX4 187 RX4 yX4_fewestFromTwo cX4_fewestFromTwo 9 (some .int) 3 := cv_mk tw_479 tw_481 tw_11 tw_44 tw_482 (by decide +kernel)
theorem e_X4_190 : CV RX4 190 RX4 yX4_mostTaken cX4_mostTaken 2 (some .int) 1 := cv_mk tw_470 tw_472 tw_9 tw_44 tw_473 (by decide +kernel)
theorem e_X4_193 : CV RX4 193 RX4 yX4_isCalmWithout cX4_isCalmWithout 5 (some .boolean) 4 := cv_mk tw_475 tw_477 tw_10 tw_44 tw_478 (by decide +kernel)
theorem e_X4_202 : CV RX4 202 RX4 yX4_canBe cX4_canBe 8 (some .boolean) 3 := cv_mk tw_487 tw_489 tw_12 tw_44 tw_490 (by decide +kernel)
theorem e_X4_206 : CV RX4 206 RX2 yX2_add cX2_add 4 (some .boolean) 3 := cv_mk tw_495 tw_496 tw_497 tw_48 tw_498 (by decide +kernel)
theorem e_X4_210 : CV RX4 210 RX2 yX2_size cX2_size 1 (some .int) 0 := cv_mk tw_499 tw_500 tw_501 tw_48 tw_502 (by decide +kernel)
theorem e_X4_211 : CV RX4 211 RX2 yX2_clear cX2_clear 2 (some .int) 0 := cv_mk tw_507 tw_508 tw_509 tw_48 tw_510 (by decide +kernel)
theorem e_X4_212 : CV RX4 212 RX4 yX4_explainsSeen cX4_explainsSeen 4 (some .boolean) 2 := cv_mk tw_515 tw_517 tw_13 tw_44 tw_518 (by decide +kernel)
theorem e_X4_215 : CV RX4 215 RX2 yX2_agrees cX2_agrees 4 (some .boolean) 2 := cv_mk tw_519 tw_520 tw_521 tw_48 tw_522 (by decide +kernel)
theorem e_X4_219 : CS RX4 219 yJ6_bitCount cJ6_bitCount 1 (some .int) 1 := cs_mk tw_528 tw_322 tw_52 tw_323 (by decide +kernel)
theorem e_X4_224 : CV RX4 224 RX4 yX4_standingWithStonesOf cX4_standingWithStonesOf 2 (some .int) 1 := cv_mk tw_529 tw_531 tw_14 tw_44 tw_532 (by decide +kernel)
theorem e_X4_227 : CS RX4 227 yX4_factorial cX4_factorial 3 (some .int) 1 := cs_mk tw_537 tw_538 tw_44 tw_539 (by decide +kernel)
theorem e_X4_230 : CS RX4 230 yX4_partOfFraction cX4_partOfFraction 4 (some .int) 3 := cs_mk tw_540 tw_541 tw_44 tw_542 (by decide +kernel)
theorem e_X4_234 : CV RX4 234 RX0 yX0_emptyAllBut cX0_emptyAllBut 3 none 1 := cv_mk tw_533 tw_534 tw_535 tw_46 tw_536 (by decide +kernel)
theorem e_X4_237 : CV RX4 237 RX4 yX4_prefers cX4_prefers 5 (some .boolean) 4 := cv_mk tw_556 tw_558 tw_15 tw_44 tw_559 (by decide +kernel)
theorem e_X4_240 : CV RX4 240 RX4 yX4_gain cX4_gain 5 (some .int) 4 := cv_mk tw_560 tw_562 tw_16 tw_44 tw_563 (by decide +kernel)
theorem e_X4_244 : CV RX4 244 RX4 yX4_standingWithFailed cX4_standingWithFailed 2 (some .int) 1 := cv_mk tw_568 tw_570 tw_17 tw_44 tw_571 (by decide +kernel)
theorem e_X4_247 : CS RX4 247 yX4_power cX4_power 4 (some .int) 2 := cs_mk tw_576 tw_577 tw_44 tw_578 (by decide +kernel)
theorem e_X4_250 : CV RX4 250 RX0 yX0_failDeeds cX0_failDeeds 3 none 1 := cv_mk tw_572 tw_573 tw_574 tw_46 tw_575 (by decide +kernel)
theorem e_X4_263 : CV RX4 263 RX4 yX4_playYear cX4_playYear 2 none 1 := cv_mk tw_590 tw_592 tw_18 tw_44 tw_593 (by decide +kernel)
theorem e_X4_266 : CV RX4 266 RX0 yX0_hoursPassed cX0_hoursPassed 1 (some .int) 0 := cv_mk tw_598 tw_599 tw_600 tw_46 tw_601 (by decide +kernel)
theorem e_X4_269 : CV RX4 269 RX0 yX0_allStones cX0_allStones 3 (some .int) 0 := cv_mk tw_610 tw_611 tw_612 tw_46 tw_613 (by decide +kernel)
theorem e_X4_272 : CV RX4 272 RX0 yX0_allGround cX0_allGround 3 (some .int) 0 := cv_mk tw_614 tw_615 tw_616 tw_46 tw_617 (by decide +kernel)
theorem e_X4_275 : CV RX4 275 RX0 yX0_monkLoad cX0_monkLoad 3 (some .int) 0 := cv_mk tw_619 tw_620 tw_621 tw_46 tw_622 (by decide +kernel)
theorem e_X4_283 : CS RX4 283 yX4_commonDivisor cX4_commonDivisor 6 (some .int) 2 := cs_mk tw_546 tw_547 tw_44 tw_548 (by decide +kernel)
theorem e_X0_46 : CV RX0 46 RX3 yX3_houses cX3_houses 1 (some .int) 0 := cv_mk tw_212 tw_213 tw_214 tw_45 tw_215 (by decide +kernel)
theorem e_X0_51 : CV RX0 51 RX3 yX3_numberOf cX3_numberOf 3 (some .int) 2 := cv_mk tw_219 tw_220 tw_221 tw_45 tw_222 (by decide +kernel)
theorem e_X0_55 : CV RX0 55 RX3 yX3_deedOf cX3_deedOf 3 (some .int) 1 := cv_mk tw_227 tw_228 tw_229 tw_45 tw_230 (by decide +kernel)
theorem e_X0_59 : CV RX0 59 RX0 yX0_standUp cX0_standUp 2 none 1 := cv_mk tw_231 tw_233 tw_1 tw_46 tw_234 (by decide +kernel)
theorem e_X0_63 : CV RX0 63 RX0 yX0_has cX0_has 2 (some .boolean) 1 := cv_mk tw_255 tw_248 tw_249 tw_46 tw_250 (by decide +kernel)
theorem e_X0_67 : CV RX0 67 RX0 yX0_stands cX0_stands 2 (some .boolean) 1 := cv_mk tw_276 tw_269 tw_270 tw_46 tw_271 (by decide +kernel)
theorem e_X0_70 : CS RX0 70 yX0_given cX0_given 2 (some .int) 2 := cs_mk tw_281 tw_282 tw_46 tw_283 (by decide +kernel)
theorem e_X0_73 : CV RX0 73 RX0 yX0_loadOf cX0_loadOf 2 (some .int) 1 := cv_mk tw_288 tw_273 tw_274 tw_46 tw_275 (by decide +kernel)
theorem e_X0_76 : CV RX0 76 RX0 yX0_givesOf cX0_givesOf 2 (some .int) 1 := cv_mk tw_289 tw_278 tw_279 tw_46 tw_280 (by decide +kernel)
theorem e_X0_79 : CV RX0 79 RX0 yX0_passLoads cX0_passLoads 3 none 0 := cv_mk tw_309 tw_311 tw_2 tw_46 tw_312 (by decide +kernel)
theorem e_X0_82 : CV RX0 82 RX0 yX0_fallingBits cX0_fallingBits 6 (some .int) 0 := cv_mk tw_317 tw_319 tw_4 tw_46 tw_320 (by decide +kernel)
theorem e_X0_85 : CS RX0 85 yJ6_bitCount cJ6_bitCount 1 (some .int) 1 := cs_mk tw_321 tw_322 tw_52 tw_323 (by decide +kernel)
theorem e_X0_90 : CV RX0 90 RX0 yX0_passHour cX0_passHour 2 (some .int) 0 := cv_mk tw_401 tw_306 tw_307 tw_46 tw_308 (by decide +kernel)
theorem e_X0_93 : CV RX0 93 RX0 yX0_supportOf cX0_supportOf 2 (some .int) 1 := cv_mk tw_313 tw_315 tw_3 tw_46 tw_316 (by decide +kernel)
theorem e_X0_99 : CV RX0 99 RX0 yX0_canAdd cX0_canAdd 3 (some .boolean) 2 := cv_mk tw_343 tw_335 tw_336 tw_46 tw_337 (by decide +kernel)
theorem e_X0_103 : CV RX0 103 RX0 yX0_canRemove cX0_canRemove 3 (some .boolean) 2 := cv_mk tw_356 tw_349 tw_350 tw_46 tw_351 (by decide +kernel)
theorem e_X0_106 : CS RX0 106 yX0_isDeed cX0_isDeed 1 (some .boolean) 1 := cs_mk tw_368 tw_362 tw_46 tw_363 (by decide +kernel)
theorem e_X0_109 : CV RX0 109 RX0 yX0_groundOf cX0_groundOf 2 (some .int) 1 := cv_mk tw_618 tw_285 tw_286 tw_46 tw_287 (by decide +kernel)
theorem e_X1_25 : CV RX1 25 RX0 yX0_copyFrom cX0_copyFrom 2 none 1 := cv_mk tw_298 tw_299 tw_300 tw_46 tw_301 (by decide +kernel)
theorem e_X2_25 : CV RX2 25 RX0 yX0_stands cX0_stands 2 (some .boolean) 1 := cv_mk tw_523 tw_269 tw_270 tw_46 tw_271 (by decide +kernel)
theorem e_X3_19 : CS RX3 19 yX3_fits cX3_fits 2 (some .boolean) 2 := cs_mk tw_201 tw_202 tw_45 tw_203 (by decide +kernel)
theorem e_X3_29 : CV RX3 29 RX3 yX3_letterOf cX3_letterOf 4 (some .char) 2 := cv_mk tw_223 tw_225 tw_0 tw_45 tw_226 (by decide +kernel)
theorem e_L_13 : CV R_law 13 RX4 yX4_write cX4_write 2 (some .int) 1 := cv_mk tw_173 tw_174 tw_175 tw_44 tw_176 (by decide +kernel)
theorem e_L_17 : CV R_law 17 RX5 yX5_write cX5_write 2 (some .int) 1 := cv_mk tw_688 tw_689 tw_690 tw_49 tw_691 (by decide +kernel)
theorem e_L_18 : CV R_law 18 RX4 yX4_wipe cX4_wipe 1 (some .int) 0 := cv_mk tw_185 tw_186 tw_187 tw_44 tw_188 (by decide +kernel)
theorem e_L_22 : CV R_law 22 RX5 yX5_wipe cX5_wipe 2 (some .int) 0 := cv_mk tw_696 tw_697 tw_698 tw_49 tw_699 (by decide +kernel)
theorem e_L_23 : CV R_law 23 RX4 yX4_fault cX4_fault 1 (some .int) 0 := cv_mk tw_193 tw_194 tw_195 tw_44 tw_196 (by decide +kernel)
theorem e_L_26 : CV R_law 26 RX5 yX5_fault cX5_fault 1 (some .int) 0 := cv_mk tw_700 tw_701 tw_702 tw_49 tw_703 (by decide +kernel)
theorem e_L_27 : CV R_law 27 RX4 yX4_lane cX4_lane 1 (some .int) 0 := cv_mk tw_204 tw_205 tw_206 tw_44 tw_207 (by decide +kernel)
theorem e_L_30 : CV R_law 30 RX5 yX5_lane cX5_lane 2 (some .int) 0 := cv_mk tw_714 tw_715 tw_716 tw_49 tw_717 (by decide +kernel)
theorem e_L_31 : CV R_law 31 RX4 yX4_house cX4_house 3 (some .int) 2 := cv_mk tw_243 tw_244 tw_245 tw_44 tw_246 (by decide +kernel)
theorem e_L_35 : CV R_law 35 RX5 yX5_house cX5_house 3 (some .int) 2 := cv_mk tw_718 tw_719 tw_720 tw_49 tw_721 (by decide +kernel)
theorem e_L_36 : CV R_law 36 RX4 yX4_hour cX4_hour 1 (some .int) 0 := cv_mk tw_290 tw_291 tw_292 tw_44 tw_293 (by decide +kernel)
theorem e_L_39 : CV R_law 39 RX5 yX5_hour cX5_hour 1 (some .int) 0 := cv_mk tw_738 tw_739 tw_740 tw_49 tw_741 (by decide +kernel)
theorem e_L_40 : CV R_law 40 RX4 yX4_bring cX4_bring 3 (some .int) 2 := cv_mk tw_327 tw_328 tw_329 tw_44 tw_330 (by decide +kernel)
theorem e_L_43 : CV R_law 43 RX5 yX5_bring cX5_bring 3 (some .int) 2 := cv_mk tw_764 tw_765 tw_766 tw_49 tw_767 (by decide +kernel)
theorem e_L_44 : CV R_law 44 RX4 yX4_take cX4_take 3 (some .int) 2 := cv_mk tw_344 tw_345 tw_346 tw_44 tw_347 (by decide +kernel)
theorem e_L_47 : CV R_law 47 RX5 yX5_take cX5_take 3 (some .int) 2 := cv_mk tw_773 tw_774 tw_775 tw_49 tw_776 (by decide +kernel)
theorem e_L_48 : CV R_law 48 RX4 yX4_deed cX4_deed 4 (some .int) 2 := cv_mk tw_357 tw_358 tw_359 tw_44 tw_360 (by decide +kernel)
theorem e_L_51 : CV R_law 51 RX5 yX5_deed cX5_deed 4 (some .int) 2 := cv_mk tw_781 tw_782 tw_783 tw_49 tw_784 (by decide +kernel)
theorem e_L_52 : CV R_law 52 RX4 yX4_build cX4_build 2 (some .int) 1 := cv_mk tw_369 tw_370 tw_371 tw_44 tw_372 (by decide +kernel)
theorem e_L_55 : CV R_law 55 RX5 yX5_build cX5_build 2 (some .int) 1 := cv_mk tw_786 tw_787 tw_788 tw_49 tw_789 (by decide +kernel)
theorem e_L_56 : CV R_law 56 RX4 yX4_undo cX4_undo 1 (some .int) 0 := cv_mk tw_377 tw_378 tw_379 tw_44 tw_380 (by decide +kernel)
theorem e_L_59 : CV R_law 59 RX5 yX5_undo cX5_undo 2 (some .int) 0 := cv_mk tw_794 tw_795 tw_796 tw_49 tw_797 (by decide +kernel)
theorem e_L_60 : CV R_law 60 RX4 yX4_later cX4_later 4 (some .int) 3 := cv_mk tw_389 tw_390 tw_391 tw_44 tw_392 (by decide +kernel)
theorem e_L_64 : CV R_law 64 RX5 yX5_later cX5_later 4 (some .int) 3 := cv_mk tw_798 tw_799 tw_800 tw_49 tw_801 (by decide +kernel)
theorem e_L_65 : CV R_law 65 RX4 yX4_standing cX4_standing 2 (some .int) 1 := cv_mk tw_402 tw_403 tw_404 tw_44 tw_405 (by decide +kernel)
theorem e_L_68 : CV R_law 68 RX5 yX5_standing cX5_standing 2 (some .int) 1 := cv_mk tw_811 tw_812 tw_813 tw_49 tw_814 (by decide +kernel)
theorem e_L_69 : CV R_law 69 RX4 yX4_falls cX4_falls 3 (some .int) 1 := cv_mk tw_410 tw_411 tw_412 tw_44 tw_413 (by decide +kernel)
theorem e_L_72 : CV R_law 72 RX5 yX5_falls cX5_falls 3 (some .int) 1 := cv_mk tw_819 tw_820 tw_821 tw_49 tw_822 (by decide +kernel)
theorem e_L_73 : CV R_law 73 RX4 yX4_rings cX4_rings 1 (some .int) 0 := cv_mk tw_414 tw_415 tw_416 tw_44 tw_417 (by decide +kernel)
theorem e_L_76 : CV R_law 76 RX5 yX5_rings cX5_rings 4 (some .int) 0 := cv_mk tw_823 tw_824 tw_825 tw_49 tw_826 (by decide +kernel)
theorem e_L_79 : CV R_law 79 RX4 yX4_orders cX4_orders 8 (some .int) 3 := cv_mk tw_422 tw_423 tw_424 tw_44 tw_425 (by decide +kernel)
theorem e_L_83 : CV R_law 83 RX5 yX5_orders cX5_orders 8 (some .int) 3 := cv_mk tw_827 tw_828 tw_829 tw_49 tw_830 (by decide +kernel)
theorem e_L_84 : CV R_law 84 RX4 yX4_piano cX4_piano 4 (some .int) 1 := cv_mk tw_454 tw_455 tw_456 tw_44 tw_457 (by decide +kernel)
theorem e_L_87 : CV R_law 87 RX5 yX5_piano cX5_piano 5 (some .int) 1 := cv_mk tw_848 tw_849 tw_850 tw_49 tw_851 (by decide +kernel)
theorem e_L_88 : CV R_law 88 RX4 yX4_sacks cX4_sacks 7 (some .int) 1 := cv_mk tw_462 tw_463 tw_464 tw_44 tw_465 (by decide +kernel)
theorem e_L_91 : CV R_law 91 RX5 yX5_sacks cX5_sacks 9 (some .int) 1 := cv_mk tw_852 tw_853 tw_854 tw_49 tw_855 (by decide +kernel)
theorem e_L_92 : CV R_law 92 RX4 yX4_judge cX4_judge 5 (some .int) 2 := cv_mk tw_483 tw_484 tw_485 tw_44 tw_486 (by decide +kernel)
theorem e_L_96 : CV R_law 96 RX5 yX5_judge cX5_judge 6 (some .int) 2 := cv_mk tw_860 tw_861 tw_862 tw_49 tw_863 (by decide +kernel)
theorem e_L_97 : CV R_law 97 RX4 yX4_see cX4_see 4 (some .int) 3 := cv_mk tw_491 tw_492 tw_493 tw_44 tw_494 (by decide +kernel)
theorem e_L_100 : CV R_law 100 RX5 yX5_see cX5_see 4 (some .int) 3 := cv_mk tw_869 tw_870 tw_871 tw_49 tw_872 (by decide +kernel)
theorem e_L_101 : CV R_law 101 RX4 yX4_unsee cX4_unsee 1 (some .int) 0 := cv_mk tw_503 tw_504 tw_505 tw_44 tw_506 (by decide +kernel)
theorem e_L_104 : CV R_law 104 RX5 yX5_unsee cX5_unsee 2 (some .int) 0 := cv_mk tw_874 tw_875 tw_876 tw_49 tw_877 (by decide +kernel)
theorem e_L_105 : CV R_law 105 RX4 yX4_night cX4_night 6 (some .int) 1 := cv_mk tw_511 tw_512 tw_513 tw_44 tw_514 (by decide +kernel)
theorem e_L_108 : CV R_law 108 RX5 yX5_night cX5_night 6 (some .int) 1 := cv_mk tw_878 tw_879 tw_880 tw_49 tw_881 (by decide +kernel)
theorem e_L_109 : CV R_law 109 RX4 yX4_share cX4_share 8 (some .int) 2 := cv_mk tw_524 tw_525 tw_526 tw_44 tw_527 (by decide +kernel)
theorem e_L_113 : CV R_law 113 RX5 yX5_share cX5_share 6 (some .int) 2 := cv_mk tw_886 tw_887 tw_888 tw_49 tw_889 (by decide +kernel)
theorem e_L_114 : CV R_law 114 RX4 yX4_rests cX4_rests 8 (some .int) 3 := cv_mk tw_552 tw_553 tw_554 tw_44 tw_555 (by decide +kernel)
theorem e_L_117 : CV R_law 117 RX5 yX5_rests cX5_rests 7 (some .int) 3 := cv_mk tw_900 tw_901 tw_902 tw_49 tw_903 (by decide +kernel)
theorem e_L_118 : CV R_law 118 RX4 yX4_fails cX4_fails 9 (some .int) 3 := cv_mk tw_564 tw_565 tw_566 tw_44 tw_567 (by decide +kernel)
theorem e_L_122 : CV R_law 122 RX5 yX5_fails cX5_fails 10 (some .int) 3 := cv_mk tw_912 tw_913 tw_914 tw_49 tw_915 (by decide +kernel)
theorem e_L_123 : CV R_law 123 RX4 yX4_seed cX4_seed 5 (some .long) 1 := cv_mk tw_579 tw_580 tw_581 tw_44 tw_582 (by decide +kernel)
theorem e_L_127 : CV R_law 127 RX5 yX5_seed cX5_seed 5 (some .long) 1 := cv_mk tw_917 tw_918 tw_919 tw_49 tw_920 (by decide +kernel)
theorem e_L_128 : CV R_law 128 RX4 yX4_years cX4_years 4 (some .int) 1 := cv_mk tw_583 tw_584 tw_585 tw_44 tw_586 (by decide +kernel)
theorem e_L_131 : CV R_law 131 RX5 yX5_years cX5_years 5 (some .int) 1 := cv_mk tw_921 tw_922 tw_923 tw_49 tw_924 (by decide +kernel)
theorem e_L_132 : CV R_law 132 RX4 yX4_keep cX4_keep 2 (some .int) 1 := cv_mk tw_594 tw_595 tw_596 tw_44 tw_597 (by decide +kernel)
theorem e_L_135 : CV R_law 135 RX5 yX5_keep cX5_keep 3 (some .int) 1 := cv_mk tw_928 tw_929 tw_930 tw_49 tw_931 (by decide +kernel)
theorem e_L_136 : CV R_law 136 RX4 yX4_again cX4_again 2 (some .int) 1 := cv_mk tw_602 tw_603 tw_604 tw_44 tw_605 (by decide +kernel)
theorem e_L_139 : CV R_law 139 RX5 yX5_again cX5_again 3 (some .int) 1 := cv_mk tw_932 tw_933 tw_934 tw_49 tw_935 (by decide +kernel)
theorem e_L_140 : CV R_law 140 RX4 yX4_count cX4_count 2 (some .int) 1 := cv_mk tw_606 tw_607 tw_608 tw_44 tw_609 (by decide +kernel)
theorem e_L_143 : CV R_law 143 RX5 yX5_count cX5_count 2 (some .int) 1 := cv_mk tw_936 tw_937 tw_938 tw_49 tw_939 (by decide +kernel)
theorem e_X5_49 : CS RX5 49 yX5_in cX5_in 6 (some .boolean) 3 := cs_mk tw_693 tw_694 tw_49 tw_695 (by decide +kernel)
theorem e_X5_66 : CS RX5 66 yX5_deedOf cX5_deedOf 1 (some .int) 1 := cs_mk tw_711 tw_712 tw_49 tw_713 (by decide +kernel)
theorem e_X5_70 : CV RX5 70 RX5 yX5_readText cX5_readText 5 (some .int) 0 := cv_mk tw_704 tw_706 tw_19 tw_49 tw_707 (by decide +kernel)
theorem e_X5_80 : CV RX5 80 RX5 yX5_at cX5_at 4 (some .int) 3 := cv_mk tw_730 tw_732 tw_22 tw_49 tw_733 (by decide +kernel)
theorem e_X5_84 : CV RX5 84 RX5 yX5_givesOf cX5_givesOf 5 (some .int) 2 := cv_mk tw_726 tw_728 tw_21 tw_49 tw_729 (by decide +kernel)
theorem e_X5_88 : CV RX5 88 RX5 yX5_leansOn cX5_leansOn 4 (some .int) 2 := cv_mk tw_750 tw_752 tw_26 tw_49 tw_753 (by decide +kernel)
theorem e_X5_91 : CV RX5 91 RX5 yX5_isHouse cX5_isHouse 2 (some .boolean) 1 := cv_mk tw_722 tw_724 tw_20 tw_49 tw_725 (by decide +kernel)
theorem e_X5_95 : CV RX5 95 RX5 yX5_isHeld cX5_isHeld 4 (some .boolean) 2 := cv_mk tw_754 tw_756 tw_27 tw_49 tw_757 (by decide +kernel)
theorem e_X5_99 : CV RX5 99 RX5 yX5_groundOf cX5_groundOf 3 (some .int) 2 := cv_mk tw_734 tw_736 tw_23 tw_49 tw_737 (by decide +kernel)
theorem e_X5_102 : CS RX5 102 yX5_has cX5_has 2 (some .boolean) 2 := cs_mk tw_758 tw_759 tw_49 tw_760 (by decide +kernel)
theorem e_X5_108 : CV RX5 108 RX5 yX5_keepAct cX5_keepAct 2 none 0 := cv_mk tw_742 tw_744 tw_24 tw_49 tw_745 (by decide +kernel)
theorem e_X5_111 : CV RX5 111 RX5 yX5_hourOn cX5_hourOn 7 (some .int) 1 := cv_mk tw_746 tw_748 tw_25 tw_49 tw_749 (by decide +kernel)
theorem e_X5_114 : CS RX5 114 yX5_ones cX5_ones 3 (some .int) 1 := cs_mk tw_761 tw_762 tw_49 tw_763 (by decide +kernel)
theorem e_X5_119 : CV RX5 119 RX5 yX5_canBring cX5_canBring 4 (some .boolean) 3 := cv_mk tw_769 tw_771 tw_28 tw_49 tw_772 (by decide +kernel)
theorem e_X5_123 : CV RX5 123 RX5 yX5_canTake cX5_canTake 4 (some .boolean) 3 := cv_mk tw_777 tw_779 tw_29 tw_49 tw_780 (by decide +kernel)
theorem e_X5_128 : CV RX5 128 RX5 yX5_buildOn cX5_buildOn 4 none 2 := cv_mk tw_790 tw_792 tw_30 tw_49 tw_793 (by decide +kernel)
theorem e_X5_134 : CV RX5 134 RX5 yX5_layTrial cX5_layTrial 2 none 0 := cv_mk tw_803 tw_805 tw_31 tw_49 tw_806 (by decide +kernel)
theorem e_X5_137 : CV RX5 137 RX5 yX5_goOn cX5_goOn 4 (some .int) 1 := cv_mk tw_807 tw_809 tw_32 tw_49 tw_810 (by decide +kernel)
theorem e_X5_140 : CV RX5 140 RX5 yX5_standingOn cX5_standingOn 4 (some .int) 1 := cv_mk tw_815 tw_817 tw_33 tw_49 tw_818 (by decide +kernel)
theorem e_X5_145 : CS RX5 145 yX5_tenTo cX5_tenTo 4 (some .long) 1 := cs_mk tw_832 tw_833 tw_49 tw_834 (by decide +kernel)
theorem e_X5_153 : CV RX5 153 RX5 yX5_areMoves cX5_areMoves 7 (some .boolean) 2 := cv_mk tw_836 tw_838 tw_34 tw_49 tw_839 (by decide +kernel)
theorem e_X5_157 : CS RX5 157 yX5_isOrder cX5_isOrder 5 (some .boolean) 2 := cs_mk tw_841 tw_842 tw_49 tw_843 (by decide +kernel)
theorem e_X5_160 : CV RX5 160 RX5 yX5_canMove cX5_canMove 12 (some .boolean) 3 := cv_mk tw_844 tw_846 tw_35 tw_49 tw_847 (by decide +kernel)
theorem e_X5_164 : CV RX5 164 RX5 yX5_isSafe cX5_isSafe 5 (some .boolean) 4 := cv_mk tw_856 tw_858 tw_36 tw_49 tw_859 (by decide +kernel)
theorem e_X5_170 : CV RX5 170 RX5 yX5_tryThing cX5_tryThing 11 (some .boolean) 3 := cv_mk tw_865 tw_867 tw_37 tw_49 tw_868 (by decide +kernel)
theorem e_X5_178 : CV RX5 178 RX5 yX5_mayBe cX5_mayBe 7 (some .boolean) 2 := cv_mk tw_882 tw_884 tw_38 tw_49 tw_885 (by decide +kernel)
theorem e_X5_181 : CS RX5 181 yX5_factorial cX5_factorial 3 (some .int) 1 := cs_mk tw_890 tw_891 tw_49 tw_892 (by decide +kernel)
theorem e_X5_184 : CV RX5 184 RX5 yX5_standWith cX5_standWith 3 (some .int) 1 := cv_mk tw_893 tw_895 tw_39 tw_49 tw_896 (by decide +kernel)
theorem e_X5_187 : CS RX5 187 yX5_common cX5_common 5 (some .int) 2 := cs_mk tw_897 tw_898 tw_49 tw_899 (by decide +kernel)
theorem e_X5_190 : CV RX5 190 RX5 yX5_gain cX5_gain 5 (some .int) 4 := cv_mk tw_908 tw_910 tw_41 tw_49 tw_911 (by decide +kernel)
theorem e_X5_194 : CV RX5 194 RX5 yX5_isRest cX5_isRest 5 (some .boolean) 4 := cv_mk tw_904 tw_906 tw_40 tw_49 tw_907 (by decide +kernel)
theorem e_X5_209 : CV RX5 209 RX5 yX5_together cX5_together 4 (some .int) 1 := cv_mk tw_940 tw_942 tw_42 tw_49 tw_943 (by decide +kernel)
end
section
theorem dX0_init_0 : decode cX0_init 0 = .ok (.aload_n 0, 1) := by decide +kernel
theorem dX0_init_1 : decode cX0_init 1 = .ok (.invokespecial 3, 3) := by decide +kernel
theorem dX0_init_4 : decode cX0_init 4 = .ok (.aload_n 0, 1) := by decide +kernel
theorem dX0_init_5 : decode cX0_init 5 = .ok (.bipush 6, 2) := by decide +kernel
theorem dX0_init_7 : decode cX0_init 7 = .ok (.newarray .int, 2) := by decide +kernel
theorem dX0_init_9 : decode cX0_init 9 = .ok (.putfield 9, 3) := by decide +kernel
theorem dX0_init_12 : decode cX0_init 12 = .ok (.aload_n 0, 1) := by decide +kernel
theorem dX0_init_13 : decode cX0_init 13 = .ok (.bipush 6, 2) := by decide +kernel
theorem dX0_init_15 : decode cX0_init 15 = .ok (.newarray .int, 2) := by decide +kernel
theorem dX0_init_17 : decode cX0_init 17 = .ok (.putfield 15, 3) := by decide +kernel
theorem dX0_init_20 : decode cX0_init 20 = .ok (.aload_n 0, 1) := by decide +kernel
theorem dX0_init_21 : decode cX0_init 21 = .ok (.bipush 6, 2) := by decide +kernel
theorem dX0_init_23 : decode cX0_init 23 = .ok (.newarray .int, 2) := by decide +kernel
theorem dX0_init_25 : decode cX0_init 25 = .ok (.putfield 18, 3) := by decide +kernel
theorem dX0_init_28 : decode cX0_init 28 = .ok (.aload_n 0, 1) := by decide +kernel
theorem dX0_init_29 : decode cX0_init 29 = .ok (.bipush 6, 2) := by decide +kernel
theorem dX0_init_31 : decode cX0_init 31 = .ok (.newarray .int, 2) := by decide +kernel
theorem dX0_init_33 : decode cX0_init 33 = .ok (.putfield 21, 3) := by decide +kernel
theorem dX0_init_36 : decode cX0_init 36 = .ok (.aload_n 0, 1) := by decide +kernel
theorem dX0_init_37 : decode cX0_init 37 = .ok (.bipush 6, 2) := by decide +kernel
theorem dX0_init_39 : decode cX0_init 39 = .ok (.newarray .int, 2) := by decide +kernel
theorem dX0_init_41 : decode cX0_init 41 = .ok (.putfield 24, 3) := by decide +kernel
theorem dX0_init_44 : decode cX0_init 44 = .ok (.aload_n 0, 1) := by decide +kernel
theorem dX0_init_45 : decode cX0_init 45 = .ok (.bipush 6, 2) := by decide +kernel
theorem dX0_init_47 : decode cX0_init 47 = .ok (.newarray .int, 2) := by decide +kernel
theorem dX0_init_49 : decode cX0_init 49 = .ok (.putfield 27, 3) := by decide +kernel
theorem dX0_init_52 : decode cX0_init 52 = .ok (.return_, 1) := by decide +kernel
theorem dX0_copyFrom_0 : decode cX0_copyFrom 0 = .ok (.aload_n 1, 1) := by decide +kernel
theorem dX0_copyFrom_1 : decode cX0_copyFrom 1 = .ok (.getfield 9, 3) := by decide +kernel
theorem dX0_copyFrom_4 : decode cX0_copyFrom 4 = .ok (.iconst 0, 1) := by decide +kernel
theorem dX0_copyFrom_5 : decode cX0_copyFrom 5 = .ok (.aload_n 0, 1) := by decide +kernel
theorem dX0_copyFrom_6 : decode cX0_copyFrom 6 = .ok (.getfield 9, 3) := by decide +kernel
theorem dX0_copyFrom_9 : decode cX0_copyFrom 9 = .ok (.iconst 0, 1) := by decide +kernel
theorem dX0_copyFrom_10 : decode cX0_copyFrom 10 = .ok (.bipush 6, 2) := by decide +kernel
theorem dX0_copyFrom_12 : decode cX0_copyFrom 12 = .ok (.invokestatic 30, 3) := by decide +kernel
theorem dX0_copyFrom_15 : decode cX0_copyFrom 15 = .ok (.aload_n 1, 1) := by decide +kernel
theorem dX0_copyFrom_16 : decode cX0_copyFrom 16 = .ok (.getfield 15, 3) := by decide +kernel
theorem dX0_copyFrom_19 : decode cX0_copyFrom 19 = .ok (.iconst 0, 1) := by decide +kernel
theorem dX0_copyFrom_20 : decode cX0_copyFrom 20 = .ok (.aload_n 0, 1) := by decide +kernel
theorem dX0_copyFrom_21 : decode cX0_copyFrom 21 = .ok (.getfield 15, 3) := by decide +kernel
theorem dX0_copyFrom_24 : decode cX0_copyFrom 24 = .ok (.iconst 0, 1) := by decide +kernel
theorem dX0_copyFrom_25 : decode cX0_copyFrom 25 = .ok (.bipush 6, 2) := by decide +kernel
theorem dX0_copyFrom_27 : decode cX0_copyFrom 27 = .ok (.invokestatic 30, 3) := by decide +kernel
theorem dX0_copyFrom_30 : decode cX0_copyFrom 30 = .ok (.aload_n 1, 1) := by decide +kernel
theorem dX0_copyFrom_31 : decode cX0_copyFrom 31 = .ok (.getfield 18, 3) := by decide +kernel
theorem dX0_copyFrom_34 : decode cX0_copyFrom 34 = .ok (.iconst 0, 1) := by decide +kernel
theorem dX0_copyFrom_35 : decode cX0_copyFrom 35 = .ok (.aload_n 0, 1) := by decide +kernel
theorem dX0_copyFrom_36 : decode cX0_copyFrom 36 = .ok (.getfield 18, 3) := by decide +kernel
theorem dX0_copyFrom_39 : decode cX0_copyFrom 39 = .ok (.iconst 0, 1) := by decide +kernel
theorem dX0_copyFrom_40 : decode cX0_copyFrom 40 = .ok (.bipush 6, 2) := by decide +kernel
theorem dX0_copyFrom_42 : decode cX0_copyFrom 42 = .ok (.invokestatic 30, 3) := by decide +kernel
theorem dX0_copyFrom_45 : decode cX0_copyFrom 45 = .ok (.aload_n 1, 1) := by decide +kernel
theorem dX0_copyFrom_46 : decode cX0_copyFrom 46 = .ok (.getfield 21, 3) := by decide +kernel
theorem dX0_copyFrom_49 : decode cX0_copyFrom 49 = .ok (.iconst 0, 1) := by decide +kernel
theorem dX0_copyFrom_50 : decode cX0_copyFrom 50 = .ok (.aload_n 0, 1) := by decide +kernel
theorem dX0_copyFrom_51 : decode cX0_copyFrom 51 = .ok (.getfield 21, 3) := by decide +kernel
theorem dX0_copyFrom_54 : decode cX0_copyFrom 54 = .ok (.iconst 0, 1) := by decide +kernel
theorem dX0_copyFrom_55 : decode cX0_copyFrom 55 = .ok (.bipush 6, 2) := by decide +kernel
theorem dX0_copyFrom_57 : decode cX0_copyFrom 57 = .ok (.invokestatic 30, 3) := by decide +kernel
theorem dX0_copyFrom_60 : decode cX0_copyFrom 60 = .ok (.aload_n 1, 1) := by decide +kernel
theorem dX0_copyFrom_61 : decode cX0_copyFrom 61 = .ok (.getfield 24, 3) := by decide +kernel
theorem dX0_copyFrom_64 : decode cX0_copyFrom 64 = .ok (.iconst 0, 1) := by decide +kernel
theorem dX0_copyFrom_65 : decode cX0_copyFrom 65 = .ok (.aload_n 0, 1) := by decide +kernel
theorem dX0_copyFrom_66 : decode cX0_copyFrom 66 = .ok (.getfield 24, 3) := by decide +kernel
theorem dX0_copyFrom_69 : decode cX0_copyFrom 69 = .ok (.iconst 0, 1) := by decide +kernel
theorem dX0_copyFrom_70 : decode cX0_copyFrom 70 = .ok (.bipush 6, 2) := by decide +kernel
theorem dX0_copyFrom_72 : decode cX0_copyFrom 72 = .ok (.invokestatic 30, 3) := by decide +kernel
theorem dX0_copyFrom_75 : decode cX0_copyFrom 75 = .ok (.aload_n 0, 1) := by decide +kernel
theorem dX0_copyFrom_76 : decode cX0_copyFrom 76 = .ok (.aload_n 1, 1) := by decide +kernel
theorem dX0_copyFrom_77 : decode cX0_copyFrom 77 = .ok (.getfield 36, 3) := by decide +kernel
theorem dX0_copyFrom_80 : decode cX0_copyFrom 80 = .ok (.putfield 36, 3) := by decide +kernel
theorem dX0_copyFrom_83 : decode cX0_copyFrom 83 = .ok (.aload_n 0, 1) := by decide +kernel
theorem dX0_copyFrom_84 : decode cX0_copyFrom 84 = .ok (.aload_n 1, 1) := by decide +kernel
theorem dX0_copyFrom_85 : decode cX0_copyFrom 85 = .ok (.getfield 40, 3) := by decide +kernel
theorem dX0_copyFrom_88 : decode cX0_copyFrom 88 = .ok (.putfield 40, 3) := by decide +kernel
theorem dX0_copyFrom_91 : decode cX0_copyFrom 91 = .ok (.aload_n 0, 1) := by decide +kernel
theorem dX0_copyFrom_92 : decode cX0_copyFrom 92 = .ok (.aload_n 1, 1) := by decide +kernel
theorem dX0_copyFrom_93 : decode cX0_copyFrom 93 = .ok (.getfield 43, 3) := by decide +kernel
theorem dX0_copyFrom_96 : decode cX0_copyFrom 96 = .ok (.putfield 43, 3) := by decide +kernel
theorem dX0_copyFrom_99 : decode cX0_copyFrom 99 = .ok (.return_, 1) := by decide +kernel
theorem dX0_readFrom_0 : decode cX0_readFrom 0 = .ok (.aload_n 0, 1) := by decide +kernel
theorem dX0_readFrom_1 : decode cX0_readFrom 1 = .ok (.aload_n 1, 1) := by decide +kernel
theorem dX0_readFrom_2 : decode cX0_readFrom 2 = .ok (.invokevirtual 46, 3) := by decide +kernel
theorem dX0_readFrom_5 : decode cX0_readFrom 5 = .ok (.putfield 36, 3) := by decide +kernel
theorem dX0_readFrom_8 : decode cX0_readFrom 8 = .ok (.aload_n 0, 1) := by decide +kernel
theorem dX0_readFrom_9 : decode cX0_readFrom 9 = .ok (.iconst 0, 1) := by decide +kernel
theorem dX0_readFrom_10 : decode cX0_readFrom 10 = .ok (.putfield 40, 3) := by decide +kernel
theorem dX0_readFrom_13 : decode cX0_readFrom 13 = .ok (.aload_n 0, 1) := by decide +kernel
theorem dX0_readFrom_14 : decode cX0_readFrom 14 = .ok (.iconst 0, 1) := by decide +kernel
theorem dX0_readFrom_15 : decode cX0_readFrom 15 = .ok (.putfield 43, 3) := by decide +kernel
theorem dX0_readFrom_18 : decode cX0_readFrom 18 = .ok (.iconst 0, 1) := by decide +kernel
theorem dX0_readFrom_19 : decode cX0_readFrom 19 = .ok (.istore_n 2, 1) := by decide +kernel
theorem dX0_readFrom_20 : decode cX0_readFrom 20 = .ok (.iload_n 2, 1) := by decide +kernel
theorem dX0_readFrom_21 : decode cX0_readFrom 21 = .ok (.aload_n 0, 1) := by decide +kernel
theorem dX0_readFrom_22 : decode cX0_readFrom 22 = .ok (.getfield 36, 3) := by decide +kernel
theorem dX0_readFrom_25 : decode cX0_readFrom 25 = .ok (.if_icmp .ge 71, 3) := by decide +kernel
theorem dX0_readFrom_28 : decode cX0_readFrom 28 = .ok (.aload_n 0, 1) := by decide +kernel
theorem dX0_readFrom_29 : decode cX0_readFrom 29 = .ok (.getfield 9, 3) := by decide +kernel
theorem dX0_readFrom_32 : decode cX0_readFrom 32 = .ok (.iload_n 2, 1) := by decide +kernel
theorem dX0_readFrom_33 : decode cX0_readFrom 33 = .ok (.aload_n 1, 1) := by decide +kernel
theorem dX0_readFrom_34 : decode cX0_readFrom 34 = .ok (.iload_n 2, 1) := by decide +kernel
theorem dX0_readFrom_35 : decode cX0_readFrom 35 = .ok (.iconst 0, 1) := by decide +kernel
theorem dX0_readFrom_36 : decode cX0_readFrom 36 = .ok (.invokevirtual 51, 3) := by decide +kernel
theorem dX0_readFrom_39 : decode cX0_readFrom 39 = .ok (.iastore, 1) := by decide +kernel
theorem dX0_readFrom_40 : decode cX0_readFrom 40 = .ok (.aload_n 0, 1) := by decide +kernel
theorem dX0_readFrom_41 : decode cX0_readFrom 41 = .ok (.getfield 15, 3) := by decide +kernel
theorem dX0_readFrom_44 : decode cX0_readFrom 44 = .ok (.iload_n 2, 1) := by decide +kernel
theorem dX0_readFrom_45 : decode cX0_readFrom 45 = .ok (.aload_n 1, 1) := by decide +kernel
theorem dX0_readFrom_46 : decode cX0_readFrom 46 = .ok (.iload_n 2, 1) := by decide +kernel
theorem dX0_readFrom_47 : decode cX0_readFrom 47 = .ok (.iconst 1, 1) := by decide +kernel
theorem dX0_readFrom_48 : decode cX0_readFrom 48 = .ok (.invokevirtual 51, 3) := by decide +kernel
theorem dX0_readFrom_51 : decode cX0_readFrom 51 = .ok (.iastore, 1) := by decide +kernel
theorem dX0_readFrom_52 : decode cX0_readFrom 52 = .ok (.aload_n 0, 1) := by decide +kernel
theorem dX0_readFrom_53 : decode cX0_readFrom 53 = .ok (.getfield 18, 3) := by decide +kernel
theorem dX0_readFrom_56 : decode cX0_readFrom 56 = .ok (.iload_n 2, 1) := by decide +kernel
theorem dX0_readFrom_57 : decode cX0_readFrom 57 = .ok (.aload_n 1, 1) := by decide +kernel
theorem dX0_readFrom_58 : decode cX0_readFrom 58 = .ok (.iload_n 2, 1) := by decide +kernel
theorem dX0_readFrom_59 : decode cX0_readFrom 59 = .ok (.iconst 2, 1) := by decide +kernel
theorem dX0_readFrom_60 : decode cX0_readFrom 60 = .ok (.invokevirtual 51, 3) := by decide +kernel
theorem dX0_readFrom_63 : decode cX0_readFrom 63 = .ok (.iastore, 1) := by decide +kernel
theorem dX0_readFrom_64 : decode cX0_readFrom 64 = .ok (.aload_n 0, 1) := by decide +kernel
theorem dX0_readFrom_65 : decode cX0_readFrom 65 = .ok (.getfield 21, 3) := by decide +kernel
theorem dX0_readFrom_68 : decode cX0_readFrom 68 = .ok (.iload_n 2, 1) := by decide +kernel
theorem dX0_readFrom_69 : decode cX0_readFrom 69 = .ok (.aload_n 1, 1) := by decide +kernel
theorem dX0_readFrom_70 : decode cX0_readFrom 70 = .ok (.iload_n 2, 1) := by decide +kernel
theorem dX0_readFrom_71 : decode cX0_readFrom 71 = .ok (.invokevirtual 55, 3) := by decide +kernel
theorem dX0_readFrom_74 : decode cX0_readFrom 74 = .ok (.iastore, 1) := by decide +kernel
theorem dX0_readFrom_75 : decode cX0_readFrom 75 = .ok (.aload_n 0, 1) := by decide +kernel
theorem dX0_readFrom_76 : decode cX0_readFrom 76 = .ok (.getfield 9, 3) := by decide +kernel
theorem dX0_readFrom_79 : decode cX0_readFrom 79 = .ok (.iload_n 2, 1) := by decide +kernel
theorem dX0_readFrom_80 : decode cX0_readFrom 80 = .ok (.iaload, 1) := by decide +kernel
theorem dX0_readFrom_81 : decode cX0_readFrom 81 = .ok (.iconst 4, 1) := by decide +kernel
theorem dX0_readFrom_82 : decode cX0_readFrom 82 = .ok (.if_icmp .eq 8, 3) := by decide +kernel
theorem dX0_readFrom_85 : decode cX0_readFrom 85 = .ok (.aload_n 0, 1) := by decide +kernel
theorem dX0_readFrom_86 : decode cX0_readFrom 86 = .ok (.iload_n 2, 1) := by decide +kernel
theorem dX0_readFrom_87 : decode cX0_readFrom 87 = .ok (.invokevirtual 59, 3) := by decide +kernel
theorem dX0_readFrom_90 : decode cX0_readFrom 90 = .ok (.iinc 2 1, 3) := by decide +kernel
theorem dX0_readFrom_93 : decode cX0_readFrom 93 = .ok (.goto (-73), 3) := by decide +kernel
theorem dX0_readFrom_96 : decode cX0_readFrom 96 = .ok (.return_, 1) := by decide +kernel
theorem dX0_standUp_0 : decode cX0_standUp 0 = .ok (.aload_n 0, 1) := by decide +kernel
theorem dX0_standUp_1 : decode cX0_standUp 1 = .ok (.dup, 1) := by decide +kernel
theorem dX0_standUp_2 : decode cX0_standUp 2 = .ok (.getfield 40, 3) := by decide +kernel
theorem dX0_standUp_5 : decode cX0_standUp 5 = .ok (.iconst 1, 1) := by decide +kernel
theorem dX0_standUp_6 : decode cX0_standUp 6 = .ok (.iload_n 1, 1) := by decide +kernel
theorem dX0_standUp_7 : decode cX0_standUp 7 = .ok (.ishl, 1) := by decide +kernel
theorem dX0_standUp_8 : decode cX0_standUp 8 = .ok (.ior, 1) := by decide +kernel
theorem dX0_standUp_9 : decode cX0_standUp 9 = .ok (.putfield 40, 3) := by decide +kernel
theorem dX0_standUp_12 : decode cX0_standUp 12 = .ok (.aload_n 0, 1) := by decide +kernel
theorem dX0_standUp_13 : decode cX0_standUp 13 = .ok (.getfield 24, 3) := by decide +kernel
theorem dX0_standUp_16 : decode cX0_standUp 16 = .ok (.iload_n 1, 1) := by decide +kernel
theorem dX0_standUp_17 : decode cX0_standUp 17 = .ok (.aload_n 0, 1) := by decide +kernel
theorem dX0_standUp_18 : decode cX0_standUp 18 = .ok (.getfield 15, 3) := by decide +kernel
theorem dX0_standUp_21 : decode cX0_standUp 21 = .ok (.iload_n 1, 1) := by decide +kernel
theorem dX0_standUp_22 : decode cX0_standUp 22 = .ok (.iaload, 1) := by decide +kernel
theorem dX0_standUp_23 : decode cX0_standUp 23 = .ok (.iastore, 1) := by decide +kernel
theorem dX0_standUp_24 : decode cX0_standUp 24 = .ok (.return_, 1) := by decide +kernel
theorem dX0_size_0 : decode cX0_size 0 = .ok (.aload_n 0, 1) := by decide +kernel
theorem dX0_size_1 : decode cX0_size 1 = .ok (.getfield 36, 3) := by decide +kernel
theorem dX0_size_4 : decode cX0_size 4 = .ok (.ireturn, 1) := by decide +kernel
theorem dX0_has_0 : decode cX0_has 0 = .ok (.iload_n 1, 1) := by decide +kernel
theorem dX0_has_1 : decode cX0_has 1 = .ok (.ifCond .lt 15, 3) := by decide +kernel
theorem dX0_has_4 : decode cX0_has 4 = .ok (.iload_n 1, 1) := by decide +kernel
theorem dX0_has_5 : decode cX0_has 5 = .ok (.aload_n 0, 1) := by decide +kernel
theorem dX0_has_6 : decode cX0_has 6 = .ok (.getfield 36, 3) := by decide +kernel
theorem dX0_has_9 : decode cX0_has 9 = .ok (.if_icmp .ge 7, 3) := by decide +kernel
theorem dX0_has_12 : decode cX0_has 12 = .ok (.iconst 1, 1) := by decide +kernel
theorem dX0_has_13 : decode cX0_has 13 = .ok (.goto 4, 3) := by decide +kernel
theorem dX0_has_16 : decode cX0_has 16 = .ok (.iconst 0, 1) := by decide +kernel
theorem dX0_has_17 : decode cX0_has 17 = .ok (.ireturn, 1) := by decide +kernel
theorem dX0_stands_0 : decode cX0_stands 0 = .ok (.iload_n 1, 1) := by decide +kernel
theorem dX0_stands_1 : decode cX0_stands 1 = .ok (.ifCond .lt 27, 3) := by decide +kernel
theorem dX0_stands_4 : decode cX0_stands 4 = .ok (.iload_n 1, 1) := by decide +kernel
theorem dX0_stands_5 : decode cX0_stands 5 = .ok (.aload_n 0, 1) := by decide +kernel
theorem dX0_stands_6 : decode cX0_stands 6 = .ok (.getfield 36, 3) := by decide +kernel
theorem dX0_stands_9 : decode cX0_stands 9 = .ok (.if_icmp .ge 19, 3) := by decide +kernel
theorem dX0_stands_12 : decode cX0_stands 12 = .ok (.aload_n 0, 1) := by decide +kernel
theorem dX0_stands_13 : decode cX0_stands 13 = .ok (.getfield 40, 3) := by decide +kernel
theorem dX0_stands_16 : decode cX0_stands 16 = .ok (.iload_n 1, 1) := by decide +kernel
theorem dX0_stands_17 : decode cX0_stands 17 = .ok (.ishr, 1) := by decide +kernel
theorem dX0_stands_18 : decode cX0_stands 18 = .ok (.iconst 1, 1) := by decide +kernel
theorem dX0_stands_19 : decode cX0_stands 19 = .ok (.iand, 1) := by decide +kernel
theorem dX0_stands_20 : decode cX0_stands 20 = .ok (.iconst 1, 1) := by decide +kernel
theorem dX0_stands_21 : decode cX0_stands 21 = .ok (.if_icmp .ne 7, 3) := by decide +kernel
theorem dX0_stands_24 : decode cX0_stands 24 = .ok (.iconst 1, 1) := by decide +kernel
theorem dX0_stands_25 : decode cX0_stands 25 = .ok (.goto 4, 3) := by decide +kernel
theorem dX0_stands_28 : decode cX0_stands 28 = .ok (.iconst 0, 1) := by decide +kernel
theorem dX0_stands_29 : decode cX0_stands 29 = .ok (.ireturn, 1) := by decide +kernel
theorem dX0_standingBits_0 : decode cX0_standingBits 0 = .ok (.aload_n 0, 1) := by decide +kernel
theorem dX0_standingBits_1 : decode cX0_standingBits 1 = .ok (.getfield 40, 3) := by decide +kernel
theorem dX0_standingBits_4 : decode cX0_standingBits 4 = .ok (.ireturn, 1) := by decide +kernel
theorem dX0_hoursPassed_0 : decode cX0_hoursPassed 0 = .ok (.aload_n 0, 1) := by decide +kernel
theorem dX0_hoursPassed_1 : decode cX0_hoursPassed 1 = .ok (.getfield 43, 3) := by decide +kernel
theorem dX0_hoursPassed_4 : decode cX0_hoursPassed 4 = .ok (.ireturn, 1) := by decide +kernel
theorem dX0_kindOf_0 : decode cX0_kindOf 0 = .ok (.aload_n 0, 1) := by decide +kernel
theorem dX0_kindOf_1 : decode cX0_kindOf 1 = .ok (.iload_n 1, 1) := by decide +kernel
theorem dX0_kindOf_2 : decode cX0_kindOf 2 = .ok (.invokevirtual 63, 3) := by decide +kernel
theorem dX0_kindOf_5 : decode cX0_kindOf 5 = .ok (.ifCond .eq 12, 3) := by decide +kernel
theorem dX0_kindOf_8 : decode cX0_kindOf 8 = .ok (.aload_n 0, 1) := by decide +kernel
theorem dX0_kindOf_9 : decode cX0_kindOf 9 = .ok (.getfield 9, 3) := by decide +kernel
theorem dX0_kindOf_12 : decode cX0_kindOf 12 = .ok (.iload_n 1, 1) := by decide +kernel
theorem dX0_kindOf_13 : decode cX0_kindOf 13 = .ok (.iaload, 1) := by decide +kernel
theorem dX0_kindOf_14 : decode cX0_kindOf 14 = .ok (.goto 5, 3) := by decide +kernel
theorem dX0_kindOf_17 : decode cX0_kindOf 17 = .ok (.bipush (-9), 2) := by decide +kernel
theorem dX0_kindOf_19 : decode cX0_kindOf 19 = .ok (.ireturn, 1) := by decide +kernel
theorem dX0_stonesOf_0 : decode cX0_stonesOf 0 = .ok (.aload_n 0, 1) := by decide +kernel
theorem dX0_stonesOf_1 : decode cX0_stonesOf 1 = .ok (.iload_n 1, 1) := by decide +kernel
theorem dX0_stonesOf_2 : decode cX0_stonesOf 2 = .ok (.invokevirtual 63, 3) := by decide +kernel
theorem dX0_stonesOf_5 : decode cX0_stonesOf 5 = .ok (.ifCond .eq 12, 3) := by decide +kernel
theorem dX0_stonesOf_8 : decode cX0_stonesOf 8 = .ok (.aload_n 0, 1) := by decide +kernel
theorem dX0_stonesOf_9 : decode cX0_stonesOf 9 = .ok (.getfield 15, 3) := by decide +kernel
theorem dX0_stonesOf_12 : decode cX0_stonesOf 12 = .ok (.iload_n 1, 1) := by decide +kernel
theorem dX0_stonesOf_13 : decode cX0_stonesOf 13 = .ok (.iaload, 1) := by decide +kernel
theorem dX0_stonesOf_14 : decode cX0_stonesOf 14 = .ok (.goto 4, 3) := by decide +kernel
theorem dX0_stonesOf_17 : decode cX0_stonesOf 17 = .ok (.iconst 0, 1) := by decide +kernel
theorem dX0_stonesOf_18 : decode cX0_stonesOf 18 = .ok (.ireturn, 1) := by decide +kernel
theorem dX0_strengthOf_0 : decode cX0_strengthOf 0 = .ok (.aload_n 0, 1) := by decide +kernel
theorem dX0_strengthOf_1 : decode cX0_strengthOf 1 = .ok (.iload_n 1, 1) := by decide +kernel
theorem dX0_strengthOf_2 : decode cX0_strengthOf 2 = .ok (.invokevirtual 63, 3) := by decide +kernel
theorem dX0_strengthOf_5 : decode cX0_strengthOf 5 = .ok (.ifCond .eq 12, 3) := by decide +kernel
theorem dX0_strengthOf_8 : decode cX0_strengthOf 8 = .ok (.aload_n 0, 1) := by decide +kernel
theorem dX0_strengthOf_9 : decode cX0_strengthOf 9 = .ok (.getfield 18, 3) := by decide +kernel
theorem dX0_strengthOf_12 : decode cX0_strengthOf 12 = .ok (.iload_n 1, 1) := by decide +kernel
theorem dX0_strengthOf_13 : decode cX0_strengthOf 13 = .ok (.iaload, 1) := by decide +kernel
theorem dX0_strengthOf_14 : decode cX0_strengthOf 14 = .ok (.goto 4, 3) := by decide +kernel
theorem dX0_strengthOf_17 : decode cX0_strengthOf 17 = .ok (.iconst 0, 1) := by decide +kernel
theorem dX0_strengthOf_18 : decode cX0_strengthOf 18 = .ok (.ireturn, 1) := by decide +kernel
theorem dX0_deedOf_0 : decode cX0_deedOf 0 = .ok (.aload_n 0, 1) := by decide +kernel
theorem dX0_deedOf_1 : decode cX0_deedOf 1 = .ok (.iload_n 1, 1) := by decide +kernel
theorem dX0_deedOf_2 : decode cX0_deedOf 2 = .ok (.invokevirtual 63, 3) := by decide +kernel
theorem dX0_deedOf_5 : decode cX0_deedOf 5 = .ok (.ifCond .eq 12, 3) := by decide +kernel
theorem dX0_deedOf_8 : decode cX0_deedOf 8 = .ok (.aload_n 0, 1) := by decide +kernel
theorem dX0_deedOf_9 : decode cX0_deedOf 9 = .ok (.getfield 21, 3) := by decide +kernel
theorem dX0_deedOf_12 : decode cX0_deedOf 12 = .ok (.iload_n 1, 1) := by decide +kernel
theorem dX0_deedOf_13 : decode cX0_deedOf 13 = .ok (.iaload, 1) := by decide +kernel
theorem dX0_deedOf_14 : decode cX0_deedOf 14 = .ok (.goto 4, 3) := by decide +kernel
theorem dX0_deedOf_17 : decode cX0_deedOf 17 = .ok (.iconst 3, 1) := by decide +kernel
theorem dX0_deedOf_18 : decode cX0_deedOf 18 = .ok (.ireturn, 1) := by decide +kernel
theorem dX0_loadOf_0 : decode cX0_loadOf 0 = .ok (.aload_n 0, 1) := by decide +kernel
theorem dX0_loadOf_1 : decode cX0_loadOf 1 = .ok (.iload_n 1, 1) := by decide +kernel
theorem dX0_loadOf_2 : decode cX0_loadOf 2 = .ok (.invokevirtual 67, 3) := by decide +kernel
theorem dX0_loadOf_5 : decode cX0_loadOf 5 = .ok (.ifCond .eq 12, 3) := by decide +kernel
theorem dX0_loadOf_8 : decode cX0_loadOf 8 = .ok (.aload_n 0, 1) := by decide +kernel
theorem dX0_loadOf_9 : decode cX0_loadOf 9 = .ok (.getfield 24, 3) := by decide +kernel
theorem dX0_loadOf_12 : decode cX0_loadOf 12 = .ok (.iload_n 1, 1) := by decide +kernel
theorem dX0_loadOf_13 : decode cX0_loadOf 13 = .ok (.iaload, 1) := by decide +kernel
theorem dX0_loadOf_14 : decode cX0_loadOf 14 = .ok (.goto 4, 3) := by decide +kernel
theorem dX0_loadOf_17 : decode cX0_loadOf 17 = .ok (.iconst 0, 1) := by decide +kernel
theorem dX0_loadOf_18 : decode cX0_loadOf 18 = .ok (.ireturn, 1) := by decide +kernel
theorem dX0_givesOf_0 : decode cX0_givesOf 0 = .ok (.aload_n 0, 1) := by decide +kernel
theorem dX0_givesOf_1 : decode cX0_givesOf 1 = .ok (.iload_n 1, 1) := by decide +kernel
theorem dX0_givesOf_2 : decode cX0_givesOf 2 = .ok (.invokevirtual 67, 3) := by decide +kernel
theorem dX0_givesOf_5 : decode cX0_givesOf 5 = .ok (.ifCond .eq 21, 3) := by decide +kernel
theorem dX0_givesOf_8 : decode cX0_givesOf 8 = .ok (.aload_n 0, 1) := by decide +kernel
theorem dX0_givesOf_9 : decode cX0_givesOf 9 = .ok (.getfield 9, 3) := by decide +kernel
theorem dX0_givesOf_12 : decode cX0_givesOf 12 = .ok (.iload_n 1, 1) := by decide +kernel
theorem dX0_givesOf_13 : decode cX0_givesOf 13 = .ok (.iaload, 1) := by decide +kernel
theorem dX0_givesOf_14 : decode cX0_givesOf 14 = .ok (.aload_n 0, 1) := by decide +kernel
theorem dX0_givesOf_15 : decode cX0_givesOf 15 = .ok (.getfield 24, 3) := by decide +kernel
theorem dX0_givesOf_18 : decode cX0_givesOf 18 = .ok (.iload_n 1, 1) := by decide +kernel
theorem dX0_givesOf_19 : decode cX0_givesOf 19 = .ok (.iaload, 1) := by decide +kernel
theorem dX0_givesOf_20 : decode cX0_givesOf 20 = .ok (.invokestatic 70, 3) := by decide +kernel
theorem dX0_givesOf_23 : decode cX0_givesOf 23 = .ok (.goto 4, 3) := by decide +kernel
theorem dX0_givesOf_26 : decode cX0_givesOf 26 = .ok (.iconst 0, 1) := by decide +kernel
theorem dX0_givesOf_27 : decode cX0_givesOf 27 = .ok (.ireturn, 1) := by decide +kernel
theorem dX0_groundOf_0 : decode cX0_groundOf 0 = .ok (.aload_n 0, 1) := by decide +kernel
theorem dX0_groundOf_1 : decode cX0_groundOf 1 = .ok (.iload_n 1, 1) := by decide +kernel
theorem dX0_groundOf_2 : decode cX0_groundOf 2 = .ok (.invokevirtual 73, 3) := by decide +kernel
theorem dX0_groundOf_5 : decode cX0_groundOf 5 = .ok (.aload_n 0, 1) := by decide +kernel
theorem dX0_groundOf_6 : decode cX0_groundOf 6 = .ok (.iload_n 1, 1) := by decide +kernel
theorem dX0_groundOf_7 : decode cX0_groundOf 7 = .ok (.invokevirtual 76, 3) := by decide +kernel
theorem dX0_groundOf_10 : decode cX0_groundOf 10 = .ok (.isub, 1) := by decide +kernel
theorem dX0_groundOf_11 : decode cX0_groundOf 11 = .ok (.ireturn, 1) := by decide +kernel
theorem dX0_given_0 : decode cX0_given 0 = .ok (.iload_n 0, 1) := by decide +kernel
theorem dX0_given_1 : decode cX0_given 1 = .ok (.tableswitch 54 0 3 #[31, 35, 54, 48], 31) := by decide +kernel
theorem dX0_given_32 : decode cX0_given 32 = .ok (.iload_n 1, 1) := by decide +kernel
theorem dX0_given_33 : decode cX0_given 33 = .ok (.iconst 2, 1) := by decide +kernel
theorem dX0_given_34 : decode cX0_given 34 = .ok (.idiv, 1) := by decide +kernel
theorem dX0_given_35 : decode cX0_given 35 = .ok (.ireturn, 1) := by decide +kernel
theorem dX0_given_36 : decode cX0_given 36 = .ok (.iload_n 1, 1) := by decide +kernel
theorem dX0_given_37 : decode cX0_given 37 = .ok (.iconst 3, 1) := by decide +kernel
theorem dX0_given_38 : decode cX0_given 38 = .ok (.if_icmp .le 9, 3) := by decide +kernel
theorem dX0_given_41 : decode cX0_given 41 = .ok (.iload_n 1, 1) := by decide +kernel
theorem dX0_given_42 : decode cX0_given 42 = .ok (.iconst 3, 1) := by decide +kernel
theorem dX0_given_43 : decode cX0_given 43 = .ok (.isub, 1) := by decide +kernel
theorem dX0_given_44 : decode cX0_given 44 = .ok (.goto 4, 3) := by decide +kernel
theorem dX0_given_47 : decode cX0_given 47 = .ok (.iconst 0, 1) := by decide +kernel
theorem dX0_given_48 : decode cX0_given 48 = .ok (.ireturn, 1) := by decide +kernel
theorem dX0_given_49 : decode cX0_given 49 = .ok (.iload_n 1, 1) := by decide +kernel
theorem dX0_given_50 : decode cX0_given 50 = .ok (.iload_n 1, 1) := by decide +kernel
theorem dX0_given_51 : decode cX0_given 51 = .ok (.iconst 2, 1) := by decide +kernel
theorem dX0_given_52 : decode cX0_given 52 = .ok (.idiv, 1) := by decide +kernel
theorem dX0_given_53 : decode cX0_given 53 = .ok (.isub, 1) := by decide +kernel
theorem dX0_given_54 : decode cX0_given 54 = .ok (.ireturn, 1) := by decide +kernel
theorem dX0_given_55 : decode cX0_given 55 = .ok (.iconst 0, 1) := by decide +kernel
theorem dX0_given_56 : decode cX0_given 56 = .ok (.ireturn, 1) := by decide +kernel
theorem dX0_supportOf_0 : decode cX0_supportOf 0 = .ok (.iload_n 1, 1) := by decide +kernel
theorem dX0_supportOf_1 : decode cX0_supportOf 1 = .ok (.ifCond .lt 11, 3) := by decide +kernel
theorem dX0_supportOf_4 : decode cX0_supportOf 4 = .ok (.iload_n 1, 1) := by decide +kernel
theorem dX0_supportOf_5 : decode cX0_supportOf 5 = .ok (.aload_n 0, 1) := by decide +kernel
theorem dX0_supportOf_6 : decode cX0_supportOf 6 = .ok (.getfield 36, 3) := by decide +kernel
theorem dX0_supportOf_9 : decode cX0_supportOf 9 = .ok (.if_icmp .lt 5, 3) := by decide +kernel
theorem dX0_supportOf_12 : decode cX0_supportOf 12 = .ok (.iconst (-1), 1) := by decide +kernel
theorem dX0_supportOf_13 : decode cX0_supportOf 13 = .ok (.ireturn, 1) := by decide +kernel
theorem dX0_supportOf_14 : decode cX0_supportOf 14 = .ok (.aload_n 0, 1) := by decide +kernel
theorem dX0_supportOf_15 : decode cX0_supportOf 15 = .ok (.getfield 21, 3) := by decide +kernel
theorem dX0_supportOf_18 : decode cX0_supportOf 18 = .ok (.iload_n 1, 1) := by decide +kernel
theorem dX0_supportOf_19 : decode cX0_supportOf 19 = .ok (.iaload, 1) := by decide +kernel
theorem dX0_supportOf_20 : decode cX0_supportOf 20 = .ok (.tableswitch 39 0 2 #[28, 32, 36], 28) := by decide +kernel
theorem dX0_supportOf_48 : decode cX0_supportOf 48 = .ok (.iload_n 1, 1) := by decide +kernel
theorem dX0_supportOf_49 : decode cX0_supportOf 49 = .ok (.iconst 1, 1) := by decide +kernel
theorem dX0_supportOf_50 : decode cX0_supportOf 50 = .ok (.isub, 1) := by decide +kernel
theorem dX0_supportOf_51 : decode cX0_supportOf 51 = .ok (.ireturn, 1) := by decide +kernel
theorem dX0_supportOf_52 : decode cX0_supportOf 52 = .ok (.iload_n 1, 1) := by decide +kernel
theorem dX0_supportOf_53 : decode cX0_supportOf 53 = .ok (.iconst 1, 1) := by decide +kernel
theorem dX0_supportOf_54 : decode cX0_supportOf 54 = .ok (.iadd, 1) := by decide +kernel
theorem dX0_supportOf_55 : decode cX0_supportOf 55 = .ok (.ireturn, 1) := by decide +kernel
theorem dX0_supportOf_56 : decode cX0_supportOf 56 = .ok (.bipush (-2), 2) := by decide +kernel
theorem dX0_supportOf_58 : decode cX0_supportOf 58 = .ok (.ireturn, 1) := by decide +kernel
theorem dX0_supportOf_59 : decode cX0_supportOf 59 = .ok (.iconst (-1), 1) := by decide +kernel
theorem dX0_supportOf_60 : decode cX0_supportOf 60 = .ok (.ireturn, 1) := by decide +kernel
theorem dX0_passHour_0 : decode cX0_passHour 0 = .ok (.aload_n 0, 1) := by decide +kernel
theorem dX0_passHour_1 : decode cX0_passHour 1 = .ok (.invokevirtual 79, 3) := by decide +kernel
theorem dX0_passHour_4 : decode cX0_passHour 4 = .ok (.aload_n 0, 1) := by decide +kernel
theorem dX0_passHour_5 : decode cX0_passHour 5 = .ok (.invokevirtual 82, 3) := by decide +kernel
theorem dX0_passHour_8 : decode cX0_passHour 8 = .ok (.istore_n 1, 1) := by decide +kernel
theorem dX0_passHour_9 : decode cX0_passHour 9 = .ok (.aload_n 0, 1) := by decide +kernel
theorem dX0_passHour_10 : decode cX0_passHour 10 = .ok (.dup, 1) := by decide +kernel
theorem dX0_passHour_11 : decode cX0_passHour 11 = .ok (.getfield 40, 3) := by decide +kernel
theorem dX0_passHour_14 : decode cX0_passHour 14 = .ok (.iload_n 1, 1) := by decide +kernel
theorem dX0_passHour_15 : decode cX0_passHour 15 = .ok (.iconst (-1), 1) := by decide +kernel
theorem dX0_passHour_16 : decode cX0_passHour 16 = .ok (.ixor, 1) := by decide +kernel
theorem dX0_passHour_17 : decode cX0_passHour 17 = .ok (.iand, 1) := by decide +kernel
theorem dX0_passHour_18 : decode cX0_passHour 18 = .ok (.putfield 40, 3) := by decide +kernel
theorem dX0_passHour_21 : decode cX0_passHour 21 = .ok (.aload_n 0, 1) := by decide +kernel
theorem dX0_passHour_22 : decode cX0_passHour 22 = .ok (.dup, 1) := by decide +kernel
theorem dX0_passHour_23 : decode cX0_passHour 23 = .ok (.getfield 43, 3) := by decide +kernel
theorem dX0_passHour_26 : decode cX0_passHour 26 = .ok (.iconst 1, 1) := by decide +kernel
theorem dX0_passHour_27 : decode cX0_passHour 27 = .ok (.iadd, 1) := by decide +kernel
theorem dX0_passHour_28 : decode cX0_passHour 28 = .ok (.putfield 43, 3) := by decide +kernel
theorem dX0_passHour_31 : decode cX0_passHour 31 = .ok (.iload_n 1, 1) := by decide +kernel
theorem dX0_passHour_32 : decode cX0_passHour 32 = .ok (.invokestatic 85, 3) := by decide +kernel
theorem dX0_passHour_35 : decode cX0_passHour 35 = .ok (.ireturn, 1) := by decide +kernel
theorem dX0_passHours_0 : decode cX0_passHours 0 = .ok (.iconst 0, 1) := by decide +kernel
theorem dX0_passHours_1 : decode cX0_passHours 1 = .ok (.istore_n 2, 1) := by decide +kernel
theorem dX0_passHours_2 : decode cX0_passHours 2 = .ok (.iload_n 2, 1) := by decide +kernel
theorem dX0_passHours_3 : decode cX0_passHours 3 = .ok (.iload_n 1, 1) := by decide +kernel
theorem dX0_passHours_4 : decode cX0_passHours 4 = .ok (.if_icmp .ge 14, 3) := by decide +kernel
theorem dX0_passHours_7 : decode cX0_passHours 7 = .ok (.aload_n 0, 1) := by decide +kernel
theorem dX0_passHours_8 : decode cX0_passHours 8 = .ok (.invokevirtual 90, 3) := by decide +kernel
theorem dX0_passHours_11 : decode cX0_passHours 11 = .ok (.pop, 1) := by decide +kernel
theorem dX0_passHours_12 : decode cX0_passHours 12 = .ok (.iinc 2 1, 3) := by decide +kernel
theorem dX0_passHours_15 : decode cX0_passHours 15 = .ok (.goto (-13), 3) := by decide +kernel
theorem dX0_passHours_18 : decode cX0_passHours 18 = .ok (.return_, 1) := by decide +kernel
theorem dX0_passLoads_0 : decode cX0_passLoads 0 = .ok (.aload_n 0, 1) := by decide +kernel
theorem dX0_passLoads_1 : decode cX0_passLoads 1 = .ok (.getfield 15, 3) := by decide +kernel
theorem dX0_passLoads_4 : decode cX0_passLoads 4 = .ok (.iconst 0, 1) := by decide +kernel
theorem dX0_passLoads_5 : decode cX0_passLoads 5 = .ok (.aload_n 0, 1) := by decide +kernel
theorem dX0_passLoads_6 : decode cX0_passLoads 6 = .ok (.getfield 27, 3) := by decide +kernel
theorem dX0_passLoads_9 : decode cX0_passLoads 9 = .ok (.iconst 0, 1) := by decide +kernel
theorem dX0_passLoads_10 : decode cX0_passLoads 10 = .ok (.aload_n 0, 1) := by decide +kernel
theorem dX0_passLoads_11 : decode cX0_passLoads 11 = .ok (.getfield 36, 3) := by decide +kernel
theorem dX0_passLoads_14 : decode cX0_passLoads 14 = .ok (.invokestatic 30, 3) := by decide +kernel
theorem dX0_passLoads_17 : decode cX0_passLoads 17 = .ok (.iconst 0, 1) := by decide +kernel
theorem dX0_passLoads_18 : decode cX0_passLoads 18 = .ok (.istore_n 1, 1) := by decide +kernel
theorem dX0_passLoads_19 : decode cX0_passLoads 19 = .ok (.iload_n 1, 1) := by decide +kernel
theorem dX0_passLoads_20 : decode cX0_passLoads 20 = .ok (.aload_n 0, 1) := by decide +kernel
theorem dX0_passLoads_21 : decode cX0_passLoads 21 = .ok (.getfield 36, 3) := by decide +kernel
theorem dX0_passLoads_24 : decode cX0_passLoads 24 = .ok (.if_icmp .ge 55, 3) := by decide +kernel
theorem dX0_passLoads_27 : decode cX0_passLoads 27 = .ok (.aload_n 0, 1) := by decide +kernel
theorem dX0_passLoads_28 : decode cX0_passLoads 28 = .ok (.iload_n 1, 1) := by decide +kernel
theorem dX0_passLoads_29 : decode cX0_passLoads 29 = .ok (.invokevirtual 93, 3) := by decide +kernel
theorem dX0_passLoads_32 : decode cX0_passLoads 32 = .ok (.istore_n 2, 1) := by decide +kernel
theorem dX0_passLoads_33 : decode cX0_passLoads 33 = .ok (.aload_n 0, 1) := by decide +kernel
theorem dX0_passLoads_34 : decode cX0_passLoads 34 = .ok (.iload_n 1, 1) := by decide +kernel
theorem dX0_passLoads_35 : decode cX0_passLoads 35 = .ok (.invokevirtual 67, 3) := by decide +kernel
theorem dX0_passLoads_38 : decode cX0_passLoads 38 = .ok (.ifCond .eq 35, 3) := by decide +kernel
theorem dX0_passLoads_41 : decode cX0_passLoads 41 = .ok (.aload_n 0, 1) := by decide +kernel
theorem dX0_passLoads_42 : decode cX0_passLoads 42 = .ok (.iload_n 2, 1) := by decide +kernel
theorem dX0_passLoads_43 : decode cX0_passLoads 43 = .ok (.invokevirtual 67, 3) := by decide +kernel
theorem dX0_passLoads_46 : decode cX0_passLoads 46 = .ok (.ifCond .eq 27, 3) := by decide +kernel
theorem dX0_passLoads_49 : decode cX0_passLoads 49 = .ok (.aload_n 0, 1) := by decide +kernel
theorem dX0_passLoads_50 : decode cX0_passLoads 50 = .ok (.getfield 27, 3) := by decide +kernel
theorem dX0_passLoads_53 : decode cX0_passLoads 53 = .ok (.iload_n 2, 1) := by decide +kernel
theorem dX0_passLoads_54 : decode cX0_passLoads 54 = .ok (.dup2, 1) := by decide +kernel
theorem dX0_passLoads_55 : decode cX0_passLoads 55 = .ok (.iaload, 1) := by decide +kernel
theorem dX0_passLoads_56 : decode cX0_passLoads 56 = .ok (.aload_n 0, 1) := by decide +kernel
theorem dX0_passLoads_57 : decode cX0_passLoads 57 = .ok (.getfield 9, 3) := by decide +kernel
theorem dX0_passLoads_60 : decode cX0_passLoads 60 = .ok (.iload_n 1, 1) := by decide +kernel
theorem dX0_passLoads_61 : decode cX0_passLoads 61 = .ok (.iaload, 1) := by decide +kernel
theorem dX0_passLoads_62 : decode cX0_passLoads 62 = .ok (.aload_n 0, 1) := by decide +kernel
theorem dX0_passLoads_63 : decode cX0_passLoads 63 = .ok (.getfield 24, 3) := by decide +kernel
theorem dX0_passLoads_66 : decode cX0_passLoads 66 = .ok (.iload_n 1, 1) := by decide +kernel
theorem dX0_passLoads_67 : decode cX0_passLoads 67 = .ok (.iaload, 1) := by decide +kernel
theorem dX0_passLoads_68 : decode cX0_passLoads 68 = .ok (.invokestatic 70, 3) := by decide +kernel
theorem dX0_passLoads_71 : decode cX0_passLoads 71 = .ok (.iadd, 1) := by decide +kernel
theorem dX0_passLoads_72 : decode cX0_passLoads 72 = .ok (.iastore, 1) := by decide +kernel
theorem dX0_passLoads_73 : decode cX0_passLoads 73 = .ok (.iinc 1 1, 3) := by decide +kernel
theorem dX0_passLoads_76 : decode cX0_passLoads 76 = .ok (.goto (-57), 3) := by decide +kernel
theorem dX0_passLoads_79 : decode cX0_passLoads 79 = .ok (.aload_n 0, 1) := by decide +kernel
theorem dX0_passLoads_80 : decode cX0_passLoads 80 = .ok (.getfield 27, 3) := by decide +kernel
theorem dX0_passLoads_83 : decode cX0_passLoads 83 = .ok (.iconst 0, 1) := by decide +kernel
theorem dX0_passLoads_84 : decode cX0_passLoads 84 = .ok (.aload_n 0, 1) := by decide +kernel
theorem dX0_passLoads_85 : decode cX0_passLoads 85 = .ok (.getfield 24, 3) := by decide +kernel
theorem dX0_passLoads_88 : decode cX0_passLoads 88 = .ok (.iconst 0, 1) := by decide +kernel
theorem dX0_passLoads_89 : decode cX0_passLoads 89 = .ok (.aload_n 0, 1) := by decide +kernel
theorem dX0_passLoads_90 : decode cX0_passLoads 90 = .ok (.getfield 36, 3) := by decide +kernel
theorem dX0_passLoads_93 : decode cX0_passLoads 93 = .ok (.invokestatic 30, 3) := by decide +kernel
theorem dX0_passLoads_96 : decode cX0_passLoads 96 = .ok (.return_, 1) := by decide +kernel
theorem dX0_fallingBits_0 : decode cX0_fallingBits 0 = .ok (.iconst 0, 1) := by decide +kernel
theorem dX0_fallingBits_1 : decode cX0_fallingBits 1 = .ok (.istore_n 1, 1) := by decide +kernel
theorem dX0_fallingBits_2 : decode cX0_fallingBits 2 = .ok (.iconst 0, 1) := by decide +kernel
theorem dX0_fallingBits_3 : decode cX0_fallingBits 3 = .ok (.istore_n 2, 1) := by decide +kernel
theorem dX0_fallingBits_4 : decode cX0_fallingBits 4 = .ok (.iload_n 2, 1) := by decide +kernel
theorem dX0_fallingBits_5 : decode cX0_fallingBits 5 = .ok (.aload_n 0, 1) := by decide +kernel
theorem dX0_fallingBits_6 : decode cX0_fallingBits 6 = .ok (.getfield 36, 3) := by decide +kernel
theorem dX0_fallingBits_9 : decode cX0_fallingBits 9 = .ok (.if_icmp .ge 102, 3) := by decide +kernel
theorem dX0_fallingBits_12 : decode cX0_fallingBits 12 = .ok (.aload_n 0, 1) := by decide +kernel
theorem dX0_fallingBits_13 : decode cX0_fallingBits 13 = .ok (.iload_n 2, 1) := by decide +kernel
theorem dX0_fallingBits_14 : decode cX0_fallingBits 14 = .ok (.invokevirtual 93, 3) := by decide +kernel
theorem dX0_fallingBits_17 : decode cX0_fallingBits 17 = .ok (.istore_n 3, 1) := by decide +kernel
theorem dX0_fallingBits_18 : decode cX0_fallingBits 18 = .ok (.aload_n 0, 1) := by decide +kernel
theorem dX0_fallingBits_19 : decode cX0_fallingBits 19 = .ok (.getfield 9, 3) := by decide +kernel
theorem dX0_fallingBits_22 : decode cX0_fallingBits 22 = .ok (.iload_n 2, 1) := by decide +kernel
theorem dX0_fallingBits_23 : decode cX0_fallingBits 23 = .ok (.iaload, 1) := by decide +kernel
theorem dX0_fallingBits_24 : decode cX0_fallingBits 24 = .ok (.iconst 2, 1) := by decide +kernel
theorem dX0_fallingBits_25 : decode cX0_fallingBits 25 = .ok (.if_icmp .eq 17, 3) := by decide +kernel
theorem dX0_fallingBits_28 : decode cX0_fallingBits 28 = .ok (.iload_n 3, 1) := by decide +kernel
theorem dX0_fallingBits_29 : decode cX0_fallingBits 29 = .ok (.bipush (-2), 2) := by decide +kernel
theorem dX0_fallingBits_31 : decode cX0_fallingBits 31 = .ok (.if_icmp .eq 11, 3) := by decide +kernel
theorem dX0_fallingBits_34 : decode cX0_fallingBits 34 = .ok (.aload_n 0, 1) := by decide +kernel
theorem dX0_fallingBits_35 : decode cX0_fallingBits 35 = .ok (.iload_n 3, 1) := by decide +kernel
theorem dX0_fallingBits_36 : decode cX0_fallingBits 36 = .ok (.invokevirtual 67, 3) := by decide +kernel
theorem dX0_fallingBits_39 : decode cX0_fallingBits 39 = .ok (.ifCond .eq 7, 3) := by decide +kernel
theorem dX0_fallingBits_42 : decode cX0_fallingBits 42 = .ok (.iconst 1, 1) := by decide +kernel
theorem dX0_fallingBits_43 : decode cX0_fallingBits 43 = .ok (.goto 4, 3) := by decide +kernel
theorem dX0_fallingBits_46 : decode cX0_fallingBits 46 = .ok (.iconst 0, 1) := by decide +kernel
theorem dX0_fallingBits_47 : decode cX0_fallingBits 47 = .ok (.istore 4, 2) := by decide +kernel
theorem dX0_fallingBits_49 : decode cX0_fallingBits 49 = .ok (.aload_n 0, 1) := by decide +kernel
theorem dX0_fallingBits_50 : decode cX0_fallingBits 50 = .ok (.getfield 24, 3) := by decide +kernel
theorem dX0_fallingBits_53 : decode cX0_fallingBits 53 = .ok (.iload_n 2, 1) := by decide +kernel
theorem dX0_fallingBits_54 : decode cX0_fallingBits 54 = .ok (.iaload, 1) := by decide +kernel
theorem dX0_fallingBits_55 : decode cX0_fallingBits 55 = .ok (.aload_n 0, 1) := by decide +kernel
theorem dX0_fallingBits_56 : decode cX0_fallingBits 56 = .ok (.getfield 9, 3) := by decide +kernel
theorem dX0_fallingBits_59 : decode cX0_fallingBits 59 = .ok (.iload_n 2, 1) := by decide +kernel
theorem dX0_fallingBits_60 : decode cX0_fallingBits 60 = .ok (.iaload, 1) := by decide +kernel
theorem dX0_fallingBits_61 : decode cX0_fallingBits 61 = .ok (.aload_n 0, 1) := by decide +kernel
theorem dX0_fallingBits_62 : decode cX0_fallingBits 62 = .ok (.getfield 24, 3) := by decide +kernel
theorem dX0_fallingBits_65 : decode cX0_fallingBits 65 = .ok (.iload_n 2, 1) := by decide +kernel
theorem dX0_fallingBits_66 : decode cX0_fallingBits 66 = .ok (.iaload, 1) := by decide +kernel
theorem dX0_fallingBits_67 : decode cX0_fallingBits 67 = .ok (.invokestatic 70, 3) := by decide +kernel
theorem dX0_fallingBits_70 : decode cX0_fallingBits 70 = .ok (.isub, 1) := by decide +kernel
theorem dX0_fallingBits_71 : decode cX0_fallingBits 71 = .ok (.istore 5, 2) := by decide +kernel
theorem dX0_fallingBits_73 : decode cX0_fallingBits 73 = .ok (.aload_n 0, 1) := by decide +kernel
theorem dX0_fallingBits_74 : decode cX0_fallingBits 74 = .ok (.iload_n 2, 1) := by decide +kernel
theorem dX0_fallingBits_75 : decode cX0_fallingBits 75 = .ok (.invokevirtual 67, 3) := by decide +kernel
theorem dX0_fallingBits_78 : decode cX0_fallingBits 78 = .ok (.ifCond .eq 27, 3) := by decide +kernel
theorem dX0_fallingBits_81 : decode cX0_fallingBits 81 = .ok (.iload 4, 2) := by decide +kernel
theorem dX0_fallingBits_83 : decode cX0_fallingBits 83 = .ok (.ifCond .eq 16, 3) := by decide +kernel
theorem dX0_fallingBits_86 : decode cX0_fallingBits 86 = .ok (.iload 5, 2) := by decide +kernel
theorem dX0_fallingBits_88 : decode cX0_fallingBits 88 = .ok (.iconst 3, 1) := by decide +kernel
theorem dX0_fallingBits_89 : decode cX0_fallingBits 89 = .ok (.aload_n 0, 1) := by decide +kernel
theorem dX0_fallingBits_90 : decode cX0_fallingBits 90 = .ok (.getfield 18, 3) := by decide +kernel
theorem dX0_fallingBits_93 : decode cX0_fallingBits 93 = .ok (.iload_n 2, 1) := by decide +kernel
theorem dX0_fallingBits_94 : decode cX0_fallingBits 94 = .ok (.iaload, 1) := by decide +kernel
theorem dX0_fallingBits_95 : decode cX0_fallingBits 95 = .ok (.imul, 1) := by decide +kernel
theorem dX0_fallingBits_96 : decode cX0_fallingBits 96 = .ok (.if_icmp .le 9, 3) := by decide +kernel
theorem dX0_fallingBits_99 : decode cX0_fallingBits 99 = .ok (.iload_n 1, 1) := by decide +kernel
theorem dX0_fallingBits_100 : decode cX0_fallingBits 100 = .ok (.iconst 1, 1) := by decide +kernel
theorem dX0_fallingBits_101 : decode cX0_fallingBits 101 = .ok (.iload_n 2, 1) := by decide +kernel
theorem dX0_fallingBits_102 : decode cX0_fallingBits 102 = .ok (.ishl, 1) := by decide +kernel
theorem dX0_fallingBits_103 : decode cX0_fallingBits 103 = .ok (.ior, 1) := by decide +kernel
theorem dX0_fallingBits_104 : decode cX0_fallingBits 104 = .ok (.istore_n 1, 1) := by decide +kernel
theorem dX0_fallingBits_105 : decode cX0_fallingBits 105 = .ok (.iinc 2 1, 3) := by decide +kernel
theorem dX0_fallingBits_108 : decode cX0_fallingBits 108 = .ok (.goto (-104), 3) := by decide +kernel
theorem dX0_fallingBits_111 : decode cX0_fallingBits 111 = .ok (.iload_n 1, 1) := by decide +kernel
theorem dX0_fallingBits_112 : decode cX0_fallingBits 112 = .ok (.ireturn, 1) := by decide +kernel
theorem dX0_staysCalm_0 : decode cX0_staysCalm 0 = .ok (.iconst 0, 1) := by decide +kernel
theorem dX0_staysCalm_1 : decode cX0_staysCalm 1 = .ok (.istore_n 2, 1) := by decide +kernel
theorem dX0_staysCalm_2 : decode cX0_staysCalm 2 = .ok (.iload_n 2, 1) := by decide +kernel
theorem dX0_staysCalm_3 : decode cX0_staysCalm 3 = .ok (.iload_n 1, 1) := by decide +kernel
theorem dX0_staysCalm_4 : decode cX0_staysCalm 4 = .ok (.if_icmp .ge 18, 3) := by decide +kernel
theorem dX0_staysCalm_7 : decode cX0_staysCalm 7 = .ok (.aload_n 0, 1) := by decide +kernel
theorem dX0_staysCalm_8 : decode cX0_staysCalm 8 = .ok (.invokevirtual 90, 3) := by decide +kernel
theorem dX0_staysCalm_11 : decode cX0_staysCalm 11 = .ok (.ifCond .le 5, 3) := by decide +kernel
theorem dX0_staysCalm_14 : decode cX0_staysCalm 14 = .ok (.iconst 0, 1) := by decide +kernel
theorem dX0_staysCalm_15 : decode cX0_staysCalm 15 = .ok (.ireturn, 1) := by decide +kernel
theorem dX0_staysCalm_16 : decode cX0_staysCalm 16 = .ok (.iinc 2 1, 3) := by decide +kernel
theorem dX0_staysCalm_19 : decode cX0_staysCalm 19 = .ok (.goto (-17), 3) := by decide +kernel
theorem dX0_staysCalm_22 : decode cX0_staysCalm 22 = .ok (.iconst 1, 1) := by decide +kernel
theorem dX0_staysCalm_23 : decode cX0_staysCalm 23 = .ok (.ireturn, 1) := by decide +kernel
theorem dX0_canAdd_0 : decode cX0_canAdd 0 = .ok (.aload_n 0, 1) := by decide +kernel
theorem dX0_canAdd_1 : decode cX0_canAdd 1 = .ok (.iload_n 1, 1) := by decide +kernel
theorem dX0_canAdd_2 : decode cX0_canAdd 2 = .ok (.invokevirtual 63, 3) := by decide +kernel
theorem dX0_canAdd_5 : decode cX0_canAdd 5 = .ok (.ifCond .eq 27, 3) := by decide +kernel
theorem dX0_canAdd_8 : decode cX0_canAdd 8 = .ok (.iload_n 2, 1) := by decide +kernel
theorem dX0_canAdd_9 : decode cX0_canAdd 9 = .ok (.invokestatic 96, 3) := by decide +kernel
theorem dX0_canAdd_12 : decode cX0_canAdd 12 = .ok (.ifCond .eq 20, 3) := by decide +kernel
theorem dX0_canAdd_15 : decode cX0_canAdd 15 = .ok (.aload_n 0, 1) := by decide +kernel
theorem dX0_canAdd_16 : decode cX0_canAdd 16 = .ok (.getfield 15, 3) := by decide +kernel
theorem dX0_canAdd_19 : decode cX0_canAdd 19 = .ok (.iload_n 1, 1) := by decide +kernel
theorem dX0_canAdd_20 : decode cX0_canAdd 20 = .ok (.iaload, 1) := by decide +kernel
theorem dX0_canAdd_21 : decode cX0_canAdd 21 = .ok (.iload_n 2, 1) := by decide +kernel
theorem dX0_canAdd_22 : decode cX0_canAdd 22 = .ok (.iadd, 1) := by decide +kernel
theorem dX0_canAdd_23 : decode cX0_canAdd 23 = .ok (.bipush 99, 2) := by decide +kernel
theorem dX0_canAdd_25 : decode cX0_canAdd 25 = .ok (.if_icmp .gt 7, 3) := by decide +kernel
theorem dX0_canAdd_28 : decode cX0_canAdd 28 = .ok (.iconst 1, 1) := by decide +kernel
theorem dX0_canAdd_29 : decode cX0_canAdd 29 = .ok (.goto 4, 3) := by decide +kernel
theorem dX0_canAdd_32 : decode cX0_canAdd 32 = .ok (.iconst 0, 1) := by decide +kernel
theorem dX0_canAdd_33 : decode cX0_canAdd 33 = .ok (.ireturn, 1) := by decide +kernel
theorem dX0_addStones_0 : decode cX0_addStones 0 = .ok (.aload_n 0, 1) := by decide +kernel
theorem dX0_addStones_1 : decode cX0_addStones 1 = .ok (.iload_n 1, 1) := by decide +kernel
theorem dX0_addStones_2 : decode cX0_addStones 2 = .ok (.iload_n 2, 1) := by decide +kernel
theorem dX0_addStones_3 : decode cX0_addStones 3 = .ok (.invokevirtual 99, 3) := by decide +kernel
theorem dX0_addStones_6 : decode cX0_addStones 6 = .ok (.ifCond .ne 5, 3) := by decide +kernel
theorem dX0_addStones_9 : decode cX0_addStones 9 = .ok (.iconst 0, 1) := by decide +kernel
theorem dX0_addStones_10 : decode cX0_addStones 10 = .ok (.ireturn, 1) := by decide +kernel
theorem dX0_addStones_11 : decode cX0_addStones 11 = .ok (.aload_n 0, 1) := by decide +kernel
theorem dX0_addStones_12 : decode cX0_addStones 12 = .ok (.getfield 15, 3) := by decide +kernel
theorem dX0_addStones_15 : decode cX0_addStones 15 = .ok (.iload_n 1, 1) := by decide +kernel
theorem dX0_addStones_16 : decode cX0_addStones 16 = .ok (.dup2, 1) := by decide +kernel
theorem dX0_addStones_17 : decode cX0_addStones 17 = .ok (.iaload, 1) := by decide +kernel
theorem dX0_addStones_18 : decode cX0_addStones 18 = .ok (.iload_n 2, 1) := by decide +kernel
theorem dX0_addStones_19 : decode cX0_addStones 19 = .ok (.iadd, 1) := by decide +kernel
theorem dX0_addStones_20 : decode cX0_addStones 20 = .ok (.iastore, 1) := by decide +kernel
theorem dX0_addStones_21 : decode cX0_addStones 21 = .ok (.iconst 1, 1) := by decide +kernel
theorem dX0_addStones_22 : decode cX0_addStones 22 = .ok (.ireturn, 1) := by decide +kernel
theorem dX0_canRemove_0 : decode cX0_canRemove 0 = .ok (.aload_n 0, 1) := by decide +kernel
theorem dX0_canRemove_1 : decode cX0_canRemove 1 = .ok (.iload_n 1, 1) := by decide +kernel
theorem dX0_canRemove_2 : decode cX0_canRemove 2 = .ok (.invokevirtual 63, 3) := by decide +kernel
theorem dX0_canRemove_5 : decode cX0_canRemove 5 = .ok (.ifCond .eq 24, 3) := by decide +kernel
theorem dX0_canRemove_8 : decode cX0_canRemove 8 = .ok (.iload_n 2, 1) := by decide +kernel
theorem dX0_canRemove_9 : decode cX0_canRemove 9 = .ok (.invokestatic 96, 3) := by decide +kernel
theorem dX0_canRemove_12 : decode cX0_canRemove 12 = .ok (.ifCond .eq 17, 3) := by decide +kernel
theorem dX0_canRemove_15 : decode cX0_canRemove 15 = .ok (.aload_n 0, 1) := by decide +kernel
theorem dX0_canRemove_16 : decode cX0_canRemove 16 = .ok (.getfield 15, 3) := by decide +kernel
theorem dX0_canRemove_19 : decode cX0_canRemove 19 = .ok (.iload_n 1, 1) := by decide +kernel
theorem dX0_canRemove_20 : decode cX0_canRemove 20 = .ok (.iaload, 1) := by decide +kernel
theorem dX0_canRemove_21 : decode cX0_canRemove 21 = .ok (.iload_n 2, 1) := by decide +kernel
theorem dX0_canRemove_22 : decode cX0_canRemove 22 = .ok (.if_icmp .lt 7, 3) := by decide +kernel
theorem dX0_canRemove_25 : decode cX0_canRemove 25 = .ok (.iconst 1, 1) := by decide +kernel
theorem dX0_canRemove_26 : decode cX0_canRemove 26 = .ok (.goto 4, 3) := by decide +kernel
theorem dX0_canRemove_29 : decode cX0_canRemove 29 = .ok (.iconst 0, 1) := by decide +kernel
theorem dX0_canRemove_30 : decode cX0_canRemove 30 = .ok (.ireturn, 1) := by decide +kernel
theorem dX0_removeStones_0 : decode cX0_removeStones 0 = .ok (.aload_n 0, 1) := by decide +kernel
theorem dX0_removeStones_1 : decode cX0_removeStones 1 = .ok (.iload_n 1, 1) := by decide +kernel
theorem dX0_removeStones_2 : decode cX0_removeStones 2 = .ok (.iload_n 2, 1) := by decide +kernel
theorem dX0_removeStones_3 : decode cX0_removeStones 3 = .ok (.invokevirtual 103, 3) := by decide +kernel
theorem dX0_removeStones_6 : decode cX0_removeStones 6 = .ok (.ifCond .ne 5, 3) := by decide +kernel
theorem dX0_removeStones_9 : decode cX0_removeStones 9 = .ok (.iconst 0, 1) := by decide +kernel
theorem dX0_removeStones_10 : decode cX0_removeStones 10 = .ok (.ireturn, 1) := by decide +kernel
theorem dX0_removeStones_11 : decode cX0_removeStones 11 = .ok (.aload_n 0, 1) := by decide +kernel
theorem dX0_removeStones_12 : decode cX0_removeStones 12 = .ok (.getfield 15, 3) := by decide +kernel
theorem dX0_removeStones_15 : decode cX0_removeStones 15 = .ok (.iload_n 1, 1) := by decide +kernel
theorem dX0_removeStones_16 : decode cX0_removeStones 16 = .ok (.dup2, 1) := by decide +kernel
theorem dX0_removeStones_17 : decode cX0_removeStones 17 = .ok (.iaload, 1) := by decide +kernel
theorem dX0_removeStones_18 : decode cX0_removeStones 18 = .ok (.iload_n 2, 1) := by decide +kernel
theorem dX0_removeStones_19 : decode cX0_removeStones 19 = .ok (.isub, 1) := by decide +kernel
theorem dX0_removeStones_20 : decode cX0_removeStones 20 = .ok (.iastore, 1) := by decide +kernel
theorem dX0_removeStones_21 : decode cX0_removeStones 21 = .ok (.iconst 1, 1) := by decide +kernel
theorem dX0_removeStones_22 : decode cX0_removeStones 22 = .ok (.ireturn, 1) := by decide +kernel
theorem dX0_isDeed_0 : decode cX0_isDeed 0 = .ok (.iload_n 0, 1) := by decide +kernel
theorem dX0_isDeed_1 : decode cX0_isDeed 1 = .ok (.ifCond .lt 12, 3) := by decide +kernel
theorem dX0_isDeed_4 : decode cX0_isDeed 4 = .ok (.iload_n 0, 1) := by decide +kernel
theorem dX0_isDeed_5 : decode cX0_isDeed 5 = .ok (.iconst 2, 1) := by decide +kernel
theorem dX0_isDeed_6 : decode cX0_isDeed 6 = .ok (.if_icmp .gt 7, 3) := by decide +kernel
theorem dX0_isDeed_9 : decode cX0_isDeed 9 = .ok (.iconst 1, 1) := by decide +kernel
theorem dX0_isDeed_10 : decode cX0_isDeed 10 = .ok (.goto 4, 3) := by decide +kernel
theorem dX0_isDeed_13 : decode cX0_isDeed 13 = .ok (.iconst 0, 1) := by decide +kernel
theorem dX0_isDeed_14 : decode cX0_isDeed 14 = .ok (.ireturn, 1) := by decide +kernel
theorem dX0_writeDeed_0 : decode cX0_writeDeed 0 = .ok (.aload_n 0, 1) := by decide +kernel
theorem dX0_writeDeed_1 : decode cX0_writeDeed 1 = .ok (.iload_n 1, 1) := by decide +kernel
theorem dX0_writeDeed_2 : decode cX0_writeDeed 2 = .ok (.invokevirtual 63, 3) := by decide +kernel
theorem dX0_writeDeed_5 : decode cX0_writeDeed 5 = .ok (.ifCond .eq 20, 3) := by decide +kernel
theorem dX0_writeDeed_8 : decode cX0_writeDeed 8 = .ok (.iload_n 2, 1) := by decide +kernel
theorem dX0_writeDeed_9 : decode cX0_writeDeed 9 = .ok (.invokestatic 106, 3) := by decide +kernel
theorem dX0_writeDeed_12 : decode cX0_writeDeed 12 = .ok (.ifCond .eq 13, 3) := by decide +kernel
theorem dX0_writeDeed_15 : decode cX0_writeDeed 15 = .ok (.aload_n 0, 1) := by decide +kernel
theorem dX0_writeDeed_16 : decode cX0_writeDeed 16 = .ok (.getfield 21, 3) := by decide +kernel
theorem dX0_writeDeed_19 : decode cX0_writeDeed 19 = .ok (.iload_n 1, 1) := by decide +kernel
theorem dX0_writeDeed_20 : decode cX0_writeDeed 20 = .ok (.iaload, 1) := by decide +kernel
theorem dX0_writeDeed_21 : decode cX0_writeDeed 21 = .ok (.iload_n 2, 1) := by decide +kernel
theorem dX0_writeDeed_22 : decode cX0_writeDeed 22 = .ok (.if_icmp .ne 5, 3) := by decide +kernel
theorem dX0_writeDeed_25 : decode cX0_writeDeed 25 = .ok (.iconst 0, 1) := by decide +kernel
theorem dX0_writeDeed_26 : decode cX0_writeDeed 26 = .ok (.ireturn, 1) := by decide +kernel
theorem dX0_writeDeed_27 : decode cX0_writeDeed 27 = .ok (.aload_n 0, 1) := by decide +kernel
theorem dX0_writeDeed_28 : decode cX0_writeDeed 28 = .ok (.getfield 21, 3) := by decide +kernel
theorem dX0_writeDeed_31 : decode cX0_writeDeed 31 = .ok (.iload_n 1, 1) := by decide +kernel
theorem dX0_writeDeed_32 : decode cX0_writeDeed 32 = .ok (.iload_n 2, 1) := by decide +kernel
theorem dX0_writeDeed_33 : decode cX0_writeDeed 33 = .ok (.iastore, 1) := by decide +kernel
theorem dX0_writeDeed_34 : decode cX0_writeDeed 34 = .ok (.iconst 1, 1) := by decide +kernel
theorem dX0_writeDeed_35 : decode cX0_writeDeed 35 = .ok (.ireturn, 1) := by decide +kernel
theorem dX0_raise_0 : decode cX0_raise 0 = .ok (.aload_n 0, 1) := by decide +kernel
theorem dX0_raise_1 : decode cX0_raise 1 = .ok (.iload_n 1, 1) := by decide +kernel
theorem dX0_raise_2 : decode cX0_raise 2 = .ok (.invokevirtual 63, 3) := by decide +kernel
theorem dX0_raise_5 : decode cX0_raise 5 = .ok (.ifCond .eq 11, 3) := by decide +kernel
theorem dX0_raise_8 : decode cX0_raise 8 = .ok (.aload_n 0, 1) := by decide +kernel
theorem dX0_raise_9 : decode cX0_raise 9 = .ok (.iload_n 1, 1) := by decide +kernel
theorem dX0_raise_10 : decode cX0_raise 10 = .ok (.invokevirtual 67, 3) := by decide +kernel
theorem dX0_raise_13 : decode cX0_raise 13 = .ok (.ifCond .eq 5, 3) := by decide +kernel
theorem dX0_raise_16 : decode cX0_raise 16 = .ok (.iconst 0, 1) := by decide +kernel
theorem dX0_raise_17 : decode cX0_raise 17 = .ok (.ireturn, 1) := by decide +kernel
theorem dX0_raise_18 : decode cX0_raise 18 = .ok (.aload_n 0, 1) := by decide +kernel
theorem dX0_raise_19 : decode cX0_raise 19 = .ok (.getfield 9, 3) := by decide +kernel
theorem dX0_raise_22 : decode cX0_raise 22 = .ok (.iload_n 1, 1) := by decide +kernel
theorem dX0_raise_23 : decode cX0_raise 23 = .ok (.iaload, 1) := by decide +kernel
theorem dX0_raise_24 : decode cX0_raise 24 = .ok (.iconst 4, 1) := by decide +kernel
theorem dX0_raise_25 : decode cX0_raise 25 = .ok (.if_icmp .ne 10, 3) := by decide +kernel
theorem dX0_raise_28 : decode cX0_raise 28 = .ok (.aload_n 0, 1) := by decide +kernel
theorem dX0_raise_29 : decode cX0_raise 29 = .ok (.getfield 9, 3) := by decide +kernel
theorem dX0_raise_32 : decode cX0_raise 32 = .ok (.iload_n 1, 1) := by decide +kernel
theorem dX0_raise_33 : decode cX0_raise 33 = .ok (.iconst 0, 1) := by decide +kernel
theorem dX0_raise_34 : decode cX0_raise 34 = .ok (.iastore, 1) := by decide +kernel
theorem dX0_raise_35 : decode cX0_raise 35 = .ok (.aload_n 0, 1) := by decide +kernel
theorem dX0_raise_36 : decode cX0_raise 36 = .ok (.iload_n 1, 1) := by decide +kernel
theorem dX0_raise_37 : decode cX0_raise 37 = .ok (.invokevirtual 59, 3) := by decide +kernel
theorem dX0_raise_40 : decode cX0_raise 40 = .ok (.iconst 1, 1) := by decide +kernel
theorem dX0_raise_41 : decode cX0_raise 41 = .ok (.ireturn, 1) := by decide +kernel
theorem dX0_emptyAllBut_0 : decode cX0_emptyAllBut 0 = .ok (.iconst 0, 1) := by decide +kernel
theorem dX0_emptyAllBut_1 : decode cX0_emptyAllBut 1 = .ok (.istore_n 2, 1) := by decide +kernel
theorem dX0_emptyAllBut_2 : decode cX0_emptyAllBut 2 = .ok (.iload_n 2, 1) := by decide +kernel
theorem dX0_emptyAllBut_3 : decode cX0_emptyAllBut 3 = .ok (.aload_n 0, 1) := by decide +kernel
theorem dX0_emptyAllBut_4 : decode cX0_emptyAllBut 4 = .ok (.getfield 36, 3) := by decide +kernel
theorem dX0_emptyAllBut_7 : decode cX0_emptyAllBut 7 = .ok (.if_icmp .ge 24, 3) := by decide +kernel
theorem dX0_emptyAllBut_10 : decode cX0_emptyAllBut 10 = .ok (.iload_n 1, 1) := by decide +kernel
theorem dX0_emptyAllBut_11 : decode cX0_emptyAllBut 11 = .ok (.iload_n 2, 1) := by decide +kernel
theorem dX0_emptyAllBut_12 : decode cX0_emptyAllBut 12 = .ok (.ishr, 1) := by decide +kernel
theorem dX0_emptyAllBut_13 : decode cX0_emptyAllBut 13 = .ok (.iconst 1, 1) := by decide +kernel
theorem dX0_emptyAllBut_14 : decode cX0_emptyAllBut 14 = .ok (.iand, 1) := by decide +kernel
theorem dX0_emptyAllBut_15 : decode cX0_emptyAllBut 15 = .ok (.ifCond .ne 10, 3) := by decide +kernel
theorem dX0_emptyAllBut_18 : decode cX0_emptyAllBut 18 = .ok (.aload_n 0, 1) := by decide +kernel
theorem dX0_emptyAllBut_19 : decode cX0_emptyAllBut 19 = .ok (.getfield 15, 3) := by decide +kernel
theorem dX0_emptyAllBut_22 : decode cX0_emptyAllBut 22 = .ok (.iload_n 2, 1) := by decide +kernel
theorem dX0_emptyAllBut_23 : decode cX0_emptyAllBut 23 = .ok (.iconst 0, 1) := by decide +kernel
theorem dX0_emptyAllBut_24 : decode cX0_emptyAllBut 24 = .ok (.iastore, 1) := by decide +kernel
theorem dX0_emptyAllBut_25 : decode cX0_emptyAllBut 25 = .ok (.iinc 2 1, 3) := by decide +kernel
theorem dX0_emptyAllBut_28 : decode cX0_emptyAllBut 28 = .ok (.goto (-26), 3) := by decide +kernel
theorem dX0_emptyAllBut_31 : decode cX0_emptyAllBut 31 = .ok (.return_, 1) := by decide +kernel
theorem dX0_failDeeds_0 : decode cX0_failDeeds 0 = .ok (.iconst 0, 1) := by decide +kernel
theorem dX0_failDeeds_1 : decode cX0_failDeeds 1 = .ok (.istore_n 2, 1) := by decide +kernel
theorem dX0_failDeeds_2 : decode cX0_failDeeds 2 = .ok (.iload_n 2, 1) := by decide +kernel
theorem dX0_failDeeds_3 : decode cX0_failDeeds 3 = .ok (.aload_n 0, 1) := by decide +kernel
theorem dX0_failDeeds_4 : decode cX0_failDeeds 4 = .ok (.getfield 36, 3) := by decide +kernel
theorem dX0_failDeeds_7 : decode cX0_failDeeds 7 = .ok (.if_icmp .ge 25, 3) := by decide +kernel
theorem dX0_failDeeds_10 : decode cX0_failDeeds 10 = .ok (.iload_n 1, 1) := by decide +kernel
theorem dX0_failDeeds_11 : decode cX0_failDeeds 11 = .ok (.iload_n 2, 1) := by decide +kernel
theorem dX0_failDeeds_12 : decode cX0_failDeeds 12 = .ok (.ishr, 1) := by decide +kernel
theorem dX0_failDeeds_13 : decode cX0_failDeeds 13 = .ok (.iconst 1, 1) := by decide +kernel
theorem dX0_failDeeds_14 : decode cX0_failDeeds 14 = .ok (.iand, 1) := by decide +kernel
theorem dX0_failDeeds_15 : decode cX0_failDeeds 15 = .ok (.iconst 1, 1) := by decide +kernel
theorem dX0_failDeeds_16 : decode cX0_failDeeds 16 = .ok (.if_icmp .ne 10, 3) := by decide +kernel
theorem dX0_failDeeds_19 : decode cX0_failDeeds 19 = .ok (.aload_n 0, 1) := by decide +kernel
theorem dX0_failDeeds_20 : decode cX0_failDeeds 20 = .ok (.getfield 21, 3) := by decide +kernel
theorem dX0_failDeeds_23 : decode cX0_failDeeds 23 = .ok (.iload_n 2, 1) := by decide +kernel
theorem dX0_failDeeds_24 : decode cX0_failDeeds 24 = .ok (.iconst 3, 1) := by decide +kernel
theorem dX0_failDeeds_25 : decode cX0_failDeeds 25 = .ok (.iastore, 1) := by decide +kernel
theorem dX0_failDeeds_26 : decode cX0_failDeeds 26 = .ok (.iinc 2 1, 3) := by decide +kernel
theorem dX0_failDeeds_29 : decode cX0_failDeeds 29 = .ok (.goto (-27), 3) := by decide +kernel
theorem dX0_failDeeds_32 : decode cX0_failDeeds 32 = .ok (.return_, 1) := by decide +kernel
theorem dX0_ringBits_0 : decode cX0_ringBits 0 = .ok (.iconst 0, 1) := by decide +kernel
theorem dX0_ringBits_1 : decode cX0_ringBits 1 = .ok (.istore_n 1, 1) := by decide +kernel
theorem dX0_ringBits_2 : decode cX0_ringBits 2 = .ok (.iconst 0, 1) := by decide +kernel
theorem dX0_ringBits_3 : decode cX0_ringBits 3 = .ok (.istore_n 2, 1) := by decide +kernel
theorem dX0_ringBits_4 : decode cX0_ringBits 4 = .ok (.iload_n 2, 1) := by decide +kernel
theorem dX0_ringBits_5 : decode cX0_ringBits 5 = .ok (.iconst 1, 1) := by decide +kernel
theorem dX0_ringBits_6 : decode cX0_ringBits 6 = .ok (.iadd, 1) := by decide +kernel
theorem dX0_ringBits_7 : decode cX0_ringBits 7 = .ok (.aload_n 0, 1) := by decide +kernel
theorem dX0_ringBits_8 : decode cX0_ringBits 8 = .ok (.getfield 36, 3) := by decide +kernel
theorem dX0_ringBits_11 : decode cX0_ringBits 11 = .ok (.if_icmp .ge 36, 3) := by decide +kernel
theorem dX0_ringBits_14 : decode cX0_ringBits 14 = .ok (.aload_n 0, 1) := by decide +kernel
theorem dX0_ringBits_15 : decode cX0_ringBits 15 = .ok (.getfield 21, 3) := by decide +kernel
theorem dX0_ringBits_18 : decode cX0_ringBits 18 = .ok (.iload_n 2, 1) := by decide +kernel
theorem dX0_ringBits_19 : decode cX0_ringBits 19 = .ok (.iaload, 1) := by decide +kernel
theorem dX0_ringBits_20 : decode cX0_ringBits 20 = .ok (.iconst 1, 1) := by decide +kernel
theorem dX0_ringBits_21 : decode cX0_ringBits 21 = .ok (.if_icmp .ne 20, 3) := by decide +kernel
theorem dX0_ringBits_24 : decode cX0_ringBits 24 = .ok (.aload_n 0, 1) := by decide +kernel
theorem dX0_ringBits_25 : decode cX0_ringBits 25 = .ok (.getfield 21, 3) := by decide +kernel
theorem dX0_ringBits_28 : decode cX0_ringBits 28 = .ok (.iload_n 2, 1) := by decide +kernel
theorem dX0_ringBits_29 : decode cX0_ringBits 29 = .ok (.iconst 1, 1) := by decide +kernel
theorem dX0_ringBits_30 : decode cX0_ringBits 30 = .ok (.iadd, 1) := by decide +kernel
theorem dX0_ringBits_31 : decode cX0_ringBits 31 = .ok (.iaload, 1) := by decide +kernel
theorem dX0_ringBits_32 : decode cX0_ringBits 32 = .ok (.ifCond .ne 9, 3) := by decide +kernel
theorem dX0_ringBits_35 : decode cX0_ringBits 35 = .ok (.iload_n 1, 1) := by decide +kernel
theorem dX0_ringBits_36 : decode cX0_ringBits 36 = .ok (.iconst 3, 1) := by decide +kernel
theorem dX0_ringBits_37 : decode cX0_ringBits 37 = .ok (.iload_n 2, 1) := by decide +kernel
theorem dX0_ringBits_38 : decode cX0_ringBits 38 = .ok (.ishl, 1) := by decide +kernel
theorem dX0_ringBits_39 : decode cX0_ringBits 39 = .ok (.ior, 1) := by decide +kernel
theorem dX0_ringBits_40 : decode cX0_ringBits 40 = .ok (.istore_n 1, 1) := by decide +kernel
theorem dX0_ringBits_41 : decode cX0_ringBits 41 = .ok (.iinc 2 1, 3) := by decide +kernel
theorem dX0_ringBits_44 : decode cX0_ringBits 44 = .ok (.goto (-40), 3) := by decide +kernel
theorem dX0_ringBits_47 : decode cX0_ringBits 47 = .ok (.iload_n 1, 1) := by decide +kernel
theorem dX0_ringBits_48 : decode cX0_ringBits 48 = .ok (.ireturn, 1) := by decide +kernel
theorem dX0_allStones_0 : decode cX0_allStones 0 = .ok (.iconst 0, 1) := by decide +kernel
theorem dX0_allStones_1 : decode cX0_allStones 1 = .ok (.istore_n 1, 1) := by decide +kernel
theorem dX0_allStones_2 : decode cX0_allStones 2 = .ok (.iconst 0, 1) := by decide +kernel
theorem dX0_allStones_3 : decode cX0_allStones 3 = .ok (.istore_n 2, 1) := by decide +kernel
theorem dX0_allStones_4 : decode cX0_allStones 4 = .ok (.iload_n 2, 1) := by decide +kernel
theorem dX0_allStones_5 : decode cX0_allStones 5 = .ok (.aload_n 0, 1) := by decide +kernel
theorem dX0_allStones_6 : decode cX0_allStones 6 = .ok (.getfield 36, 3) := by decide +kernel
theorem dX0_allStones_9 : decode cX0_allStones 9 = .ok (.if_icmp .ge 18, 3) := by decide +kernel
theorem dX0_allStones_12 : decode cX0_allStones 12 = .ok (.iload_n 1, 1) := by decide +kernel
theorem dX0_allStones_13 : decode cX0_allStones 13 = .ok (.aload_n 0, 1) := by decide +kernel
theorem dX0_allStones_14 : decode cX0_allStones 14 = .ok (.getfield 15, 3) := by decide +kernel
theorem dX0_allStones_17 : decode cX0_allStones 17 = .ok (.iload_n 2, 1) := by decide +kernel
theorem dX0_allStones_18 : decode cX0_allStones 18 = .ok (.iaload, 1) := by decide +kernel
theorem dX0_allStones_19 : decode cX0_allStones 19 = .ok (.iadd, 1) := by decide +kernel
theorem dX0_allStones_20 : decode cX0_allStones 20 = .ok (.istore_n 1, 1) := by decide +kernel
theorem dX0_allStones_21 : decode cX0_allStones 21 = .ok (.iinc 2 1, 3) := by decide +kernel
theorem dX0_allStones_24 : decode cX0_allStones 24 = .ok (.goto (-20), 3) := by decide +kernel
theorem dX0_allStones_27 : decode cX0_allStones 27 = .ok (.iload_n 1, 1) := by decide +kernel
theorem dX0_allStones_28 : decode cX0_allStones 28 = .ok (.ireturn, 1) := by decide +kernel
theorem dX0_allGround_0 : decode cX0_allGround 0 = .ok (.iconst 0, 1) := by decide +kernel
theorem dX0_allGround_1 : decode cX0_allGround 1 = .ok (.istore_n 1, 1) := by decide +kernel
theorem dX0_allGround_2 : decode cX0_allGround 2 = .ok (.iconst 0, 1) := by decide +kernel
theorem dX0_allGround_3 : decode cX0_allGround 3 = .ok (.istore_n 2, 1) := by decide +kernel
theorem dX0_allGround_4 : decode cX0_allGround 4 = .ok (.iload_n 2, 1) := by decide +kernel
theorem dX0_allGround_5 : decode cX0_allGround 5 = .ok (.aload_n 0, 1) := by decide +kernel
theorem dX0_allGround_6 : decode cX0_allGround 6 = .ok (.getfield 36, 3) := by decide +kernel
theorem dX0_allGround_9 : decode cX0_allGround 9 = .ok (.if_icmp .ge 17, 3) := by decide +kernel
theorem dX0_allGround_12 : decode cX0_allGround 12 = .ok (.iload_n 1, 1) := by decide +kernel
theorem dX0_allGround_13 : decode cX0_allGround 13 = .ok (.aload_n 0, 1) := by decide +kernel
theorem dX0_allGround_14 : decode cX0_allGround 14 = .ok (.iload_n 2, 1) := by decide +kernel
theorem dX0_allGround_15 : decode cX0_allGround 15 = .ok (.invokevirtual 109, 3) := by decide +kernel
theorem dX0_allGround_18 : decode cX0_allGround 18 = .ok (.iadd, 1) := by decide +kernel
theorem dX0_allGround_19 : decode cX0_allGround 19 = .ok (.istore_n 1, 1) := by decide +kernel
theorem dX0_allGround_20 : decode cX0_allGround 20 = .ok (.iinc 2 1, 3) := by decide +kernel
theorem dX0_allGround_23 : decode cX0_allGround 23 = .ok (.goto (-19), 3) := by decide +kernel
theorem dX0_allGround_26 : decode cX0_allGround 26 = .ok (.iload_n 1, 1) := by decide +kernel
theorem dX0_allGround_27 : decode cX0_allGround 27 = .ok (.ireturn, 1) := by decide +kernel
theorem dX0_monkLoad_0 : decode cX0_monkLoad 0 = .ok (.iconst 0, 1) := by decide +kernel
theorem dX0_monkLoad_1 : decode cX0_monkLoad 1 = .ok (.istore_n 1, 1) := by decide +kernel
theorem dX0_monkLoad_2 : decode cX0_monkLoad 2 = .ok (.iconst 0, 1) := by decide +kernel
theorem dX0_monkLoad_3 : decode cX0_monkLoad 3 = .ok (.istore_n 2, 1) := by decide +kernel
theorem dX0_monkLoad_4 : decode cX0_monkLoad 4 = .ok (.iload_n 2, 1) := by decide +kernel
theorem dX0_monkLoad_5 : decode cX0_monkLoad 5 = .ok (.aload_n 0, 1) := by decide +kernel
theorem dX0_monkLoad_6 : decode cX0_monkLoad 6 = .ok (.getfield 36, 3) := by decide +kernel
theorem dX0_monkLoad_9 : decode cX0_monkLoad 9 = .ok (.if_icmp .ge 27, 3) := by decide +kernel
theorem dX0_monkLoad_12 : decode cX0_monkLoad 12 = .ok (.aload_n 0, 1) := by decide +kernel
theorem dX0_monkLoad_13 : decode cX0_monkLoad 13 = .ok (.iload_n 2, 1) := by decide +kernel
theorem dX0_monkLoad_14 : decode cX0_monkLoad 14 = .ok (.invokevirtual 93, 3) := by decide +kernel
theorem dX0_monkLoad_17 : decode cX0_monkLoad 17 = .ok (.bipush (-2), 2) := by decide +kernel
theorem dX0_monkLoad_19 : decode cX0_monkLoad 19 = .ok (.if_icmp .ne 11, 3) := by decide +kernel
theorem dX0_monkLoad_22 : decode cX0_monkLoad 22 = .ok (.iload_n 1, 1) := by decide +kernel
theorem dX0_monkLoad_23 : decode cX0_monkLoad 23 = .ok (.aload_n 0, 1) := by decide +kernel
theorem dX0_monkLoad_24 : decode cX0_monkLoad 24 = .ok (.iload_n 2, 1) := by decide +kernel
theorem dX0_monkLoad_25 : decode cX0_monkLoad 25 = .ok (.invokevirtual 76, 3) := by decide +kernel
theorem dX0_monkLoad_28 : decode cX0_monkLoad 28 = .ok (.iadd, 1) := by decide +kernel
theorem dX0_monkLoad_29 : decode cX0_monkLoad 29 = .ok (.istore_n 1, 1) := by decide +kernel
theorem dX0_monkLoad_30 : decode cX0_monkLoad 30 = .ok (.iinc 2 1, 3) := by decide +kernel
theorem dX0_monkLoad_33 : decode cX0_monkLoad 33 = .ok (.goto (-29), 3) := by decide +kernel
theorem dX0_monkLoad_36 : decode cX0_monkLoad 36 = .ok (.iload_n 1, 1) := by decide +kernel
theorem dX0_monkLoad_37 : decode cX0_monkLoad 37 = .ok (.ireturn, 1) := by decide +kernel
end
section
theorem dX1_init_0 : decode cX1_init 0 = .ok (.aload_n 0, 1) := by decide +kernel
theorem dX1_init_1 : decode cX1_init 1 = .ok (.invokespecial 3, 3) := by decide +kernel
theorem dX1_init_4 : decode cX1_init 4 = .ok (.aload_n 0, 1) := by decide +kernel
theorem dX1_init_5 : decode cX1_init 5 = .ok (.bipush 14, 2) := by decide +kernel
theorem dX1_init_7 : decode cX1_init 7 = .ok (.anewarray 9, 3) := by decide +kernel
theorem dX1_init_10 : decode cX1_init 10 = .ok (.putfield 11, 3) := by decide +kernel
theorem dX1_init_13 : decode cX1_init 13 = .ok (.iconst 0, 1) := by decide +kernel
theorem dX1_init_14 : decode cX1_init 14 = .ok (.istore_n 1, 1) := by decide +kernel
theorem dX1_init_15 : decode cX1_init 15 = .ok (.iload_n 1, 1) := by decide +kernel
theorem dX1_init_16 : decode cX1_init 16 = .ok (.bipush 14, 2) := by decide +kernel
theorem dX1_init_18 : decode cX1_init 18 = .ok (.if_icmp .ge 22, 3) := by decide +kernel
theorem dX1_init_21 : decode cX1_init 21 = .ok (.aload_n 0, 1) := by decide +kernel
theorem dX1_init_22 : decode cX1_init 22 = .ok (.getfield 11, 3) := by decide +kernel
theorem dX1_init_25 : decode cX1_init 25 = .ok (.iload_n 1, 1) := by decide +kernel
theorem dX1_init_26 : decode cX1_init 26 = .ok (.new 9, 3) := by decide +kernel
theorem dX1_init_29 : decode cX1_init 29 = .ok (.dup, 1) := by decide +kernel
theorem dX1_init_30 : decode cX1_init 30 = .ok (.invokespecial 17, 3) := by decide +kernel
theorem dX1_init_33 : decode cX1_init 33 = .ok (.aastore, 1) := by decide +kernel
theorem dX1_init_34 : decode cX1_init 34 = .ok (.iinc 1 1, 3) := by decide +kernel
theorem dX1_init_37 : decode cX1_init 37 = .ok (.goto (-22), 3) := by decide +kernel
theorem dX1_init_40 : decode cX1_init 40 = .ok (.return_, 1) := by decide +kernel
theorem dX1_size_0 : decode cX1_size 0 = .ok (.aload_n 0, 1) := by decide +kernel
theorem dX1_size_1 : decode cX1_size 1 = .ok (.getfield 18, 3) := by decide +kernel
theorem dX1_size_4 : decode cX1_size 4 = .ok (.ireturn, 1) := by decide +kernel
theorem dX1_clear_0 : decode cX1_clear 0 = .ok (.aload_n 0, 1) := by decide +kernel
theorem dX1_clear_1 : decode cX1_clear 1 = .ok (.iconst 0, 1) := by decide +kernel
theorem dX1_clear_2 : decode cX1_clear 2 = .ok (.putfield 18, 3) := by decide +kernel
theorem dX1_clear_5 : decode cX1_clear 5 = .ok (.return_, 1) := by decide +kernel
theorem dX1_remember_0 : decode cX1_remember 0 = .ok (.aload_n 0, 1) := by decide +kernel
theorem dX1_remember_1 : decode cX1_remember 1 = .ok (.getfield 18, 3) := by decide +kernel
theorem dX1_remember_4 : decode cX1_remember 4 = .ok (.bipush 14, 2) := by decide +kernel
theorem dX1_remember_6 : decode cX1_remember 6 = .ok (.if_icmp .ne 26, 3) := by decide +kernel
theorem dX1_remember_9 : decode cX1_remember 9 = .ok (.aload_n 0, 1) := by decide +kernel
theorem dX1_remember_10 : decode cX1_remember 10 = .ok (.aload_n 0, 1) := by decide +kernel
theorem dX1_remember_11 : decode cX1_remember 11 = .ok (.getfield 22, 3) := by decide +kernel
theorem dX1_remember_14 : decode cX1_remember 14 = .ok (.iconst 1, 1) := by decide +kernel
theorem dX1_remember_15 : decode cX1_remember 15 = .ok (.iadd, 1) := by decide +kernel
theorem dX1_remember_16 : decode cX1_remember 16 = .ok (.bipush 14, 2) := by decide +kernel
theorem dX1_remember_18 : decode cX1_remember 18 = .ok (.irem, 1) := by decide +kernel
theorem dX1_remember_19 : decode cX1_remember 19 = .ok (.putfield 22, 3) := by decide +kernel
theorem dX1_remember_22 : decode cX1_remember 22 = .ok (.aload_n 0, 1) := by decide +kernel
theorem dX1_remember_23 : decode cX1_remember 23 = .ok (.dup, 1) := by decide +kernel
theorem dX1_remember_24 : decode cX1_remember 24 = .ok (.getfield 18, 3) := by decide +kernel
theorem dX1_remember_27 : decode cX1_remember 27 = .ok (.iconst 1, 1) := by decide +kernel
theorem dX1_remember_28 : decode cX1_remember 28 = .ok (.isub, 1) := by decide +kernel
theorem dX1_remember_29 : decode cX1_remember 29 = .ok (.putfield 18, 3) := by decide +kernel
theorem dX1_remember_32 : decode cX1_remember 32 = .ok (.aload_n 0, 1) := by decide +kernel
theorem dX1_remember_33 : decode cX1_remember 33 = .ok (.getfield 11, 3) := by decide +kernel
theorem dX1_remember_36 : decode cX1_remember 36 = .ok (.aload_n 0, 1) := by decide +kernel
theorem dX1_remember_37 : decode cX1_remember 37 = .ok (.getfield 22, 3) := by decide +kernel
theorem dX1_remember_40 : decode cX1_remember 40 = .ok (.aload_n 0, 1) := by decide +kernel
theorem dX1_remember_41 : decode cX1_remember 41 = .ok (.getfield 18, 3) := by decide +kernel
theorem dX1_remember_44 : decode cX1_remember 44 = .ok (.iadd, 1) := by decide +kernel
theorem dX1_remember_45 : decode cX1_remember 45 = .ok (.bipush 14, 2) := by decide +kernel
theorem dX1_remember_47 : decode cX1_remember 47 = .ok (.irem, 1) := by decide +kernel
theorem dX1_remember_48 : decode cX1_remember 48 = .ok (.aaload, 1) := by decide +kernel
theorem dX1_remember_49 : decode cX1_remember 49 = .ok (.aload_n 1, 1) := by decide +kernel
theorem dX1_remember_50 : decode cX1_remember 50 = .ok (.invokevirtual 25, 3) := by decide +kernel
theorem dX1_remember_53 : decode cX1_remember 53 = .ok (.aload_n 0, 1) := by decide +kernel
theorem dX1_remember_54 : decode cX1_remember 54 = .ok (.dup, 1) := by decide +kernel
theorem dX1_remember_55 : decode cX1_remember 55 = .ok (.getfield 18, 3) := by decide +kernel
theorem dX1_remember_58 : decode cX1_remember 58 = .ok (.iconst 1, 1) := by decide +kernel
theorem dX1_remember_59 : decode cX1_remember 59 = .ok (.iadd, 1) := by decide +kernel
theorem dX1_remember_60 : decode cX1_remember 60 = .ok (.putfield 18, 3) := by decide +kernel
theorem dX1_remember_63 : decode cX1_remember 63 = .ok (.return_, 1) := by decide +kernel
theorem dX1_goBack_0 : decode cX1_goBack 0 = .ok (.aload_n 0, 1) := by decide +kernel
theorem dX1_goBack_1 : decode cX1_goBack 1 = .ok (.getfield 18, 3) := by decide +kernel
theorem dX1_goBack_4 : decode cX1_goBack 4 = .ok (.ifCond .le 34, 3) := by decide +kernel
theorem dX1_goBack_7 : decode cX1_goBack 7 = .ok (.aload_n 0, 1) := by decide +kernel
theorem dX1_goBack_8 : decode cX1_goBack 8 = .ok (.dup, 1) := by decide +kernel
theorem dX1_goBack_9 : decode cX1_goBack 9 = .ok (.getfield 18, 3) := by decide +kernel
theorem dX1_goBack_12 : decode cX1_goBack 12 = .ok (.iconst 1, 1) := by decide +kernel
theorem dX1_goBack_13 : decode cX1_goBack 13 = .ok (.isub, 1) := by decide +kernel
theorem dX1_goBack_14 : decode cX1_goBack 14 = .ok (.putfield 18, 3) := by decide +kernel
theorem dX1_goBack_17 : decode cX1_goBack 17 = .ok (.aload_n 1, 1) := by decide +kernel
theorem dX1_goBack_18 : decode cX1_goBack 18 = .ok (.aload_n 0, 1) := by decide +kernel
theorem dX1_goBack_19 : decode cX1_goBack 19 = .ok (.getfield 11, 3) := by decide +kernel
theorem dX1_goBack_22 : decode cX1_goBack 22 = .ok (.aload_n 0, 1) := by decide +kernel
theorem dX1_goBack_23 : decode cX1_goBack 23 = .ok (.getfield 22, 3) := by decide +kernel
theorem dX1_goBack_26 : decode cX1_goBack 26 = .ok (.aload_n 0, 1) := by decide +kernel
theorem dX1_goBack_27 : decode cX1_goBack 27 = .ok (.getfield 18, 3) := by decide +kernel
theorem dX1_goBack_30 : decode cX1_goBack 30 = .ok (.iadd, 1) := by decide +kernel
theorem dX1_goBack_31 : decode cX1_goBack 31 = .ok (.bipush 14, 2) := by decide +kernel
theorem dX1_goBack_33 : decode cX1_goBack 33 = .ok (.irem, 1) := by decide +kernel
theorem dX1_goBack_34 : decode cX1_goBack 34 = .ok (.aaload, 1) := by decide +kernel
theorem dX1_goBack_35 : decode cX1_goBack 35 = .ok (.invokevirtual 25, 3) := by decide +kernel
theorem dX1_goBack_38 : decode cX1_goBack 38 = .ok (.return_, 1) := by decide +kernel
theorem dX2_init_0 : decode cX2_init 0 = .ok (.aload_n 0, 1) := by decide +kernel
theorem dX2_init_1 : decode cX2_init 1 = .ok (.invokespecial 3, 3) := by decide +kernel
theorem dX2_init_4 : decode cX2_init 4 = .ok (.aload_n 0, 1) := by decide +kernel
theorem dX2_init_5 : decode cX2_init 5 = .ok (.bipush 6, 2) := by decide +kernel
theorem dX2_init_7 : decode cX2_init 7 = .ok (.newarray .int, 2) := by decide +kernel
theorem dX2_init_9 : decode cX2_init 9 = .ok (.putfield 9, 3) := by decide +kernel
theorem dX2_init_12 : decode cX2_init 12 = .ok (.aload_n 0, 1) := by decide +kernel
theorem dX2_init_13 : decode cX2_init 13 = .ok (.bipush 6, 2) := by decide +kernel
theorem dX2_init_15 : decode cX2_init 15 = .ok (.newarray .int, 2) := by decide +kernel
theorem dX2_init_17 : decode cX2_init 17 = .ok (.putfield 15, 3) := by decide +kernel
theorem dX2_init_20 : decode cX2_init 20 = .ok (.aload_n 0, 1) := by decide +kernel
theorem dX2_init_21 : decode cX2_init 21 = .ok (.bipush 6, 2) := by decide +kernel
theorem dX2_init_23 : decode cX2_init 23 = .ok (.newarray .int, 2) := by decide +kernel
theorem dX2_init_25 : decode cX2_init 25 = .ok (.putfield 18, 3) := by decide +kernel
theorem dX2_init_28 : decode cX2_init 28 = .ok (.return_, 1) := by decide +kernel
theorem dX2_size_0 : decode cX2_size 0 = .ok (.aload_n 0, 1) := by decide +kernel
theorem dX2_size_1 : decode cX2_size 1 = .ok (.getfield 21, 3) := by decide +kernel
theorem dX2_size_4 : decode cX2_size 4 = .ok (.ireturn, 1) := by decide +kernel
theorem dX2_clear_0 : decode cX2_clear 0 = .ok (.aload_n 0, 1) := by decide +kernel
theorem dX2_clear_1 : decode cX2_clear 1 = .ok (.getfield 21, 3) := by decide +kernel
theorem dX2_clear_4 : decode cX2_clear 4 = .ok (.istore_n 1, 1) := by decide +kernel
theorem dX2_clear_5 : decode cX2_clear 5 = .ok (.aload_n 0, 1) := by decide +kernel
theorem dX2_clear_6 : decode cX2_clear 6 = .ok (.iconst 0, 1) := by decide +kernel
theorem dX2_clear_7 : decode cX2_clear 7 = .ok (.putfield 21, 3) := by decide +kernel
theorem dX2_clear_10 : decode cX2_clear 10 = .ok (.iload_n 1, 1) := by decide +kernel
theorem dX2_clear_11 : decode cX2_clear 11 = .ok (.ireturn, 1) := by decide +kernel
theorem dX2_add_0 : decode cX2_add 0 = .ok (.aload_n 0, 1) := by decide +kernel
theorem dX2_add_1 : decode cX2_add 1 = .ok (.getfield 21, 3) := by decide +kernel
theorem dX2_add_4 : decode cX2_add 4 = .ok (.bipush 6, 2) := by decide +kernel
theorem dX2_add_6 : decode cX2_add 6 = .ok (.if_icmp .lt 5, 3) := by decide +kernel
theorem dX2_add_9 : decode cX2_add 9 = .ok (.iconst 0, 1) := by decide +kernel
theorem dX2_add_10 : decode cX2_add 10 = .ok (.ireturn, 1) := by decide +kernel
theorem dX2_add_11 : decode cX2_add 11 = .ok (.aload_n 0, 1) := by decide +kernel
theorem dX2_add_12 : decode cX2_add 12 = .ok (.getfield 9, 3) := by decide +kernel
theorem dX2_add_15 : decode cX2_add 15 = .ok (.aload_n 0, 1) := by decide +kernel
theorem dX2_add_16 : decode cX2_add 16 = .ok (.getfield 21, 3) := by decide +kernel
theorem dX2_add_19 : decode cX2_add 19 = .ok (.iload_n 1, 1) := by decide +kernel
theorem dX2_add_20 : decode cX2_add 20 = .ok (.iastore, 1) := by decide +kernel
theorem dX2_add_21 : decode cX2_add 21 = .ok (.aload_n 0, 1) := by decide +kernel
theorem dX2_add_22 : decode cX2_add 22 = .ok (.getfield 15, 3) := by decide +kernel
theorem dX2_add_25 : decode cX2_add 25 = .ok (.aload_n 0, 1) := by decide +kernel
theorem dX2_add_26 : decode cX2_add 26 = .ok (.getfield 21, 3) := by decide +kernel
theorem dX2_add_29 : decode cX2_add 29 = .ok (.iload_n 2, 1) := by decide +kernel
theorem dX2_add_30 : decode cX2_add 30 = .ok (.iastore, 1) := by decide +kernel
theorem dX2_add_31 : decode cX2_add 31 = .ok (.aload_n 0, 1) := by decide +kernel
theorem dX2_add_32 : decode cX2_add 32 = .ok (.getfield 18, 3) := by decide +kernel
theorem dX2_add_35 : decode cX2_add 35 = .ok (.aload_n 0, 1) := by decide +kernel
theorem dX2_add_36 : decode cX2_add 36 = .ok (.getfield 21, 3) := by decide +kernel
theorem dX2_add_39 : decode cX2_add 39 = .ok (.iload_n 3, 1) := by decide +kernel
theorem dX2_add_40 : decode cX2_add 40 = .ok (.iastore, 1) := by decide +kernel
theorem dX2_add_41 : decode cX2_add 41 = .ok (.aload_n 0, 1) := by decide +kernel
theorem dX2_add_42 : decode cX2_add 42 = .ok (.dup, 1) := by decide +kernel
theorem dX2_add_43 : decode cX2_add 43 = .ok (.getfield 21, 3) := by decide +kernel
theorem dX2_add_46 : decode cX2_add 46 = .ok (.iconst 1, 1) := by decide +kernel
theorem dX2_add_47 : decode cX2_add 47 = .ok (.iadd, 1) := by decide +kernel
theorem dX2_add_48 : decode cX2_add 48 = .ok (.putfield 21, 3) := by decide +kernel
theorem dX2_add_51 : decode cX2_add 51 = .ok (.iconst 1, 1) := by decide +kernel
theorem dX2_add_52 : decode cX2_add 52 = .ok (.ireturn, 1) := by decide +kernel
theorem dX2_agrees_0 : decode cX2_agrees 0 = .ok (.iconst 0, 1) := by decide +kernel
theorem dX2_agrees_1 : decode cX2_agrees 1 = .ok (.istore_n 3, 1) := by decide +kernel
theorem dX2_agrees_2 : decode cX2_agrees 2 = .ok (.iload_n 3, 1) := by decide +kernel
theorem dX2_agrees_3 : decode cX2_agrees 3 = .ok (.aload_n 0, 1) := by decide +kernel
theorem dX2_agrees_4 : decode cX2_agrees 4 = .ok (.getfield 21, 3) := by decide +kernel
theorem dX2_agrees_7 : decode cX2_agrees 7 = .ok (.if_icmp .ge 49, 3) := by decide +kernel
theorem dX2_agrees_10 : decode cX2_agrees 10 = .ok (.aload_n 0, 1) := by decide +kernel
theorem dX2_agrees_11 : decode cX2_agrees 11 = .ok (.getfield 9, 3) := by decide +kernel
theorem dX2_agrees_14 : decode cX2_agrees 14 = .ok (.iload_n 3, 1) := by decide +kernel
theorem dX2_agrees_15 : decode cX2_agrees 15 = .ok (.iaload, 1) := by decide +kernel
theorem dX2_agrees_16 : decode cX2_agrees 16 = .ok (.iload_n 1, 1) := by decide +kernel
theorem dX2_agrees_17 : decode cX2_agrees 17 = .ok (.if_icmp .ne 33, 3) := by decide +kernel
theorem dX2_agrees_20 : decode cX2_agrees 20 = .ok (.aload_n 2, 1) := by decide +kernel
theorem dX2_agrees_21 : decode cX2_agrees 21 = .ok (.aload_n 0, 1) := by decide +kernel
theorem dX2_agrees_22 : decode cX2_agrees 22 = .ok (.getfield 15, 3) := by decide +kernel
theorem dX2_agrees_25 : decode cX2_agrees 25 = .ok (.iload_n 3, 1) := by decide +kernel
theorem dX2_agrees_26 : decode cX2_agrees 26 = .ok (.iaload, 1) := by decide +kernel
theorem dX2_agrees_27 : decode cX2_agrees 27 = .ok (.invokevirtual 25, 3) := by decide +kernel
theorem dX2_agrees_30 : decode cX2_agrees 30 = .ok (.aload_n 0, 1) := by decide +kernel
theorem dX2_agrees_31 : decode cX2_agrees 31 = .ok (.getfield 18, 3) := by decide +kernel
theorem dX2_agrees_34 : decode cX2_agrees 34 = .ok (.iload_n 3, 1) := by decide +kernel
theorem dX2_agrees_35 : decode cX2_agrees 35 = .ok (.iaload, 1) := by decide +kernel
theorem dX2_agrees_36 : decode cX2_agrees 36 = .ok (.iconst 1, 1) := by decide +kernel
theorem dX2_agrees_37 : decode cX2_agrees 37 = .ok (.if_icmp .ne 7, 3) := by decide +kernel
theorem dX2_agrees_40 : decode cX2_agrees 40 = .ok (.iconst 1, 1) := by decide +kernel
theorem dX2_agrees_41 : decode cX2_agrees 41 = .ok (.goto 4, 3) := by decide +kernel
theorem dX2_agrees_44 : decode cX2_agrees 44 = .ok (.iconst 0, 1) := by decide +kernel
theorem dX2_agrees_45 : decode cX2_agrees 45 = .ok (.if_icmp .eq 5, 3) := by decide +kernel
theorem dX2_agrees_48 : decode cX2_agrees 48 = .ok (.iconst 0, 1) := by decide +kernel
theorem dX2_agrees_49 : decode cX2_agrees 49 = .ok (.ireturn, 1) := by decide +kernel
theorem dX2_agrees_50 : decode cX2_agrees 50 = .ok (.iinc 3 1, 3) := by decide +kernel
theorem dX2_agrees_53 : decode cX2_agrees 53 = .ok (.goto (-51), 3) := by decide +kernel
theorem dX2_agrees_56 : decode cX2_agrees 56 = .ok (.iconst 1, 1) := by decide +kernel
theorem dX2_agrees_57 : decode cX2_agrees 57 = .ok (.ireturn, 1) := by decide +kernel
theorem dX3_init_0 : decode cX3_init 0 = .ok (.aload_n 0, 1) := by decide +kernel
theorem dX3_init_1 : decode cX3_init 1 = .ok (.invokespecial 5, 3) := by decide +kernel
theorem dX3_init_4 : decode cX3_init 4 = .ok (.aload_n 0, 1) := by decide +kernel
theorem dX3_init_5 : decode cX3_init 5 = .ok (.bipush 64, 2) := by decide +kernel
theorem dX3_init_7 : decode cX3_init 7 = .ok (.newarray .char, 2) := by decide +kernel
theorem dX3_init_9 : decode cX3_init 9 = .ok (.putfield 11, 3) := by decide +kernel
theorem dX3_init_12 : decode cX3_init 12 = .ok (.return_, 1) := by decide +kernel
theorem dX3_length_0 : decode cX3_length 0 = .ok (.aload_n 0, 1) := by decide +kernel
theorem dX3_length_1 : decode cX3_length 1 = .ok (.getfield 15, 3) := by decide +kernel
theorem dX3_length_4 : decode cX3_length 4 = .ok (.ireturn, 1) := by decide +kernel
theorem dX3_append_0 : decode cX3_append 0 = .ok (.aload_n 0, 1) := by decide +kernel
theorem dX3_append_1 : decode cX3_append 1 = .ok (.getfield 15, 3) := by decide +kernel
theorem dX3_append_4 : decode cX3_append 4 = .ok (.bipush 64, 2) := by decide +kernel
theorem dX3_append_6 : decode cX3_append 6 = .ok (.if_icmp .lt 5, 3) := by decide +kernel
theorem dX3_append_9 : decode cX3_append 9 = .ok (.iconst 0, 1) := by decide +kernel
theorem dX3_append_10 : decode cX3_append 10 = .ok (.ireturn, 1) := by decide +kernel
theorem dX3_append_11 : decode cX3_append 11 = .ok (.aload_n 0, 1) := by decide +kernel
theorem dX3_append_12 : decode cX3_append 12 = .ok (.getfield 11, 3) := by decide +kernel
theorem dX3_append_15 : decode cX3_append 15 = .ok (.aload_n 0, 1) := by decide +kernel
theorem dX3_append_16 : decode cX3_append 16 = .ok (.getfield 15, 3) := by decide +kernel
theorem dX3_append_19 : decode cX3_append 19 = .ok (.iload_n 1, 1) := by decide +kernel
theorem dX3_append_20 : decode cX3_append 20 = .ok (.i2c, 1) := by decide +kernel
theorem dX3_append_21 : decode cX3_append 21 = .ok (.castore, 1) := by decide +kernel
theorem dX3_append_22 : decode cX3_append 22 = .ok (.aload_n 0, 1) := by decide +kernel
theorem dX3_append_23 : decode cX3_append 23 = .ok (.dup, 1) := by decide +kernel
theorem dX3_append_24 : decode cX3_append 24 = .ok (.getfield 15, 3) := by decide +kernel
theorem dX3_append_27 : decode cX3_append 27 = .ok (.iconst 1, 1) := by decide +kernel
theorem dX3_append_28 : decode cX3_append 28 = .ok (.iadd, 1) := by decide +kernel
theorem dX3_append_29 : decode cX3_append 29 = .ok (.putfield 15, 3) := by decide +kernel
theorem dX3_append_32 : decode cX3_append 32 = .ok (.iconst 1, 1) := by decide +kernel
theorem dX3_append_33 : decode cX3_append 33 = .ok (.ireturn, 1) := by decide +kernel
theorem dX3_clear_0 : decode cX3_clear 0 = .ok (.aload_n 0, 1) := by decide +kernel
theorem dX3_clear_1 : decode cX3_clear 1 = .ok (.getfield 15, 3) := by decide +kernel
theorem dX3_clear_4 : decode cX3_clear 4 = .ok (.istore_n 1, 1) := by decide +kernel
theorem dX3_clear_5 : decode cX3_clear 5 = .ok (.aload_n 0, 1) := by decide +kernel
theorem dX3_clear_6 : decode cX3_clear 6 = .ok (.iconst 0, 1) := by decide +kernel
theorem dX3_clear_7 : decode cX3_clear 7 = .ok (.putfield 15, 3) := by decide +kernel
theorem dX3_clear_10 : decode cX3_clear 10 = .ok (.iload_n 1, 1) := by decide +kernel
theorem dX3_clear_11 : decode cX3_clear 11 = .ok (.ireturn, 1) := by decide +kernel
theorem dX3_firstFault_0 : decode cX3_firstFault 0 = .ok (.iconst 0, 1) := by decide +kernel
theorem dX3_firstFault_1 : decode cX3_firstFault 1 = .ok (.istore_n 1, 1) := by decide +kernel
theorem dX3_firstFault_2 : decode cX3_firstFault 2 = .ok (.iload_n 1, 1) := by decide +kernel
theorem dX3_firstFault_3 : decode cX3_firstFault 3 = .ok (.aload_n 0, 1) := by decide +kernel
theorem dX3_firstFault_4 : decode cX3_firstFault 4 = .ok (.getfield 15, 3) := by decide +kernel
theorem dX3_firstFault_7 : decode cX3_firstFault 7 = .ok (.if_icmp .ge 24, 3) := by decide +kernel
theorem dX3_firstFault_10 : decode cX3_firstFault 10 = .ok (.aload_n 0, 1) := by decide +kernel
theorem dX3_firstFault_11 : decode cX3_firstFault 11 = .ok (.getfield 11, 3) := by decide +kernel
theorem dX3_firstFault_14 : decode cX3_firstFault 14 = .ok (.iload_n 1, 1) := by decide +kernel
theorem dX3_firstFault_15 : decode cX3_firstFault 15 = .ok (.caload, 1) := by decide +kernel
theorem dX3_firstFault_16 : decode cX3_firstFault 16 = .ok (.iload_n 1, 1) := by decide +kernel
theorem dX3_firstFault_17 : decode cX3_firstFault 17 = .ok (.invokestatic 19, 3) := by decide +kernel
theorem dX3_firstFault_20 : decode cX3_firstFault 20 = .ok (.ifCond .ne 5, 3) := by decide +kernel
theorem dX3_firstFault_23 : decode cX3_firstFault 23 = .ok (.iload_n 1, 1) := by decide +kernel
theorem dX3_firstFault_24 : decode cX3_firstFault 24 = .ok (.ireturn, 1) := by decide +kernel
theorem dX3_firstFault_25 : decode cX3_firstFault 25 = .ok (.iinc 1 1, 3) := by decide +kernel
theorem dX3_firstFault_28 : decode cX3_firstFault 28 = .ok (.goto (-26), 3) := by decide +kernel
theorem dX3_firstFault_31 : decode cX3_firstFault 31 = .ok (.aload_n 0, 1) := by decide +kernel
theorem dX3_firstFault_32 : decode cX3_firstFault 32 = .ok (.getfield 15, 3) := by decide +kernel
theorem dX3_firstFault_35 : decode cX3_firstFault 35 = .ok (.iconst 5, 1) := by decide +kernel
theorem dX3_firstFault_36 : decode cX3_firstFault 36 = .ok (.irem, 1) := by decide +kernel
theorem dX3_firstFault_37 : decode cX3_firstFault 37 = .ok (.iconst 1, 1) := by decide +kernel
theorem dX3_firstFault_38 : decode cX3_firstFault 38 = .ok (.if_icmp .ne 8, 3) := by decide +kernel
theorem dX3_firstFault_41 : decode cX3_firstFault 41 = .ok (.bipush (-9), 2) := by decide +kernel
theorem dX3_firstFault_43 : decode cX3_firstFault 43 = .ok (.goto 7, 3) := by decide +kernel
theorem dX3_firstFault_46 : decode cX3_firstFault 46 = .ok (.aload_n 0, 1) := by decide +kernel
theorem dX3_firstFault_47 : decode cX3_firstFault 47 = .ok (.getfield 15, 3) := by decide +kernel
theorem dX3_firstFault_50 : decode cX3_firstFault 50 = .ok (.ireturn, 1) := by decide +kernel
theorem dX3_fits_0 : decode cX3_fits 0 = .ok (.iload_n 1, 1) := by decide +kernel
theorem dX3_fits_1 : decode cX3_fits 1 = .ok (.ifCond .ne 15, 3) := by decide +kernel
theorem dX3_fits_4 : decode cX3_fits 4 = .ok (.iload_n 0, 1) := by decide +kernel
theorem dX3_fits_5 : decode cX3_fits 5 = .ok (.bipush 65, 2) := by decide +kernel
theorem dX3_fits_7 : decode cX3_fits 7 = .ok (.if_icmp .ne 7, 3) := by decide +kernel
theorem dX3_fits_10 : decode cX3_fits 10 = .ok (.iconst 1, 1) := by decide +kernel
theorem dX3_fits_11 : decode cX3_fits 11 = .ok (.goto 4, 3) := by decide +kernel
theorem dX3_fits_14 : decode cX3_fits 14 = .ok (.iconst 0, 1) := by decide +kernel
theorem dX3_fits_15 : decode cX3_fits 15 = .ok (.ireturn, 1) := by decide +kernel
theorem dX3_fits_16 : decode cX3_fits 16 = .ok (.iload_n 1, 1) := by decide +kernel
theorem dX3_fits_17 : decode cX3_fits 17 = .ok (.bipush 31, 2) := by decide +kernel
theorem dX3_fits_19 : decode cX3_fits 19 = .ok (.if_icmp .lt 5, 3) := by decide +kernel
theorem dX3_fits_22 : decode cX3_fits 22 = .ok (.iconst 0, 1) := by decide +kernel
theorem dX3_fits_23 : decode cX3_fits 23 = .ok (.ireturn, 1) := by decide +kernel
theorem dX3_fits_24 : decode cX3_fits 24 = .ok (.iload_n 1, 1) := by decide +kernel
theorem dX3_fits_25 : decode cX3_fits 25 = .ok (.iconst 1, 1) := by decide +kernel
theorem dX3_fits_26 : decode cX3_fits 26 = .ok (.isub, 1) := by decide +kernel
theorem dX3_fits_27 : decode cX3_fits 27 = .ok (.iconst 5, 1) := by decide +kernel
theorem dX3_fits_28 : decode cX3_fits 28 = .ok (.irem, 1) := by decide +kernel
theorem dX3_fits_29 : decode cX3_fits 29 = .ok (.tableswitch 89 0 4 #[35, 47, 89, 89, 65], 35) := by decide +kernel
theorem dX3_fits_64 : decode cX3_fits 64 = .ok (.iload_n 0, 1) := by decide +kernel
theorem dX3_fits_65 : decode cX3_fits 65 = .ok (.bipush 72, 2) := by decide +kernel
theorem dX3_fits_67 : decode cX3_fits 67 = .ok (.if_icmp .ne 7, 3) := by decide +kernel
theorem dX3_fits_70 : decode cX3_fits 70 = .ok (.iconst 1, 1) := by decide +kernel
theorem dX3_fits_71 : decode cX3_fits 71 = .ok (.goto 4, 3) := by decide +kernel
theorem dX3_fits_74 : decode cX3_fits 74 = .ok (.iconst 0, 1) := by decide +kernel
theorem dX3_fits_75 : decode cX3_fits 75 = .ok (.ireturn, 1) := by decide +kernel
theorem dX3_fits_76 : decode cX3_fits 76 = .ok (.iload_n 0, 1) := by decide +kernel
theorem dX3_fits_77 : decode cX3_fits 77 = .ok (.bipush 48, 2) := by decide +kernel
theorem dX3_fits_79 : decode cX3_fits 79 = .ok (.if_icmp .lt 13, 3) := by decide +kernel
theorem dX3_fits_82 : decode cX3_fits 82 = .ok (.iload_n 0, 1) := by decide +kernel
theorem dX3_fits_83 : decode cX3_fits 83 = .ok (.bipush 52, 2) := by decide +kernel
theorem dX3_fits_85 : decode cX3_fits 85 = .ok (.if_icmp .gt 7, 3) := by decide +kernel
theorem dX3_fits_88 : decode cX3_fits 88 = .ok (.iconst 1, 1) := by decide +kernel
theorem dX3_fits_89 : decode cX3_fits 89 = .ok (.goto 4, 3) := by decide +kernel
theorem dX3_fits_92 : decode cX3_fits 92 = .ok (.iconst 0, 1) := by decide +kernel
theorem dX3_fits_93 : decode cX3_fits 93 = .ok (.ireturn, 1) := by decide +kernel
theorem dX3_fits_94 : decode cX3_fits 94 = .ok (.iload_n 0, 1) := by decide +kernel
theorem dX3_fits_95 : decode cX3_fits 95 = .ok (.bipush 108, 2) := by decide +kernel
theorem dX3_fits_97 : decode cX3_fits 97 = .ok (.if_icmp .eq 15, 3) := by decide +kernel
theorem dX3_fits_100 : decode cX3_fits 100 = .ok (.iload_n 0, 1) := by decide +kernel
theorem dX3_fits_101 : decode cX3_fits 101 = .ok (.bipush 114, 2) := by decide +kernel
theorem dX3_fits_103 : decode cX3_fits 103 = .ok (.if_icmp .eq 9, 3) := by decide +kernel
theorem dX3_fits_106 : decode cX3_fits 106 = .ok (.iload_n 0, 1) := by decide +kernel
theorem dX3_fits_107 : decode cX3_fits 107 = .ok (.bipush 109, 2) := by decide +kernel
theorem dX3_fits_109 : decode cX3_fits 109 = .ok (.if_icmp .ne 7, 3) := by decide +kernel
theorem dX3_fits_112 : decode cX3_fits 112 = .ok (.iconst 1, 1) := by decide +kernel
theorem dX3_fits_113 : decode cX3_fits 113 = .ok (.goto 4, 3) := by decide +kernel
theorem dX3_fits_116 : decode cX3_fits 116 = .ok (.iconst 0, 1) := by decide +kernel
theorem dX3_fits_117 : decode cX3_fits 117 = .ok (.ireturn, 1) := by decide +kernel
theorem dX3_fits_118 : decode cX3_fits 118 = .ok (.iload_n 0, 1) := by decide +kernel
theorem dX3_fits_119 : decode cX3_fits 119 = .ok (.bipush 48, 2) := by decide +kernel
theorem dX3_fits_121 : decode cX3_fits 121 = .ok (.if_icmp .lt 13, 3) := by decide +kernel
theorem dX3_fits_124 : decode cX3_fits 124 = .ok (.iload_n 0, 1) := by decide +kernel
theorem dX3_fits_125 : decode cX3_fits 125 = .ok (.bipush 57, 2) := by decide +kernel
theorem dX3_fits_127 : decode cX3_fits 127 = .ok (.if_icmp .gt 7, 3) := by decide +kernel
theorem dX3_fits_130 : decode cX3_fits 130 = .ok (.iconst 1, 1) := by decide +kernel
theorem dX3_fits_131 : decode cX3_fits 131 = .ok (.goto 4, 3) := by decide +kernel
theorem dX3_fits_134 : decode cX3_fits 134 = .ok (.iconst 0, 1) := by decide +kernel
theorem dX3_fits_135 : decode cX3_fits 135 = .ok (.ireturn, 1) := by decide +kernel
theorem dX3_houses_0 : decode cX3_houses 0 = .ok (.bipush 6, 2) := by decide +kernel
theorem dX3_houses_2 : decode cX3_houses 2 = .ok (.aload_n 0, 1) := by decide +kernel
theorem dX3_houses_3 : decode cX3_houses 3 = .ok (.getfield 15, 3) := by decide +kernel
theorem dX3_houses_6 : decode cX3_houses 6 = .ok (.iconst 5, 1) := by decide +kernel
theorem dX3_houses_7 : decode cX3_houses 7 = .ok (.idiv, 1) := by decide +kernel
theorem dX3_houses_8 : decode cX3_houses 8 = .ok (.invokestatic 23, 3) := by decide +kernel
theorem dX3_houses_11 : decode cX3_houses 11 = .ok (.ireturn, 1) := by decide +kernel
theorem dX3_numberOf_0 : decode cX3_numberOf 0 = .ok (.aload_n 0, 1) := by decide +kernel
theorem dX3_numberOf_1 : decode cX3_numberOf 1 = .ok (.iload_n 1, 1) := by decide +kernel
theorem dX3_numberOf_2 : decode cX3_numberOf 2 = .ok (.iload_n 2, 1) := by decide +kernel
theorem dX3_numberOf_3 : decode cX3_numberOf 3 = .ok (.invokevirtual 29, 3) := by decide +kernel
theorem dX3_numberOf_6 : decode cX3_numberOf 6 = .ok (.bipush 48, 2) := by decide +kernel
theorem dX3_numberOf_8 : decode cX3_numberOf 8 = .ok (.isub, 1) := by decide +kernel
theorem dX3_numberOf_9 : decode cX3_numberOf 9 = .ok (.ireturn, 1) := by decide +kernel
theorem dX3_deedOf_0 : decode cX3_deedOf 0 = .ok (.aload_n 0, 1) := by decide +kernel
theorem dX3_deedOf_1 : decode cX3_deedOf 1 = .ok (.iload_n 1, 1) := by decide +kernel
theorem dX3_deedOf_2 : decode cX3_deedOf 2 = .ok (.iconst 3, 1) := by decide +kernel
theorem dX3_deedOf_3 : decode cX3_deedOf 3 = .ok (.invokevirtual 29, 3) := by decide +kernel
theorem dX3_deedOf_6 : decode cX3_deedOf 6 = .ok (.istore_n 2, 1) := by decide +kernel
theorem dX3_deedOf_7 : decode cX3_deedOf 7 = .ok (.iload_n 2, 1) := by decide +kernel
theorem dX3_deedOf_8 : decode cX3_deedOf 8 = .ok (.bipush 108, 2) := by decide +kernel
theorem dX3_deedOf_10 : decode cX3_deedOf 10 = .ok (.if_icmp .ne 5, 3) := by decide +kernel
theorem dX3_deedOf_13 : decode cX3_deedOf 13 = .ok (.iconst 0, 1) := by decide +kernel
theorem dX3_deedOf_14 : decode cX3_deedOf 14 = .ok (.ireturn, 1) := by decide +kernel
theorem dX3_deedOf_15 : decode cX3_deedOf 15 = .ok (.iload_n 2, 1) := by decide +kernel
theorem dX3_deedOf_16 : decode cX3_deedOf 16 = .ok (.bipush 114, 2) := by decide +kernel
theorem dX3_deedOf_18 : decode cX3_deedOf 18 = .ok (.if_icmp .ne 7, 3) := by decide +kernel
theorem dX3_deedOf_21 : decode cX3_deedOf 21 = .ok (.iconst 1, 1) := by decide +kernel
theorem dX3_deedOf_22 : decode cX3_deedOf 22 = .ok (.goto 4, 3) := by decide +kernel
theorem dX3_deedOf_25 : decode cX3_deedOf 25 = .ok (.iconst 2, 1) := by decide +kernel
theorem dX3_deedOf_26 : decode cX3_deedOf 26 = .ok (.ireturn, 1) := by decide +kernel
theorem dX3_letterOf_0 : decode cX3_letterOf 0 = .ok (.iconst 2, 1) := by decide +kernel
theorem dX3_letterOf_1 : decode cX3_letterOf 1 = .ok (.iconst 5, 1) := by decide +kernel
theorem dX3_letterOf_2 : decode cX3_letterOf 2 = .ok (.iload_n 1, 1) := by decide +kernel
theorem dX3_letterOf_3 : decode cX3_letterOf 3 = .ok (.imul, 1) := by decide +kernel
theorem dX3_letterOf_4 : decode cX3_letterOf 4 = .ok (.iadd, 1) := by decide +kernel
theorem dX3_letterOf_5 : decode cX3_letterOf 5 = .ok (.iload_n 2, 1) := by decide +kernel
theorem dX3_letterOf_6 : decode cX3_letterOf 6 = .ok (.iadd, 1) := by decide +kernel
theorem dX3_letterOf_7 : decode cX3_letterOf 7 = .ok (.istore_n 3, 1) := by decide +kernel
theorem dX3_letterOf_8 : decode cX3_letterOf 8 = .ok (.iload_n 3, 1) := by decide +kernel
theorem dX3_letterOf_9 : decode cX3_letterOf 9 = .ok (.ifCond .lt 20, 3) := by decide +kernel
theorem dX3_letterOf_12 : decode cX3_letterOf 12 = .ok (.iload_n 3, 1) := by decide +kernel
theorem dX3_letterOf_13 : decode cX3_letterOf 13 = .ok (.aload_n 0, 1) := by decide +kernel
theorem dX3_letterOf_14 : decode cX3_letterOf 14 = .ok (.getfield 15, 3) := by decide +kernel
theorem dX3_letterOf_17 : decode cX3_letterOf 17 = .ok (.if_icmp .ge 12, 3) := by decide +kernel
theorem dX3_letterOf_20 : decode cX3_letterOf 20 = .ok (.aload_n 0, 1) := by decide +kernel
theorem dX3_letterOf_21 : decode cX3_letterOf 21 = .ok (.getfield 11, 3) := by decide +kernel
theorem dX3_letterOf_24 : decode cX3_letterOf 24 = .ok (.iload_n 3, 1) := by decide +kernel
theorem dX3_letterOf_25 : decode cX3_letterOf 25 = .ok (.caload, 1) := by decide +kernel
theorem dX3_letterOf_26 : decode cX3_letterOf 26 = .ok (.goto 5, 3) := by decide +kernel
theorem dX3_letterOf_29 : decode cX3_letterOf 29 = .ok (.bipush 48, 2) := by decide +kernel
theorem dX3_letterOf_31 : decode cX3_letterOf 31 = .ok (.ireturn, 1) := by decide +kernel
theorem dJ6_bitCount_0 : decode cJ6_bitCount 0 = .ok (.iload_n 0, 1) := by decide +kernel
theorem dJ6_bitCount_1 : decode cJ6_bitCount 1 = .ok (.iload_n 0, 1) := by decide +kernel
theorem dJ6_bitCount_2 : decode cJ6_bitCount 2 = .ok (.iconst 1, 1) := by decide +kernel
theorem dJ6_bitCount_3 : decode cJ6_bitCount 3 = .ok (.iushr, 1) := by decide +kernel
theorem dJ6_bitCount_4 : decode cJ6_bitCount 4 = .ok (.ldc_w 265, 3) := by decide +kernel
theorem dJ6_bitCount_7 : decode cJ6_bitCount 7 = .ok (.iand, 1) := by decide +kernel
theorem dJ6_bitCount_8 : decode cJ6_bitCount 8 = .ok (.isub, 1) := by decide +kernel
theorem dJ6_bitCount_9 : decode cJ6_bitCount 9 = .ok (.istore_n 0, 1) := by decide +kernel
theorem dJ6_bitCount_10 : decode cJ6_bitCount 10 = .ok (.iload_n 0, 1) := by decide +kernel
theorem dJ6_bitCount_11 : decode cJ6_bitCount 11 = .ok (.ldc_w 266, 3) := by decide +kernel
theorem dJ6_bitCount_14 : decode cJ6_bitCount 14 = .ok (.iand, 1) := by decide +kernel
theorem dJ6_bitCount_15 : decode cJ6_bitCount 15 = .ok (.iload_n 0, 1) := by decide +kernel
theorem dJ6_bitCount_16 : decode cJ6_bitCount 16 = .ok (.iconst 2, 1) := by decide +kernel
theorem dJ6_bitCount_17 : decode cJ6_bitCount 17 = .ok (.iushr, 1) := by decide +kernel
theorem dJ6_bitCount_18 : decode cJ6_bitCount 18 = .ok (.ldc_w 266, 3) := by decide +kernel
theorem dJ6_bitCount_21 : decode cJ6_bitCount 21 = .ok (.iand, 1) := by decide +kernel
theorem dJ6_bitCount_22 : decode cJ6_bitCount 22 = .ok (.iadd, 1) := by decide +kernel
theorem dJ6_bitCount_23 : decode cJ6_bitCount 23 = .ok (.istore_n 0, 1) := by decide +kernel
theorem dJ6_bitCount_24 : decode cJ6_bitCount 24 = .ok (.iload_n 0, 1) := by decide +kernel
theorem dJ6_bitCount_25 : decode cJ6_bitCount 25 = .ok (.iload_n 0, 1) := by decide +kernel
theorem dJ6_bitCount_26 : decode cJ6_bitCount 26 = .ok (.iconst 4, 1) := by decide +kernel
theorem dJ6_bitCount_27 : decode cJ6_bitCount 27 = .ok (.iushr, 1) := by decide +kernel
theorem dJ6_bitCount_28 : decode cJ6_bitCount 28 = .ok (.iadd, 1) := by decide +kernel
theorem dJ6_bitCount_29 : decode cJ6_bitCount 29 = .ok (.ldc_w 267, 3) := by decide +kernel
theorem dJ6_bitCount_32 : decode cJ6_bitCount 32 = .ok (.iand, 1) := by decide +kernel
theorem dJ6_bitCount_33 : decode cJ6_bitCount 33 = .ok (.istore_n 0, 1) := by decide +kernel
theorem dJ6_bitCount_34 : decode cJ6_bitCount 34 = .ok (.iload_n 0, 1) := by decide +kernel
theorem dJ6_bitCount_35 : decode cJ6_bitCount 35 = .ok (.iload_n 0, 1) := by decide +kernel
theorem dJ6_bitCount_36 : decode cJ6_bitCount 36 = .ok (.bipush 8, 2) := by decide +kernel
theorem dJ6_bitCount_38 : decode cJ6_bitCount 38 = .ok (.iushr, 1) := by decide +kernel
theorem dJ6_bitCount_39 : decode cJ6_bitCount 39 = .ok (.iadd, 1) := by decide +kernel
theorem dJ6_bitCount_40 : decode cJ6_bitCount 40 = .ok (.istore_n 0, 1) := by decide +kernel
theorem dJ6_bitCount_41 : decode cJ6_bitCount 41 = .ok (.iload_n 0, 1) := by decide +kernel
theorem dJ6_bitCount_42 : decode cJ6_bitCount 42 = .ok (.iload_n 0, 1) := by decide +kernel
theorem dJ6_bitCount_43 : decode cJ6_bitCount 43 = .ok (.bipush 16, 2) := by decide +kernel
theorem dJ6_bitCount_45 : decode cJ6_bitCount 45 = .ok (.iushr, 1) := by decide +kernel
theorem dJ6_bitCount_46 : decode cJ6_bitCount 46 = .ok (.iadd, 1) := by decide +kernel
theorem dJ6_bitCount_47 : decode cJ6_bitCount 47 = .ok (.istore_n 0, 1) := by decide +kernel
theorem dJ6_bitCount_48 : decode cJ6_bitCount 48 = .ok (.iload_n 0, 1) := by decide +kernel
theorem dJ6_bitCount_49 : decode cJ6_bitCount 49 = .ok (.bipush 63, 2) := by decide +kernel
theorem dJ6_bitCount_51 : decode cJ6_bitCount 51 = .ok (.iand, 1) := by decide +kernel
theorem dJ6_bitCount_52 : decode cJ6_bitCount 52 = .ok (.ireturn, 1) := by decide +kernel
end
section
theorem dX4_init_0 : decode cX4_init 0 = .ok (.aload_n 0, 1) := by decide +kernel
theorem dX4_init_1 : decode cX4_init 1 = .ok (.invokespecial 3, 3) := by decide +kernel
theorem dX4_init_4 : decode cX4_init 4 = .ok (.aload_n 0, 1) := by decide +kernel
theorem dX4_init_5 : decode cX4_init 5 = .ok (.new 9, 3) := by decide +kernel
theorem dX4_init_8 : decode cX4_init 8 = .ok (.dup, 1) := by decide +kernel
theorem dX4_init_9 : decode cX4_init 9 = .ok (.invokespecial 11, 3) := by decide +kernel
theorem dX4_init_12 : decode cX4_init 12 = .ok (.putfield 12, 3) := by decide +kernel
theorem dX4_init_15 : decode cX4_init 15 = .ok (.aload_n 0, 1) := by decide +kernel
theorem dX4_init_16 : decode cX4_init 16 = .ok (.new 16, 3) := by decide +kernel
theorem dX4_init_19 : decode cX4_init 19 = .ok (.dup, 1) := by decide +kernel
theorem dX4_init_20 : decode cX4_init 20 = .ok (.invokespecial 18, 3) := by decide +kernel
theorem dX4_init_23 : decode cX4_init 23 = .ok (.putfield 19, 3) := by decide +kernel
theorem dX4_init_26 : decode cX4_init 26 = .ok (.aload_n 0, 1) := by decide +kernel
theorem dX4_init_27 : decode cX4_init 27 = .ok (.new 16, 3) := by decide +kernel
theorem dX4_init_30 : decode cX4_init 30 = .ok (.dup, 1) := by decide +kernel
theorem dX4_init_31 : decode cX4_init 31 = .ok (.invokespecial 18, 3) := by decide +kernel
theorem dX4_init_34 : decode cX4_init 34 = .ok (.putfield 23, 3) := by decide +kernel
theorem dX4_init_37 : decode cX4_init 37 = .ok (.aload_n 0, 1) := by decide +kernel
theorem dX4_init_38 : decode cX4_init 38 = .ok (.new 26, 3) := by decide +kernel
theorem dX4_init_41 : decode cX4_init 41 = .ok (.dup, 1) := by decide +kernel
theorem dX4_init_42 : decode cX4_init 42 = .ok (.invokespecial 28, 3) := by decide +kernel
theorem dX4_init_45 : decode cX4_init 45 = .ok (.putfield 29, 3) := by decide +kernel
theorem dX4_init_48 : decode cX4_init 48 = .ok (.aload_n 0, 1) := by decide +kernel
theorem dX4_init_49 : decode cX4_init 49 = .ok (.new 33, 3) := by decide +kernel
theorem dX4_init_52 : decode cX4_init 52 = .ok (.dup, 1) := by decide +kernel
theorem dX4_init_53 : decode cX4_init 53 = .ok (.invokespecial 35, 3) := by decide +kernel
theorem dX4_init_56 : decode cX4_init 56 = .ok (.putfield 36, 3) := by decide +kernel
theorem dX4_init_59 : decode cX4_init 59 = .ok (.aload_n 0, 1) := by decide +kernel
theorem dX4_init_60 : decode cX4_init 60 = .ok (.iconst 2, 1) := by decide +kernel
theorem dX4_init_61 : decode cX4_init 61 = .ok (.anewarray 16, 3) := by decide +kernel
theorem dX4_init_64 : decode cX4_init 64 = .ok (.putfield 40, 3) := by decide +kernel
theorem dX4_init_67 : decode cX4_init 67 = .ok (.iconst 0, 1) := by decide +kernel
theorem dX4_init_68 : decode cX4_init 68 = .ok (.istore_n 1, 1) := by decide +kernel
theorem dX4_init_69 : decode cX4_init 69 = .ok (.iload_n 1, 1) := by decide +kernel
theorem dX4_init_70 : decode cX4_init 70 = .ok (.iconst 2, 1) := by decide +kernel
theorem dX4_init_71 : decode cX4_init 71 = .ok (.if_icmp .ge 22, 3) := by decide +kernel
theorem dX4_init_74 : decode cX4_init 74 = .ok (.aload_n 0, 1) := by decide +kernel
theorem dX4_init_75 : decode cX4_init 75 = .ok (.getfield 40, 3) := by decide +kernel
theorem dX4_init_78 : decode cX4_init 78 = .ok (.iload_n 1, 1) := by decide +kernel
theorem dX4_init_79 : decode cX4_init 79 = .ok (.new 16, 3) := by decide +kernel
theorem dX4_init_82 : decode cX4_init 82 = .ok (.dup, 1) := by decide +kernel
theorem dX4_init_83 : decode cX4_init 83 = .ok (.invokespecial 18, 3) := by decide +kernel
theorem dX4_init_86 : decode cX4_init 86 = .ok (.aastore, 1) := by decide +kernel
theorem dX4_init_87 : decode cX4_init 87 = .ok (.iinc 1 1, 3) := by decide +kernel
theorem dX4_init_90 : decode cX4_init 90 = .ok (.goto (-21), 3) := by decide +kernel
theorem dX4_init_93 : decode cX4_init 93 = .ok (.return_, 1) := by decide +kernel
theorem dX4_write_0 : decode cX4_write 0 = .ok (.iload_n 1, 1) := by decide +kernel
theorem dX4_write_1 : decode cX4_write 1 = .ok (.ifCond .lt 10, 3) := by decide +kernel
theorem dX4_write_4 : decode cX4_write 4 = .ok (.iload_n 1, 1) := by decide +kernel
theorem dX4_write_5 : decode cX4_write 5 = .ok (.sipush 255, 3) := by decide +kernel
theorem dX4_write_8 : decode cX4_write 8 = .ok (.if_icmp .le 6, 3) := by decide +kernel
theorem dX4_write_11 : decode cX4_write 11 = .ok (.bipush (-2), 2) := by decide +kernel
theorem dX4_write_13 : decode cX4_write 13 = .ok (.ireturn, 1) := by decide +kernel
theorem dX4_write_14 : decode cX4_write 14 = .ok (.aload_n 0, 1) := by decide +kernel
theorem dX4_write_15 : decode cX4_write 15 = .ok (.getfield 12, 3) := by decide +kernel
theorem dX4_write_18 : decode cX4_write 18 = .ok (.iload_n 1, 1) := by decide +kernel
theorem dX4_write_19 : decode cX4_write 19 = .ok (.invokevirtual 44, 3) := by decide +kernel
theorem dX4_write_22 : decode cX4_write 22 = .ok (.ifCond .eq 13, 3) := by decide +kernel
theorem dX4_write_25 : decode cX4_write 25 = .ok (.aload_n 0, 1) := by decide +kernel
theorem dX4_write_26 : decode cX4_write 26 = .ok (.getfield 12, 3) := by decide +kernel
theorem dX4_write_29 : decode cX4_write 29 = .ok (.invokevirtual 48, 3) := by decide +kernel
theorem dX4_write_32 : decode cX4_write 32 = .ok (.goto 5, 3) := by decide +kernel
theorem dX4_write_35 : decode cX4_write 35 = .ok (.bipush (-4), 2) := by decide +kernel
theorem dX4_write_37 : decode cX4_write 37 = .ok (.ireturn, 1) := by decide +kernel
theorem dX4_wipe_0 : decode cX4_wipe 0 = .ok (.aload_n 0, 1) := by decide +kernel
theorem dX4_wipe_1 : decode cX4_wipe 1 = .ok (.getfield 12, 3) := by decide +kernel
theorem dX4_wipe_4 : decode cX4_wipe 4 = .ok (.invokevirtual 52, 3) := by decide +kernel
theorem dX4_wipe_7 : decode cX4_wipe 7 = .ok (.ireturn, 1) := by decide +kernel
theorem dX4_fault_0 : decode cX4_fault 0 = .ok (.aload_n 0, 1) := by decide +kernel
theorem dX4_fault_1 : decode cX4_fault 1 = .ok (.getfield 12, 3) := by decide +kernel
theorem dX4_fault_4 : decode cX4_fault 4 = .ok (.invokevirtual 55, 3) := by decide +kernel
theorem dX4_fault_7 : decode cX4_fault 7 = .ok (.ireturn, 1) := by decide +kernel
theorem dX4_lane_0 : decode cX4_lane 0 = .ok (.aload_n 0, 1) := by decide +kernel
theorem dX4_lane_1 : decode cX4_lane 1 = .ok (.getfield 12, 3) := by decide +kernel
theorem dX4_lane_4 : decode cX4_lane 4 = .ok (.invokevirtual 55, 3) := by decide +kernel
theorem dX4_lane_7 : decode cX4_lane 7 = .ok (.bipush (-9), 2) := by decide +kernel
theorem dX4_lane_9 : decode cX4_lane 9 = .ok (.if_icmp .eq 6, 3) := by decide +kernel
theorem dX4_lane_12 : decode cX4_lane 12 = .ok (.bipush (-3), 2) := by decide +kernel
theorem dX4_lane_14 : decode cX4_lane 14 = .ok (.ireturn, 1) := by decide +kernel
theorem dX4_lane_15 : decode cX4_lane 15 = .ok (.aload_n 0, 1) := by decide +kernel
theorem dX4_lane_16 : decode cX4_lane 16 = .ok (.getfield 19, 3) := by decide +kernel
theorem dX4_lane_19 : decode cX4_lane 19 = .ok (.aload_n 0, 1) := by decide +kernel
theorem dX4_lane_20 : decode cX4_lane 20 = .ok (.getfield 12, 3) := by decide +kernel
theorem dX4_lane_23 : decode cX4_lane 23 = .ok (.invokevirtual 58, 3) := by decide +kernel
theorem dX4_lane_26 : decode cX4_lane 26 = .ok (.aload_n 0, 1) := by decide +kernel
theorem dX4_lane_27 : decode cX4_lane 27 = .ok (.getfield 29, 3) := by decide +kernel
theorem dX4_lane_30 : decode cX4_lane 30 = .ok (.invokevirtual 62, 3) := by decide +kernel
theorem dX4_lane_33 : decode cX4_lane 33 = .ok (.aload_n 0, 1) := by decide +kernel
theorem dX4_lane_34 : decode cX4_lane 34 = .ok (.iconst 0, 1) := by decide +kernel
theorem dX4_lane_35 : decode cX4_lane 35 = .ok (.putfield 64, 3) := by decide +kernel
theorem dX4_lane_38 : decode cX4_lane 38 = .ok (.aload_n 0, 1) := by decide +kernel
theorem dX4_lane_39 : decode cX4_lane 39 = .ok (.getfield 19, 3) := by decide +kernel
theorem dX4_lane_42 : decode cX4_lane 42 = .ok (.invokevirtual 68, 3) := by decide +kernel
theorem dX4_lane_45 : decode cX4_lane 45 = .ok (.ireturn, 1) := by decide +kernel
theorem dX4_house_0 : decode cX4_house 0 = .ok (.aload_n 0, 1) := by decide +kernel
theorem dX4_house_1 : decode cX4_house 1 = .ok (.getfield 19, 3) := by decide +kernel
theorem dX4_house_4 : decode cX4_house 4 = .ok (.iload_n 1, 1) := by decide +kernel
theorem dX4_house_5 : decode cX4_house 5 = .ok (.invokevirtual 71, 3) := by decide +kernel
theorem dX4_house_8 : decode cX4_house 8 = .ok (.ifCond .ne 5, 3) := by decide +kernel
theorem dX4_house_11 : decode cX4_house 11 = .ok (.iconst (-1), 1) := by decide +kernel
theorem dX4_house_12 : decode cX4_house 12 = .ok (.ireturn, 1) := by decide +kernel
theorem dX4_house_13 : decode cX4_house 13 = .ok (.iload_n 2, 1) := by decide +kernel
theorem dX4_house_14 : decode cX4_house 14 = .ok (.tableswitch 126 0 7 #[46, 55, 64, 73, 82, 99, 108, 117], 46) := by decide +kernel
theorem dX4_house_60 : decode cX4_house 60 = .ok (.aload_n 0, 1) := by decide +kernel
theorem dX4_house_61 : decode cX4_house 61 = .ok (.getfield 19, 3) := by decide +kernel
theorem dX4_house_64 : decode cX4_house 64 = .ok (.iload_n 1, 1) := by decide +kernel
theorem dX4_house_65 : decode cX4_house 65 = .ok (.invokevirtual 74, 3) := by decide +kernel
theorem dX4_house_68 : decode cX4_house 68 = .ok (.ireturn, 1) := by decide +kernel
theorem dX4_house_69 : decode cX4_house 69 = .ok (.aload_n 0, 1) := by decide +kernel
theorem dX4_house_70 : decode cX4_house 70 = .ok (.getfield 19, 3) := by decide +kernel
theorem dX4_house_73 : decode cX4_house 73 = .ok (.iload_n 1, 1) := by decide +kernel
theorem dX4_house_74 : decode cX4_house 74 = .ok (.invokevirtual 78, 3) := by decide +kernel
theorem dX4_house_77 : decode cX4_house 77 = .ok (.ireturn, 1) := by decide +kernel
theorem dX4_house_78 : decode cX4_house 78 = .ok (.aload_n 0, 1) := by decide +kernel
theorem dX4_house_79 : decode cX4_house 79 = .ok (.getfield 19, 3) := by decide +kernel
theorem dX4_house_82 : decode cX4_house 82 = .ok (.iload_n 1, 1) := by decide +kernel
theorem dX4_house_83 : decode cX4_house 83 = .ok (.invokevirtual 81, 3) := by decide +kernel
theorem dX4_house_86 : decode cX4_house 86 = .ok (.ireturn, 1) := by decide +kernel
theorem dX4_house_87 : decode cX4_house 87 = .ok (.aload_n 0, 1) := by decide +kernel
theorem dX4_house_88 : decode cX4_house 88 = .ok (.getfield 19, 3) := by decide +kernel
theorem dX4_house_91 : decode cX4_house 91 = .ok (.iload_n 1, 1) := by decide +kernel
theorem dX4_house_92 : decode cX4_house 92 = .ok (.invokevirtual 84, 3) := by decide +kernel
theorem dX4_house_95 : decode cX4_house 95 = .ok (.ireturn, 1) := by decide +kernel
theorem dX4_house_96 : decode cX4_house 96 = .ok (.aload_n 0, 1) := by decide +kernel
theorem dX4_house_97 : decode cX4_house 97 = .ok (.getfield 19, 3) := by decide +kernel
theorem dX4_house_100 : decode cX4_house 100 = .ok (.iload_n 1, 1) := by decide +kernel
theorem dX4_house_101 : decode cX4_house 101 = .ok (.invokevirtual 87, 3) := by decide +kernel
theorem dX4_house_104 : decode cX4_house 104 = .ok (.ifCond .eq 7, 3) := by decide +kernel
theorem dX4_house_107 : decode cX4_house 107 = .ok (.iconst 1, 1) := by decide +kernel
theorem dX4_house_108 : decode cX4_house 108 = .ok (.goto 4, 3) := by decide +kernel
theorem dX4_house_111 : decode cX4_house 111 = .ok (.iconst 0, 1) := by decide +kernel
theorem dX4_house_112 : decode cX4_house 112 = .ok (.ireturn, 1) := by decide +kernel
theorem dX4_house_113 : decode cX4_house 113 = .ok (.aload_n 0, 1) := by decide +kernel
theorem dX4_house_114 : decode cX4_house 114 = .ok (.getfield 19, 3) := by decide +kernel
theorem dX4_house_117 : decode cX4_house 117 = .ok (.iload_n 1, 1) := by decide +kernel
theorem dX4_house_118 : decode cX4_house 118 = .ok (.invokevirtual 90, 3) := by decide +kernel
theorem dX4_house_121 : decode cX4_house 121 = .ok (.ireturn, 1) := by decide +kernel
theorem dX4_house_122 : decode cX4_house 122 = .ok (.aload_n 0, 1) := by decide +kernel
theorem dX4_house_123 : decode cX4_house 123 = .ok (.getfield 19, 3) := by decide +kernel
theorem dX4_house_126 : decode cX4_house 126 = .ok (.iload_n 1, 1) := by decide +kernel
theorem dX4_house_127 : decode cX4_house 127 = .ok (.invokevirtual 93, 3) := by decide +kernel
theorem dX4_house_130 : decode cX4_house 130 = .ok (.ireturn, 1) := by decide +kernel
theorem dX4_house_131 : decode cX4_house 131 = .ok (.aload_n 0, 1) := by decide +kernel
theorem dX4_house_132 : decode cX4_house 132 = .ok (.getfield 19, 3) := by decide +kernel
theorem dX4_house_135 : decode cX4_house 135 = .ok (.iload_n 1, 1) := by decide +kernel
theorem dX4_house_136 : decode cX4_house 136 = .ok (.invokevirtual 96, 3) := by decide +kernel
theorem dX4_house_139 : decode cX4_house 139 = .ok (.ireturn, 1) := by decide +kernel
theorem dX4_house_140 : decode cX4_house 140 = .ok (.bipush (-2), 2) := by decide +kernel
theorem dX4_house_142 : decode cX4_house 142 = .ok (.ireturn, 1) := by decide +kernel
theorem dX4_hour_0 : decode cX4_hour 0 = .ok (.aload_n 0, 1) := by decide +kernel
theorem dX4_hour_1 : decode cX4_hour 1 = .ok (.getfield 29, 3) := by decide +kernel
theorem dX4_hour_4 : decode cX4_hour 4 = .ok (.aload_n 0, 1) := by decide +kernel
theorem dX4_hour_5 : decode cX4_hour 5 = .ok (.getfield 19, 3) := by decide +kernel
theorem dX4_hour_8 : decode cX4_hour 8 = .ok (.invokevirtual 99, 3) := by decide +kernel
theorem dX4_hour_11 : decode cX4_hour 11 = .ok (.aload_n 0, 1) := by decide +kernel
theorem dX4_hour_12 : decode cX4_hour 12 = .ok (.getfield 19, 3) := by decide +kernel
theorem dX4_hour_15 : decode cX4_hour 15 = .ok (.invokevirtual 103, 3) := by decide +kernel
theorem dX4_hour_18 : decode cX4_hour 18 = .ok (.ireturn, 1) := by decide +kernel
theorem dX4_bring_0 : decode cX4_bring 0 = .ok (.aload_n 0, 1) := by decide +kernel
theorem dX4_bring_1 : decode cX4_bring 1 = .ok (.getfield 19, 3) := by decide +kernel
theorem dX4_bring_4 : decode cX4_bring 4 = .ok (.iload_n 1, 1) := by decide +kernel
theorem dX4_bring_5 : decode cX4_bring 5 = .ok (.invokevirtual 71, 3) := by decide +kernel
theorem dX4_bring_8 : decode cX4_bring 8 = .ok (.ifCond .ne 5, 3) := by decide +kernel
theorem dX4_bring_11 : decode cX4_bring 11 = .ok (.iconst (-1), 1) := by decide +kernel
theorem dX4_bring_12 : decode cX4_bring 12 = .ok (.ireturn, 1) := by decide +kernel
theorem dX4_bring_13 : decode cX4_bring 13 = .ok (.iload_n 2, 1) := by decide +kernel
theorem dX4_bring_14 : decode cX4_bring 14 = .ok (.invokestatic 106, 3) := by decide +kernel
theorem dX4_bring_17 : decode cX4_bring 17 = .ok (.ifCond .ne 6, 3) := by decide +kernel
theorem dX4_bring_20 : decode cX4_bring 20 = .ok (.bipush (-2), 2) := by decide +kernel
theorem dX4_bring_22 : decode cX4_bring 22 = .ok (.ireturn, 1) := by decide +kernel
theorem dX4_bring_23 : decode cX4_bring 23 = .ok (.aload_n 0, 1) := by decide +kernel
theorem dX4_bring_24 : decode cX4_bring 24 = .ok (.getfield 19, 3) := by decide +kernel
theorem dX4_bring_27 : decode cX4_bring 27 = .ok (.iload_n 1, 1) := by decide +kernel
theorem dX4_bring_28 : decode cX4_bring 28 = .ok (.iload_n 2, 1) := by decide +kernel
theorem dX4_bring_29 : decode cX4_bring 29 = .ok (.invokevirtual 109, 3) := by decide +kernel
theorem dX4_bring_32 : decode cX4_bring 32 = .ok (.ifCond .ne 6, 3) := by decide +kernel
theorem dX4_bring_35 : decode cX4_bring 35 = .ok (.bipush (-4), 2) := by decide +kernel
theorem dX4_bring_37 : decode cX4_bring 37 = .ok (.ireturn, 1) := by decide +kernel
theorem dX4_bring_38 : decode cX4_bring 38 = .ok (.aload_n 0, 1) := by decide +kernel
theorem dX4_bring_39 : decode cX4_bring 39 = .ok (.getfield 29, 3) := by decide +kernel
theorem dX4_bring_42 : decode cX4_bring 42 = .ok (.aload_n 0, 1) := by decide +kernel
theorem dX4_bring_43 : decode cX4_bring 43 = .ok (.getfield 19, 3) := by decide +kernel
theorem dX4_bring_46 : decode cX4_bring 46 = .ok (.invokevirtual 99, 3) := by decide +kernel
theorem dX4_bring_49 : decode cX4_bring 49 = .ok (.aload_n 0, 1) := by decide +kernel
theorem dX4_bring_50 : decode cX4_bring 50 = .ok (.getfield 19, 3) := by decide +kernel
theorem dX4_bring_53 : decode cX4_bring 53 = .ok (.iload_n 1, 1) := by decide +kernel
theorem dX4_bring_54 : decode cX4_bring 54 = .ok (.iload_n 2, 1) := by decide +kernel
theorem dX4_bring_55 : decode cX4_bring 55 = .ok (.invokevirtual 113, 3) := by decide +kernel
theorem dX4_bring_58 : decode cX4_bring 58 = .ok (.pop, 1) := by decide +kernel
theorem dX4_bring_59 : decode cX4_bring 59 = .ok (.aload_n 0, 1) := by decide +kernel
theorem dX4_bring_60 : decode cX4_bring 60 = .ok (.getfield 19, 3) := by decide +kernel
theorem dX4_bring_63 : decode cX4_bring 63 = .ok (.iload_n 1, 1) := by decide +kernel
theorem dX4_bring_64 : decode cX4_bring 64 = .ok (.invokevirtual 78, 3) := by decide +kernel
theorem dX4_bring_67 : decode cX4_bring 67 = .ok (.ireturn, 1) := by decide +kernel
theorem dX4_take_0 : decode cX4_take 0 = .ok (.aload_n 0, 1) := by decide +kernel
theorem dX4_take_1 : decode cX4_take 1 = .ok (.getfield 19, 3) := by decide +kernel
theorem dX4_take_4 : decode cX4_take 4 = .ok (.iload_n 1, 1) := by decide +kernel
theorem dX4_take_5 : decode cX4_take 5 = .ok (.invokevirtual 71, 3) := by decide +kernel
theorem dX4_take_8 : decode cX4_take 8 = .ok (.ifCond .ne 5, 3) := by decide +kernel
theorem dX4_take_11 : decode cX4_take 11 = .ok (.iconst (-1), 1) := by decide +kernel
theorem dX4_take_12 : decode cX4_take 12 = .ok (.ireturn, 1) := by decide +kernel
theorem dX4_take_13 : decode cX4_take 13 = .ok (.iload_n 2, 1) := by decide +kernel
theorem dX4_take_14 : decode cX4_take 14 = .ok (.invokestatic 106, 3) := by decide +kernel
theorem dX4_take_17 : decode cX4_take 17 = .ok (.ifCond .ne 6, 3) := by decide +kernel
theorem dX4_take_20 : decode cX4_take 20 = .ok (.bipush (-2), 2) := by decide +kernel
theorem dX4_take_22 : decode cX4_take 22 = .ok (.ireturn, 1) := by decide +kernel
theorem dX4_take_23 : decode cX4_take 23 = .ok (.aload_n 0, 1) := by decide +kernel
theorem dX4_take_24 : decode cX4_take 24 = .ok (.getfield 19, 3) := by decide +kernel
theorem dX4_take_27 : decode cX4_take 27 = .ok (.iload_n 1, 1) := by decide +kernel
theorem dX4_take_28 : decode cX4_take 28 = .ok (.iload_n 2, 1) := by decide +kernel
theorem dX4_take_29 : decode cX4_take 29 = .ok (.invokevirtual 116, 3) := by decide +kernel
theorem dX4_take_32 : decode cX4_take 32 = .ok (.ifCond .ne 6, 3) := by decide +kernel
theorem dX4_take_35 : decode cX4_take 35 = .ok (.bipush (-3), 2) := by decide +kernel
theorem dX4_take_37 : decode cX4_take 37 = .ok (.ireturn, 1) := by decide +kernel
theorem dX4_take_38 : decode cX4_take 38 = .ok (.aload_n 0, 1) := by decide +kernel
theorem dX4_take_39 : decode cX4_take 39 = .ok (.getfield 29, 3) := by decide +kernel
theorem dX4_take_42 : decode cX4_take 42 = .ok (.aload_n 0, 1) := by decide +kernel
theorem dX4_take_43 : decode cX4_take 43 = .ok (.getfield 19, 3) := by decide +kernel
theorem dX4_take_46 : decode cX4_take 46 = .ok (.invokevirtual 99, 3) := by decide +kernel
theorem dX4_take_49 : decode cX4_take 49 = .ok (.aload_n 0, 1) := by decide +kernel
theorem dX4_take_50 : decode cX4_take 50 = .ok (.getfield 19, 3) := by decide +kernel
theorem dX4_take_53 : decode cX4_take 53 = .ok (.iload_n 1, 1) := by decide +kernel
theorem dX4_take_54 : decode cX4_take 54 = .ok (.iload_n 2, 1) := by decide +kernel
theorem dX4_take_55 : decode cX4_take 55 = .ok (.invokevirtual 119, 3) := by decide +kernel
theorem dX4_take_58 : decode cX4_take 58 = .ok (.pop, 1) := by decide +kernel
theorem dX4_take_59 : decode cX4_take 59 = .ok (.aload_n 0, 1) := by decide +kernel
theorem dX4_take_60 : decode cX4_take 60 = .ok (.getfield 19, 3) := by decide +kernel
theorem dX4_take_63 : decode cX4_take 63 = .ok (.iload_n 1, 1) := by decide +kernel
theorem dX4_take_64 : decode cX4_take 64 = .ok (.invokevirtual 78, 3) := by decide +kernel
theorem dX4_take_67 : decode cX4_take 67 = .ok (.ireturn, 1) := by decide +kernel
theorem dX4_deed_0 : decode cX4_deed 0 = .ok (.aload_n 0, 1) := by decide +kernel
theorem dX4_deed_1 : decode cX4_deed 1 = .ok (.getfield 19, 3) := by decide +kernel
theorem dX4_deed_4 : decode cX4_deed 4 = .ok (.iload_n 1, 1) := by decide +kernel
theorem dX4_deed_5 : decode cX4_deed 5 = .ok (.invokevirtual 71, 3) := by decide +kernel
theorem dX4_deed_8 : decode cX4_deed 8 = .ok (.ifCond .ne 5, 3) := by decide +kernel
theorem dX4_deed_11 : decode cX4_deed 11 = .ok (.iconst (-1), 1) := by decide +kernel
theorem dX4_deed_12 : decode cX4_deed 12 = .ok (.ireturn, 1) := by decide +kernel
theorem dX4_deed_13 : decode cX4_deed 13 = .ok (.iload_n 2, 1) := by decide +kernel
theorem dX4_deed_14 : decode cX4_deed 14 = .ok (.invokestatic 122, 3) := by decide +kernel
theorem dX4_deed_17 : decode cX4_deed 17 = .ok (.ifCond .ne 6, 3) := by decide +kernel
theorem dX4_deed_20 : decode cX4_deed 20 = .ok (.bipush (-2), 2) := by decide +kernel
theorem dX4_deed_22 : decode cX4_deed 22 = .ok (.ireturn, 1) := by decide +kernel
theorem dX4_deed_23 : decode cX4_deed 23 = .ok (.aload_n 0, 1) := by decide +kernel
theorem dX4_deed_24 : decode cX4_deed 24 = .ok (.getfield 19, 3) := by decide +kernel
theorem dX4_deed_27 : decode cX4_deed 27 = .ok (.iload_n 1, 1) := by decide +kernel
theorem dX4_deed_28 : decode cX4_deed 28 = .ok (.invokevirtual 84, 3) := by decide +kernel
theorem dX4_deed_31 : decode cX4_deed 31 = .ok (.istore_n 3, 1) := by decide +kernel
theorem dX4_deed_32 : decode cX4_deed 32 = .ok (.iload_n 3, 1) := by decide +kernel
theorem dX4_deed_33 : decode cX4_deed 33 = .ok (.iload_n 2, 1) := by decide +kernel
theorem dX4_deed_34 : decode cX4_deed 34 = .ok (.if_icmp .ne 6, 3) := by decide +kernel
theorem dX4_deed_37 : decode cX4_deed 37 = .ok (.bipush (-3), 2) := by decide +kernel
theorem dX4_deed_39 : decode cX4_deed 39 = .ok (.ireturn, 1) := by decide +kernel
theorem dX4_deed_40 : decode cX4_deed 40 = .ok (.aload_n 0, 1) := by decide +kernel
theorem dX4_deed_41 : decode cX4_deed 41 = .ok (.getfield 29, 3) := by decide +kernel
theorem dX4_deed_44 : decode cX4_deed 44 = .ok (.aload_n 0, 1) := by decide +kernel
theorem dX4_deed_45 : decode cX4_deed 45 = .ok (.getfield 19, 3) := by decide +kernel
theorem dX4_deed_48 : decode cX4_deed 48 = .ok (.invokevirtual 99, 3) := by decide +kernel
theorem dX4_deed_51 : decode cX4_deed 51 = .ok (.aload_n 0, 1) := by decide +kernel
theorem dX4_deed_52 : decode cX4_deed 52 = .ok (.getfield 19, 3) := by decide +kernel
theorem dX4_deed_55 : decode cX4_deed 55 = .ok (.iload_n 1, 1) := by decide +kernel
theorem dX4_deed_56 : decode cX4_deed 56 = .ok (.iload_n 2, 1) := by decide +kernel
theorem dX4_deed_57 : decode cX4_deed 57 = .ok (.invokevirtual 125, 3) := by decide +kernel
theorem dX4_deed_60 : decode cX4_deed 60 = .ok (.pop, 1) := by decide +kernel
theorem dX4_deed_61 : decode cX4_deed 61 = .ok (.iload_n 3, 1) := by decide +kernel
theorem dX4_deed_62 : decode cX4_deed 62 = .ok (.ireturn, 1) := by decide +kernel
theorem dX4_build_0 : decode cX4_build 0 = .ok (.aload_n 0, 1) := by decide +kernel
theorem dX4_build_1 : decode cX4_build 1 = .ok (.getfield 19, 3) := by decide +kernel
theorem dX4_build_4 : decode cX4_build 4 = .ok (.iload_n 1, 1) := by decide +kernel
theorem dX4_build_5 : decode cX4_build 5 = .ok (.invokevirtual 71, 3) := by decide +kernel
theorem dX4_build_8 : decode cX4_build 8 = .ok (.ifCond .ne 5, 3) := by decide +kernel
theorem dX4_build_11 : decode cX4_build 11 = .ok (.iconst (-1), 1) := by decide +kernel
theorem dX4_build_12 : decode cX4_build 12 = .ok (.ireturn, 1) := by decide +kernel
theorem dX4_build_13 : decode cX4_build 13 = .ok (.aload_n 0, 1) := by decide +kernel
theorem dX4_build_14 : decode cX4_build 14 = .ok (.getfield 19, 3) := by decide +kernel
theorem dX4_build_17 : decode cX4_build 17 = .ok (.iload_n 1, 1) := by decide +kernel
theorem dX4_build_18 : decode cX4_build 18 = .ok (.invokevirtual 87, 3) := by decide +kernel
theorem dX4_build_21 : decode cX4_build 21 = .ok (.ifCond .eq 6, 3) := by decide +kernel
theorem dX4_build_24 : decode cX4_build 24 = .ok (.bipush (-3), 2) := by decide +kernel
theorem dX4_build_26 : decode cX4_build 26 = .ok (.ireturn, 1) := by decide +kernel
theorem dX4_build_27 : decode cX4_build 27 = .ok (.aload_n 0, 1) := by decide +kernel
theorem dX4_build_28 : decode cX4_build 28 = .ok (.getfield 29, 3) := by decide +kernel
theorem dX4_build_31 : decode cX4_build 31 = .ok (.aload_n 0, 1) := by decide +kernel
theorem dX4_build_32 : decode cX4_build 32 = .ok (.getfield 19, 3) := by decide +kernel
theorem dX4_build_35 : decode cX4_build 35 = .ok (.invokevirtual 99, 3) := by decide +kernel
theorem dX4_build_38 : decode cX4_build 38 = .ok (.aload_n 0, 1) := by decide +kernel
theorem dX4_build_39 : decode cX4_build 39 = .ok (.getfield 19, 3) := by decide +kernel
theorem dX4_build_42 : decode cX4_build 42 = .ok (.iload_n 1, 1) := by decide +kernel
theorem dX4_build_43 : decode cX4_build 43 = .ok (.invokevirtual 128, 3) := by decide +kernel
theorem dX4_build_46 : decode cX4_build 46 = .ok (.pop, 1) := by decide +kernel
theorem dX4_build_47 : decode cX4_build 47 = .ok (.aload_n 0, 1) := by decide +kernel
theorem dX4_build_48 : decode cX4_build 48 = .ok (.getfield 19, 3) := by decide +kernel
theorem dX4_build_51 : decode cX4_build 51 = .ok (.iload_n 1, 1) := by decide +kernel
theorem dX4_build_52 : decode cX4_build 52 = .ok (.invokevirtual 78, 3) := by decide +kernel
theorem dX4_build_55 : decode cX4_build 55 = .ok (.ireturn, 1) := by decide +kernel
theorem dX4_undo_0 : decode cX4_undo 0 = .ok (.aload_n 0, 1) := by decide +kernel
theorem dX4_undo_1 : decode cX4_undo 1 = .ok (.getfield 29, 3) := by decide +kernel
theorem dX4_undo_4 : decode cX4_undo 4 = .ok (.invokevirtual 131, 3) := by decide +kernel
theorem dX4_undo_7 : decode cX4_undo 7 = .ok (.ifCond .ne 6, 3) := by decide +kernel
theorem dX4_undo_10 : decode cX4_undo 10 = .ok (.bipush (-3), 2) := by decide +kernel
theorem dX4_undo_12 : decode cX4_undo 12 = .ok (.ireturn, 1) := by decide +kernel
theorem dX4_undo_13 : decode cX4_undo 13 = .ok (.aload_n 0, 1) := by decide +kernel
theorem dX4_undo_14 : decode cX4_undo 14 = .ok (.getfield 29, 3) := by decide +kernel
theorem dX4_undo_17 : decode cX4_undo 17 = .ok (.aload_n 0, 1) := by decide +kernel
theorem dX4_undo_18 : decode cX4_undo 18 = .ok (.getfield 19, 3) := by decide +kernel
theorem dX4_undo_21 : decode cX4_undo 21 = .ok (.invokevirtual 132, 3) := by decide +kernel
theorem dX4_undo_24 : decode cX4_undo 24 = .ok (.aload_n 0, 1) := by decide +kernel
theorem dX4_undo_25 : decode cX4_undo 25 = .ok (.getfield 29, 3) := by decide +kernel
theorem dX4_undo_28 : decode cX4_undo 28 = .ok (.invokevirtual 131, 3) := by decide +kernel
theorem dX4_undo_31 : decode cX4_undo 31 = .ok (.ireturn, 1) := by decide +kernel
theorem dX4_later_0 : decode cX4_later 0 = .ok (.aload_n 0, 1) := by decide +kernel
theorem dX4_later_1 : decode cX4_later 1 = .ok (.getfield 19, 3) := by decide +kernel
theorem dX4_later_4 : decode cX4_later 4 = .ok (.iload_n 1, 1) := by decide +kernel
theorem dX4_later_5 : decode cX4_later 5 = .ok (.invokevirtual 71, 3) := by decide +kernel
theorem dX4_later_8 : decode cX4_later 8 = .ok (.ifCond .ne 5, 3) := by decide +kernel
theorem dX4_later_11 : decode cX4_later 11 = .ok (.iconst (-1), 1) := by decide +kernel
theorem dX4_later_12 : decode cX4_later 12 = .ok (.ireturn, 1) := by decide +kernel
theorem dX4_later_13 : decode cX4_later 13 = .ok (.iload_n 2, 1) := by decide +kernel
theorem dX4_later_14 : decode cX4_later 14 = .ok (.ifCond .lt 16, 3) := by decide +kernel
theorem dX4_later_17 : decode cX4_later 17 = .ok (.iload_n 2, 1) := by decide +kernel
theorem dX4_later_18 : decode cX4_later 18 = .ok (.bipush 30, 2) := by decide +kernel
theorem dX4_later_20 : decode cX4_later 20 = .ok (.if_icmp .gt 10, 3) := by decide +kernel
theorem dX4_later_23 : decode cX4_later 23 = .ok (.iload_n 3, 1) := by decide +kernel
theorem dX4_later_24 : decode cX4_later 24 = .ok (.invokestatic 135, 3) := by decide +kernel
theorem dX4_later_27 : decode cX4_later 27 = .ok (.ifCond .ne 6, 3) := by decide +kernel
theorem dX4_later_30 : decode cX4_later 30 = .ok (.bipush (-2), 2) := by decide +kernel
theorem dX4_later_32 : decode cX4_later 32 = .ok (.ireturn, 1) := by decide +kernel
theorem dX4_later_33 : decode cX4_later 33 = .ok (.aload_n 0, 1) := by decide +kernel
theorem dX4_later_34 : decode cX4_later 34 = .ok (.getfield 23, 3) := by decide +kernel
theorem dX4_later_37 : decode cX4_later 37 = .ok (.aload_n 0, 1) := by decide +kernel
theorem dX4_later_38 : decode cX4_later 38 = .ok (.getfield 19, 3) := by decide +kernel
theorem dX4_later_41 : decode cX4_later 41 = .ok (.invokevirtual 138, 3) := by decide +kernel
theorem dX4_later_44 : decode cX4_later 44 = .ok (.aload_n 0, 1) := by decide +kernel
theorem dX4_later_45 : decode cX4_later 45 = .ok (.getfield 23, 3) := by decide +kernel
theorem dX4_later_48 : decode cX4_later 48 = .ok (.iload_n 2, 1) := by decide +kernel
theorem dX4_later_49 : decode cX4_later 49 = .ok (.invokevirtual 141, 3) := by decide +kernel
theorem dX4_later_52 : decode cX4_later 52 = .ok (.iload_n 3, 1) := by decide +kernel
theorem dX4_later_53 : decode cX4_later 53 = .ok (.ifCond .ne 14, 3) := by decide +kernel
theorem dX4_later_56 : decode cX4_later 56 = .ok (.aload_n 0, 1) := by decide +kernel
theorem dX4_later_57 : decode cX4_later 57 = .ok (.getfield 23, 3) := by decide +kernel
theorem dX4_later_60 : decode cX4_later 60 = .ok (.iload_n 1, 1) := by decide +kernel
theorem dX4_later_61 : decode cX4_later 61 = .ok (.invokevirtual 90, 3) := by decide +kernel
theorem dX4_later_64 : decode cX4_later 64 = .ok (.goto 11, 3) := by decide +kernel
theorem dX4_later_67 : decode cX4_later 67 = .ok (.aload_n 0, 1) := by decide +kernel
theorem dX4_later_68 : decode cX4_later 68 = .ok (.getfield 23, 3) := by decide +kernel
theorem dX4_later_71 : decode cX4_later 71 = .ok (.iload_n 1, 1) := by decide +kernel
theorem dX4_later_72 : decode cX4_later 72 = .ok (.invokevirtual 96, 3) := by decide +kernel
theorem dX4_later_75 : decode cX4_later 75 = .ok (.ireturn, 1) := by decide +kernel
theorem dX4_standing_0 : decode cX4_standing 0 = .ok (.iload_n 1, 1) := by decide +kernel
theorem dX4_standing_1 : decode cX4_standing 1 = .ok (.ifCond .lt 9, 3) := by decide +kernel
theorem dX4_standing_4 : decode cX4_standing 4 = .ok (.iload_n 1, 1) := by decide +kernel
theorem dX4_standing_5 : decode cX4_standing 5 = .ok (.bipush 30, 2) := by decide +kernel
theorem dX4_standing_7 : decode cX4_standing 7 = .ok (.if_icmp .le 6, 3) := by decide +kernel
theorem dX4_standing_10 : decode cX4_standing 10 = .ok (.bipush (-2), 2) := by decide +kernel
theorem dX4_standing_12 : decode cX4_standing 12 = .ok (.ireturn, 1) := by decide +kernel
theorem dX4_standing_13 : decode cX4_standing 13 = .ok (.aload_n 0, 1) := by decide +kernel
theorem dX4_standing_14 : decode cX4_standing 14 = .ok (.getfield 23, 3) := by decide +kernel
theorem dX4_standing_17 : decode cX4_standing 17 = .ok (.aload_n 0, 1) := by decide +kernel
theorem dX4_standing_18 : decode cX4_standing 18 = .ok (.getfield 19, 3) := by decide +kernel
theorem dX4_standing_21 : decode cX4_standing 21 = .ok (.invokevirtual 138, 3) := by decide +kernel
theorem dX4_standing_24 : decode cX4_standing 24 = .ok (.aload_n 0, 1) := by decide +kernel
theorem dX4_standing_25 : decode cX4_standing 25 = .ok (.getfield 23, 3) := by decide +kernel
theorem dX4_standing_28 : decode cX4_standing 28 = .ok (.iload_n 1, 1) := by decide +kernel
theorem dX4_standing_29 : decode cX4_standing 29 = .ok (.invokevirtual 141, 3) := by decide +kernel
theorem dX4_standing_32 : decode cX4_standing 32 = .ok (.aload_n 0, 1) := by decide +kernel
theorem dX4_standing_33 : decode cX4_standing 33 = .ok (.getfield 23, 3) := by decide +kernel
theorem dX4_standing_36 : decode cX4_standing 36 = .ok (.invokevirtual 145, 3) := by decide +kernel
theorem dX4_standing_39 : decode cX4_standing 39 = .ok (.ireturn, 1) := by decide +kernel
theorem dX4_falls_0 : decode cX4_falls 0 = .ok (.aload_n 0, 1) := by decide +kernel
theorem dX4_falls_1 : decode cX4_falls 1 = .ok (.getfield 19, 3) := by decide +kernel
theorem dX4_falls_4 : decode cX4_falls 4 = .ok (.iload_n 1, 1) := by decide +kernel
theorem dX4_falls_5 : decode cX4_falls 5 = .ok (.invokevirtual 71, 3) := by decide +kernel
theorem dX4_falls_8 : decode cX4_falls 8 = .ok (.ifCond .ne 5, 3) := by decide +kernel
theorem dX4_falls_11 : decode cX4_falls 11 = .ok (.iconst (-1), 1) := by decide +kernel
theorem dX4_falls_12 : decode cX4_falls 12 = .ok (.ireturn, 1) := by decide +kernel
theorem dX4_falls_13 : decode cX4_falls 13 = .ok (.aload_n 0, 1) := by decide +kernel
theorem dX4_falls_14 : decode cX4_falls 14 = .ok (.getfield 19, 3) := by decide +kernel
theorem dX4_falls_17 : decode cX4_falls 17 = .ok (.iload_n 1, 1) := by decide +kernel
theorem dX4_falls_18 : decode cX4_falls 18 = .ok (.invokevirtual 87, 3) := by decide +kernel
theorem dX4_falls_21 : decode cX4_falls 21 = .ok (.ifCond .ne 6, 3) := by decide +kernel
theorem dX4_falls_24 : decode cX4_falls 24 = .ok (.bipush (-3), 2) := by decide +kernel
theorem dX4_falls_26 : decode cX4_falls 26 = .ok (.ireturn, 1) := by decide +kernel
theorem dX4_falls_27 : decode cX4_falls 27 = .ok (.aload_n 0, 1) := by decide +kernel
theorem dX4_falls_28 : decode cX4_falls 28 = .ok (.getfield 23, 3) := by decide +kernel
theorem dX4_falls_31 : decode cX4_falls 31 = .ok (.aload_n 0, 1) := by decide +kernel
theorem dX4_falls_32 : decode cX4_falls 32 = .ok (.getfield 19, 3) := by decide +kernel
theorem dX4_falls_35 : decode cX4_falls 35 = .ok (.invokevirtual 138, 3) := by decide +kernel
theorem dX4_falls_38 : decode cX4_falls 38 = .ok (.iconst 1, 1) := by decide +kernel
theorem dX4_falls_39 : decode cX4_falls 39 = .ok (.istore_n 2, 1) := by decide +kernel
theorem dX4_falls_40 : decode cX4_falls 40 = .ok (.iload_n 2, 1) := by decide +kernel
theorem dX4_falls_41 : decode cX4_falls 41 = .ok (.bipush 30, 2) := by decide +kernel
theorem dX4_falls_43 : decode cX4_falls 43 = .ok (.if_icmp .gt 30, 3) := by decide +kernel
theorem dX4_falls_46 : decode cX4_falls 46 = .ok (.aload_n 0, 1) := by decide +kernel
theorem dX4_falls_47 : decode cX4_falls 47 = .ok (.getfield 23, 3) := by decide +kernel
theorem dX4_falls_50 : decode cX4_falls 50 = .ok (.invokevirtual 103, 3) := by decide +kernel
theorem dX4_falls_53 : decode cX4_falls 53 = .ok (.pop, 1) := by decide +kernel
theorem dX4_falls_54 : decode cX4_falls 54 = .ok (.aload_n 0, 1) := by decide +kernel
theorem dX4_falls_55 : decode cX4_falls 55 = .ok (.getfield 23, 3) := by decide +kernel
theorem dX4_falls_58 : decode cX4_falls 58 = .ok (.iload_n 1, 1) := by decide +kernel
theorem dX4_falls_59 : decode cX4_falls 59 = .ok (.invokevirtual 87, 3) := by decide +kernel
theorem dX4_falls_62 : decode cX4_falls 62 = .ok (.ifCond .ne 5, 3) := by decide +kernel
theorem dX4_falls_65 : decode cX4_falls 65 = .ok (.iload_n 2, 1) := by decide +kernel
theorem dX4_falls_66 : decode cX4_falls 66 = .ok (.ireturn, 1) := by decide +kernel
theorem dX4_falls_67 : decode cX4_falls 67 = .ok (.iinc 2 1, 3) := by decide +kernel
theorem dX4_falls_70 : decode cX4_falls 70 = .ok (.goto (-30), 3) := by decide +kernel
theorem dX4_falls_73 : decode cX4_falls 73 = .ok (.bipush (-9), 2) := by decide +kernel
theorem dX4_falls_75 : decode cX4_falls 75 = .ok (.ireturn, 1) := by decide +kernel
theorem dX4_rings_0 : decode cX4_rings 0 = .ok (.aload_n 0, 1) := by decide +kernel
theorem dX4_rings_1 : decode cX4_rings 1 = .ok (.getfield 19, 3) := by decide +kernel
theorem dX4_rings_4 : decode cX4_rings 4 = .ok (.invokevirtual 148, 3) := by decide +kernel
theorem dX4_rings_7 : decode cX4_rings 7 = .ok (.ireturn, 1) := by decide +kernel
theorem dX4_orders_0 : decode cX4_orders 0 = .ok (.iload_n 1, 1) := by decide +kernel
theorem dX4_orders_1 : decode cX4_orders 1 = .ok (.iconst 1, 1) := by decide +kernel
theorem dX4_orders_2 : decode cX4_orders 2 = .ok (.if_icmp .lt 25, 3) := by decide +kernel
theorem dX4_orders_5 : decode cX4_orders 5 = .ok (.iload_n 1, 1) := by decide +kernel
theorem dX4_orders_6 : decode cX4_orders 6 = .ok (.iconst 4, 1) := by decide +kernel
theorem dX4_orders_7 : decode cX4_orders 7 = .ok (.if_icmp .gt 20, 3) := by decide +kernel
theorem dX4_orders_10 : decode cX4_orders 10 = .ok (.iload 4, 2) := by decide +kernel
theorem dX4_orders_12 : decode cX4_orders 12 = .ok (.invokestatic 135, 3) := by decide +kernel
theorem dX4_orders_15 : decode cX4_orders 15 = .ok (.ifCond .eq 12, 3) := by decide +kernel
theorem dX4_orders_18 : decode cX4_orders 18 = .ok (.aload_n 0, 1) := by decide +kernel
theorem dX4_orders_19 : decode cX4_orders 19 = .ok (.iload_n 1, 1) := by decide +kernel
theorem dX4_orders_20 : decode cX4_orders 20 = .ok (.lload_n 2, 1) := by decide +kernel
theorem dX4_orders_21 : decode cX4_orders 21 = .ok (.invokevirtual 151, 3) := by decide +kernel
theorem dX4_orders_24 : decode cX4_orders 24 = .ok (.ifCond .ne 6, 3) := by decide +kernel
theorem dX4_orders_27 : decode cX4_orders 27 = .ok (.bipush (-2), 2) := by decide +kernel
theorem dX4_orders_29 : decode cX4_orders 29 = .ok (.ireturn, 1) := by decide +kernel
theorem dX4_orders_30 : decode cX4_orders 30 = .ok (.iconst 0, 1) := by decide +kernel
theorem dX4_orders_31 : decode cX4_orders 31 = .ok (.istore 5, 2) := by decide +kernel
theorem dX4_orders_33 : decode cX4_orders 33 = .ok (.bipush (-9), 2) := by decide +kernel
theorem dX4_orders_35 : decode cX4_orders 35 = .ok (.istore 6, 2) := by decide +kernel
theorem dX4_orders_37 : decode cX4_orders 37 = .ok (.iconst 0, 1) := by decide +kernel
theorem dX4_orders_38 : decode cX4_orders 38 = .ok (.istore 7, 2) := by decide +kernel
theorem dX4_orders_40 : decode cX4_orders 40 = .ok (.iload 7, 2) := by decide +kernel
theorem dX4_orders_42 : decode cX4_orders 42 = .ok (.iconst 1, 1) := by decide +kernel
theorem dX4_orders_43 : decode cX4_orders 43 = .ok (.iconst 2, 1) := by decide +kernel
theorem dX4_orders_44 : decode cX4_orders 44 = .ok (.iload_n 1, 1) := by decide +kernel
theorem dX4_orders_45 : decode cX4_orders 45 = .ok (.imul, 1) := by decide +kernel
theorem dX4_orders_46 : decode cX4_orders 46 = .ok (.ishl, 1) := by decide +kernel
theorem dX4_orders_47 : decode cX4_orders 47 = .ok (.if_icmp .ge 52, 3) := by decide +kernel
theorem dX4_orders_50 : decode cX4_orders 50 = .ok (.iload_n 1, 1) := by decide +kernel
theorem dX4_orders_51 : decode cX4_orders 51 = .ok (.iload 7, 2) := by decide +kernel
theorem dX4_orders_53 : decode cX4_orders 53 = .ok (.invokestatic 155, 3) := by decide +kernel
theorem dX4_orders_56 : decode cX4_orders 56 = .ok (.ifCond .eq 37, 3) := by decide +kernel
theorem dX4_orders_59 : decode cX4_orders 59 = .ok (.aload_n 0, 1) := by decide +kernel
theorem dX4_orders_60 : decode cX4_orders 60 = .ok (.iload_n 1, 1) := by decide +kernel
theorem dX4_orders_61 : decode cX4_orders 61 = .ok (.lload_n 2, 1) := by decide +kernel
theorem dX4_orders_62 : decode cX4_orders 62 = .ok (.iload 7, 2) := by decide +kernel
theorem dX4_orders_64 : decode cX4_orders 64 = .ok (.invokevirtual 158, 3) := by decide +kernel
theorem dX4_orders_67 : decode cX4_orders 67 = .ok (.ifCond .eq 26, 3) := by decide +kernel
theorem dX4_orders_70 : decode cX4_orders 70 = .ok (.iinc 5 1, 3) := by decide +kernel
theorem dX4_orders_73 : decode cX4_orders 73 = .ok (.iload 6, 2) := by decide +kernel
theorem dX4_orders_75 : decode cX4_orders 75 = .ok (.bipush (-9), 2) := by decide +kernel
theorem dX4_orders_77 : decode cX4_orders 77 = .ok (.if_icmp .ne 12, 3) := by decide +kernel
theorem dX4_orders_80 : decode cX4_orders 80 = .ok (.iload_n 1, 1) := by decide +kernel
theorem dX4_orders_81 : decode cX4_orders 81 = .ok (.iload 7, 2) := by decide +kernel
theorem dX4_orders_83 : decode cX4_orders 83 = .ok (.invokestatic 162, 3) := by decide +kernel
theorem dX4_orders_86 : decode cX4_orders 86 = .ok (.goto 5, 3) := by decide +kernel
theorem dX4_orders_89 : decode cX4_orders 89 = .ok (.iload 6, 2) := by decide +kernel
theorem dX4_orders_91 : decode cX4_orders 91 = .ok (.istore 6, 2) := by decide +kernel
theorem dX4_orders_93 : decode cX4_orders 93 = .ok (.iinc 7 1, 3) := by decide +kernel
theorem dX4_orders_96 : decode cX4_orders 96 = .ok (.goto (-56), 3) := by decide +kernel
theorem dX4_orders_99 : decode cX4_orders 99 = .ok (.iload 4, 2) := by decide +kernel
theorem dX4_orders_101 : decode cX4_orders 101 = .ok (.ifCond .ne 8, 3) := by decide +kernel
theorem dX4_orders_104 : decode cX4_orders 104 = .ok (.iload 5, 2) := by decide +kernel
theorem dX4_orders_106 : decode cX4_orders 106 = .ok (.goto 5, 3) := by decide +kernel
theorem dX4_orders_109 : decode cX4_orders 109 = .ok (.iload 6, 2) := by decide +kernel
theorem dX4_orders_111 : decode cX4_orders 111 = .ok (.ireturn, 1) := by decide +kernel
theorem dX4_areMoves_0 : decode cX4_areMoves 0 = .ok (.iconst 3, 1) := by decide +kernel
theorem dX4_areMoves_1 : decode cX4_areMoves 1 = .ok (.iload_n 1, 1) := by decide +kernel
theorem dX4_areMoves_2 : decode cX4_areMoves 2 = .ok (.imul, 1) := by decide +kernel
theorem dX4_areMoves_3 : decode cX4_areMoves 3 = .ok (.istore 4, 2) := by decide +kernel
theorem dX4_areMoves_5 : decode cX4_areMoves 5 = .ok (.lload_n 2, 1) := by decide +kernel
theorem dX4_areMoves_6 : decode cX4_areMoves 6 = .ok (.iload 4, 2) := by decide +kernel
theorem dX4_areMoves_8 : decode cX4_areMoves 8 = .ok (.invokestatic 166, 3) := by decide +kernel
theorem dX4_areMoves_11 : decode cX4_areMoves 11 = .ok (.ifCond .ne 5, 3) := by decide +kernel
theorem dX4_areMoves_14 : decode cX4_areMoves 14 = .ok (.iconst 0, 1) := by decide +kernel
theorem dX4_areMoves_15 : decode cX4_areMoves 15 = .ok (.ireturn, 1) := by decide +kernel
theorem dX4_areMoves_16 : decode cX4_areMoves 16 = .ok (.iconst 0, 1) := by decide +kernel
theorem dX4_areMoves_17 : decode cX4_areMoves 17 = .ok (.istore 5, 2) := by decide +kernel
theorem dX4_areMoves_19 : decode cX4_areMoves 19 = .ok (.iload 5, 2) := by decide +kernel
theorem dX4_areMoves_21 : decode cX4_areMoves 21 = .ok (.iload 4, 2) := by decide +kernel
theorem dX4_areMoves_23 : decode cX4_areMoves 23 = .ok (.if_icmp .ge 73, 3) := by decide +kernel
theorem dX4_areMoves_26 : decode cX4_areMoves 26 = .ok (.aload_n 0, 1) := by decide +kernel
theorem dX4_areMoves_27 : decode cX4_areMoves 27 = .ok (.getfield 19, 3) := by decide +kernel
theorem dX4_areMoves_30 : decode cX4_areMoves 30 = .ok (.lload_n 2, 1) := by decide +kernel
theorem dX4_areMoves_31 : decode cX4_areMoves 31 = .ok (.iload 4, 2) := by decide +kernel
theorem dX4_areMoves_33 : decode cX4_areMoves 33 = .ok (.iload 5, 2) := by decide +kernel
theorem dX4_areMoves_35 : decode cX4_areMoves 35 = .ok (.invokestatic 170, 3) := by decide +kernel
theorem dX4_areMoves_38 : decode cX4_areMoves 38 = .ok (.invokevirtual 71, 3) := by decide +kernel
theorem dX4_areMoves_41 : decode cX4_areMoves 41 = .ok (.ifCond .eq 39, 3) := by decide +kernel
theorem dX4_areMoves_44 : decode cX4_areMoves 44 = .ok (.lload_n 2, 1) := by decide +kernel
theorem dX4_areMoves_45 : decode cX4_areMoves 45 = .ok (.iload 4, 2) := by decide +kernel
theorem dX4_areMoves_47 : decode cX4_areMoves 47 = .ok (.iload 5, 2) := by decide +kernel
theorem dX4_areMoves_49 : decode cX4_areMoves 49 = .ok (.iconst 1, 1) := by decide +kernel
theorem dX4_areMoves_50 : decode cX4_areMoves 50 = .ok (.iadd, 1) := by decide +kernel
theorem dX4_areMoves_51 : decode cX4_areMoves 51 = .ok (.invokestatic 170, 3) := by decide +kernel
theorem dX4_areMoves_54 : decode cX4_areMoves 54 = .ok (.invokestatic 135, 3) := by decide +kernel
theorem dX4_areMoves_57 : decode cX4_areMoves 57 = .ok (.ifCond .eq 23, 3) := by decide +kernel
theorem dX4_areMoves_60 : decode cX4_areMoves 60 = .ok (.lload_n 2, 1) := by decide +kernel
theorem dX4_areMoves_61 : decode cX4_areMoves 61 = .ok (.iload 4, 2) := by decide +kernel
theorem dX4_areMoves_63 : decode cX4_areMoves 63 = .ok (.iload 5, 2) := by decide +kernel
theorem dX4_areMoves_65 : decode cX4_areMoves 65 = .ok (.iconst 2, 1) := by decide +kernel
theorem dX4_areMoves_66 : decode cX4_areMoves 66 = .ok (.iadd, 1) := by decide +kernel
theorem dX4_areMoves_67 : decode cX4_areMoves 67 = .ok (.invokestatic 170, 3) := by decide +kernel
theorem dX4_areMoves_70 : decode cX4_areMoves 70 = .ok (.invokestatic 106, 3) := by decide +kernel
theorem dX4_areMoves_73 : decode cX4_areMoves 73 = .ok (.ifCond .eq 7, 3) := by decide +kernel
theorem dX4_areMoves_76 : decode cX4_areMoves 76 = .ok (.iconst 1, 1) := by decide +kernel
theorem dX4_areMoves_77 : decode cX4_areMoves 77 = .ok (.goto 4, 3) := by decide +kernel
theorem dX4_areMoves_80 : decode cX4_areMoves 80 = .ok (.iconst 0, 1) := by decide +kernel
theorem dX4_areMoves_81 : decode cX4_areMoves 81 = .ok (.istore 6, 2) := by decide +kernel
theorem dX4_areMoves_83 : decode cX4_areMoves 83 = .ok (.iload 6, 2) := by decide +kernel
theorem dX4_areMoves_85 : decode cX4_areMoves 85 = .ok (.ifCond .ne 5, 3) := by decide +kernel
theorem dX4_areMoves_88 : decode cX4_areMoves 88 = .ok (.iconst 0, 1) := by decide +kernel
theorem dX4_areMoves_89 : decode cX4_areMoves 89 = .ok (.ireturn, 1) := by decide +kernel
theorem dX4_areMoves_90 : decode cX4_areMoves 90 = .ok (.iinc 5 3, 3) := by decide +kernel
theorem dX4_areMoves_93 : decode cX4_areMoves 93 = .ok (.goto (-74), 3) := by decide +kernel
theorem dX4_areMoves_96 : decode cX4_areMoves 96 = .ok (.iconst 1, 1) := by decide +kernel
theorem dX4_areMoves_97 : decode cX4_areMoves 97 = .ok (.ireturn, 1) := by decide +kernel
theorem dX4_moveAt_0 : decode cX4_moveAt 0 = .ok (.iload_n 1, 1) := by decide +kernel
theorem dX4_moveAt_1 : decode cX4_moveAt 1 = .ok (.iconst 2, 1) := by decide +kernel
theorem dX4_moveAt_2 : decode cX4_moveAt 2 = .ok (.iload_n 0, 1) := by decide +kernel
theorem dX4_moveAt_3 : decode cX4_moveAt 3 = .ok (.iconst 1, 1) := by decide +kernel
theorem dX4_moveAt_4 : decode cX4_moveAt 4 = .ok (.isub, 1) := by decide +kernel
theorem dX4_moveAt_5 : decode cX4_moveAt 5 = .ok (.iload_n 2, 1) := by decide +kernel
theorem dX4_moveAt_6 : decode cX4_moveAt 6 = .ok (.isub, 1) := by decide +kernel
theorem dX4_moveAt_7 : decode cX4_moveAt 7 = .ok (.imul, 1) := by decide +kernel
theorem dX4_moveAt_8 : decode cX4_moveAt 8 = .ok (.ishr, 1) := by decide +kernel
theorem dX4_moveAt_9 : decode cX4_moveAt 9 = .ok (.iconst 3, 1) := by decide +kernel
theorem dX4_moveAt_10 : decode cX4_moveAt 10 = .ok (.iand, 1) := by decide +kernel
theorem dX4_moveAt_11 : decode cX4_moveAt 11 = .ok (.ireturn, 1) := by decide +kernel
theorem dX4_isOrder_0 : decode cX4_isOrder 0 = .ok (.iconst 0, 1) := by decide +kernel
theorem dX4_isOrder_1 : decode cX4_isOrder 1 = .ok (.istore_n 2, 1) := by decide +kernel
theorem dX4_isOrder_2 : decode cX4_isOrder 2 = .ok (.iconst 0, 1) := by decide +kernel
theorem dX4_isOrder_3 : decode cX4_isOrder 3 = .ok (.istore_n 3, 1) := by decide +kernel
theorem dX4_isOrder_4 : decode cX4_isOrder 4 = .ok (.iload_n 3, 1) := by decide +kernel
theorem dX4_isOrder_5 : decode cX4_isOrder 5 = .ok (.iload_n 0, 1) := by decide +kernel
theorem dX4_isOrder_6 : decode cX4_isOrder 6 = .ok (.if_icmp .ge 20, 3) := by decide +kernel
theorem dX4_isOrder_9 : decode cX4_isOrder 9 = .ok (.iload_n 2, 1) := by decide +kernel
theorem dX4_isOrder_10 : decode cX4_isOrder 10 = .ok (.iconst 1, 1) := by decide +kernel
theorem dX4_isOrder_11 : decode cX4_isOrder 11 = .ok (.iload_n 0, 1) := by decide +kernel
theorem dX4_isOrder_12 : decode cX4_isOrder 12 = .ok (.iload_n 1, 1) := by decide +kernel
theorem dX4_isOrder_13 : decode cX4_isOrder 13 = .ok (.iload_n 3, 1) := by decide +kernel
theorem dX4_isOrder_14 : decode cX4_isOrder 14 = .ok (.invokestatic 174, 3) := by decide +kernel
theorem dX4_isOrder_17 : decode cX4_isOrder 17 = .ok (.ishl, 1) := by decide +kernel
theorem dX4_isOrder_18 : decode cX4_isOrder 18 = .ok (.ior, 1) := by decide +kernel
theorem dX4_isOrder_19 : decode cX4_isOrder 19 = .ok (.istore_n 2, 1) := by decide +kernel
theorem dX4_isOrder_20 : decode cX4_isOrder 20 = .ok (.iinc 3 1, 3) := by decide +kernel
theorem dX4_isOrder_23 : decode cX4_isOrder 23 = .ok (.goto (-19), 3) := by decide +kernel
theorem dX4_isOrder_26 : decode cX4_isOrder 26 = .ok (.iload_n 2, 1) := by decide +kernel
theorem dX4_isOrder_27 : decode cX4_isOrder 27 = .ok (.iconst 1, 1) := by decide +kernel
theorem dX4_isOrder_28 : decode cX4_isOrder 28 = .ok (.iload_n 0, 1) := by decide +kernel
theorem dX4_isOrder_29 : decode cX4_isOrder 29 = .ok (.ishl, 1) := by decide +kernel
theorem dX4_isOrder_30 : decode cX4_isOrder 30 = .ok (.iconst 1, 1) := by decide +kernel
theorem dX4_isOrder_31 : decode cX4_isOrder 31 = .ok (.isub, 1) := by decide +kernel
theorem dX4_isOrder_32 : decode cX4_isOrder 32 = .ok (.if_icmp .ne 7, 3) := by decide +kernel
theorem dX4_isOrder_35 : decode cX4_isOrder 35 = .ok (.iconst 1, 1) := by decide +kernel
theorem dX4_isOrder_36 : decode cX4_isOrder 36 = .ok (.goto 4, 3) := by decide +kernel
theorem dX4_isOrder_39 : decode cX4_isOrder 39 = .ok (.iconst 0, 1) := by decide +kernel
theorem dX4_isOrder_40 : decode cX4_isOrder 40 = .ok (.ireturn, 1) := by decide +kernel
theorem dX4_orderNumber_0 : decode cX4_orderNumber 0 = .ok (.iconst 0, 1) := by decide +kernel
theorem dX4_orderNumber_1 : decode cX4_orderNumber 1 = .ok (.istore_n 2, 1) := by decide +kernel
theorem dX4_orderNumber_2 : decode cX4_orderNumber 2 = .ok (.iconst 0, 1) := by decide +kernel
theorem dX4_orderNumber_3 : decode cX4_orderNumber 3 = .ok (.istore_n 3, 1) := by decide +kernel
theorem dX4_orderNumber_4 : decode cX4_orderNumber 4 = .ok (.iload_n 3, 1) := by decide +kernel
theorem dX4_orderNumber_5 : decode cX4_orderNumber 5 = .ok (.iload_n 0, 1) := by decide +kernel
theorem dX4_orderNumber_6 : decode cX4_orderNumber 6 = .ok (.if_icmp .ge 23, 3) := by decide +kernel
theorem dX4_orderNumber_9 : decode cX4_orderNumber 9 = .ok (.bipush 10, 2) := by decide +kernel
theorem dX4_orderNumber_11 : decode cX4_orderNumber 11 = .ok (.iload_n 2, 1) := by decide +kernel
theorem dX4_orderNumber_12 : decode cX4_orderNumber 12 = .ok (.imul, 1) := by decide +kernel
theorem dX4_orderNumber_13 : decode cX4_orderNumber 13 = .ok (.iload_n 0, 1) := by decide +kernel
theorem dX4_orderNumber_14 : decode cX4_orderNumber 14 = .ok (.iload_n 1, 1) := by decide +kernel
theorem dX4_orderNumber_15 : decode cX4_orderNumber 15 = .ok (.iload_n 3, 1) := by decide +kernel
theorem dX4_orderNumber_16 : decode cX4_orderNumber 16 = .ok (.invokestatic 174, 3) := by decide +kernel
theorem dX4_orderNumber_19 : decode cX4_orderNumber 19 = .ok (.iadd, 1) := by decide +kernel
theorem dX4_orderNumber_20 : decode cX4_orderNumber 20 = .ok (.iconst 1, 1) := by decide +kernel
theorem dX4_orderNumber_21 : decode cX4_orderNumber 21 = .ok (.iadd, 1) := by decide +kernel
theorem dX4_orderNumber_22 : decode cX4_orderNumber 22 = .ok (.istore_n 2, 1) := by decide +kernel
theorem dX4_orderNumber_23 : decode cX4_orderNumber 23 = .ok (.iinc 3 1, 3) := by decide +kernel
theorem dX4_orderNumber_26 : decode cX4_orderNumber 26 = .ok (.goto (-22), 3) := by decide +kernel
theorem dX4_orderNumber_29 : decode cX4_orderNumber 29 = .ok (.iload_n 2, 1) := by decide +kernel
theorem dX4_orderNumber_30 : decode cX4_orderNumber 30 = .ok (.ireturn, 1) := by decide +kernel
theorem dX4_isSafeOrder_0 : decode cX4_isSafeOrder 0 = .ok (.aload_n 0, 1) := by decide +kernel
theorem dX4_isSafeOrder_1 : decode cX4_isSafeOrder 1 = .ok (.getfield 23, 3) := by decide +kernel
theorem dX4_isSafeOrder_4 : decode cX4_isSafeOrder 4 = .ok (.aload_n 0, 1) := by decide +kernel
theorem dX4_isSafeOrder_5 : decode cX4_isSafeOrder 5 = .ok (.getfield 19, 3) := by decide +kernel
theorem dX4_isSafeOrder_8 : decode cX4_isSafeOrder 8 = .ok (.invokevirtual 138, 3) := by decide +kernel
theorem dX4_isSafeOrder_11 : decode cX4_isSafeOrder 11 = .ok (.iconst 0, 1) := by decide +kernel
theorem dX4_isSafeOrder_12 : decode cX4_isSafeOrder 12 = .ok (.istore 5, 2) := by decide +kernel
theorem dX4_isSafeOrder_14 : decode cX4_isSafeOrder 14 = .ok (.iload 5, 2) := by decide +kernel
theorem dX4_isSafeOrder_16 : decode cX4_isSafeOrder 16 = .ok (.iload_n 1, 1) := by decide +kernel
theorem dX4_isSafeOrder_17 : decode cX4_isSafeOrder 17 = .ok (.if_icmp .ge 38, 3) := by decide +kernel
theorem dX4_isSafeOrder_20 : decode cX4_isSafeOrder 20 = .ok (.aload_n 0, 1) := by decide +kernel
theorem dX4_isSafeOrder_21 : decode cX4_isSafeOrder 21 = .ok (.iload_n 1, 1) := by decide +kernel
theorem dX4_isSafeOrder_22 : decode cX4_isSafeOrder 22 = .ok (.lload_n 2, 1) := by decide +kernel
theorem dX4_isSafeOrder_23 : decode cX4_isSafeOrder 23 = .ok (.iload_n 1, 1) := by decide +kernel
theorem dX4_isSafeOrder_24 : decode cX4_isSafeOrder 24 = .ok (.iload 4, 2) := by decide +kernel
theorem dX4_isSafeOrder_26 : decode cX4_isSafeOrder 26 = .ok (.iload 5, 2) := by decide +kernel
theorem dX4_isSafeOrder_28 : decode cX4_isSafeOrder 28 = .ok (.invokestatic 174, 3) := by decide +kernel
theorem dX4_isSafeOrder_31 : decode cX4_isSafeOrder 31 = .ok (.invokevirtual 178, 3) := by decide +kernel
theorem dX4_isSafeOrder_34 : decode cX4_isSafeOrder 34 = .ok (.ifCond .eq 13, 3) := by decide +kernel
theorem dX4_isSafeOrder_37 : decode cX4_isSafeOrder 37 = .ok (.aload_n 0, 1) := by decide +kernel
theorem dX4_isSafeOrder_38 : decode cX4_isSafeOrder 38 = .ok (.getfield 23, 3) := by decide +kernel
theorem dX4_isSafeOrder_41 : decode cX4_isSafeOrder 41 = .ok (.invokevirtual 103, 3) := by decide +kernel
theorem dX4_isSafeOrder_44 : decode cX4_isSafeOrder 44 = .ok (.ifCond .le 5, 3) := by decide +kernel
theorem dX4_isSafeOrder_47 : decode cX4_isSafeOrder 47 = .ok (.iconst 0, 1) := by decide +kernel
theorem dX4_isSafeOrder_48 : decode cX4_isSafeOrder 48 = .ok (.ireturn, 1) := by decide +kernel
theorem dX4_isSafeOrder_49 : decode cX4_isSafeOrder 49 = .ok (.iinc 5 1, 3) := by decide +kernel
theorem dX4_isSafeOrder_52 : decode cX4_isSafeOrder 52 = .ok (.goto (-38), 3) := by decide +kernel
theorem dX4_isSafeOrder_55 : decode cX4_isSafeOrder 55 = .ok (.iconst 1, 1) := by decide +kernel
theorem dX4_isSafeOrder_56 : decode cX4_isSafeOrder 56 = .ok (.ireturn, 1) := by decide +kernel
theorem dX4_canMove_0 : decode cX4_canMove 0 = .ok (.iconst 3, 1) := by decide +kernel
theorem dX4_canMove_1 : decode cX4_canMove 1 = .ok (.iload_n 1, 1) := by decide +kernel
theorem dX4_canMove_2 : decode cX4_canMove 2 = .ok (.imul, 1) := by decide +kernel
theorem dX4_canMove_3 : decode cX4_canMove 3 = .ok (.istore 5, 2) := by decide +kernel
theorem dX4_canMove_5 : decode cX4_canMove 5 = .ok (.iconst 3, 1) := by decide +kernel
theorem dX4_canMove_6 : decode cX4_canMove 6 = .ok (.iload 4, 2) := by decide +kernel
theorem dX4_canMove_8 : decode cX4_canMove 8 = .ok (.imul, 1) := by decide +kernel
theorem dX4_canMove_9 : decode cX4_canMove 9 = .ok (.istore 6, 2) := by decide +kernel
theorem dX4_canMove_11 : decode cX4_canMove 11 = .ok (.lload_n 2, 1) := by decide +kernel
theorem dX4_canMove_12 : decode cX4_canMove 12 = .ok (.iload 5, 2) := by decide +kernel
theorem dX4_canMove_14 : decode cX4_canMove 14 = .ok (.iload 6, 2) := by decide +kernel
theorem dX4_canMove_16 : decode cX4_canMove 16 = .ok (.invokestatic 170, 3) := by decide +kernel
theorem dX4_canMove_19 : decode cX4_canMove 19 = .ok (.istore 7, 2) := by decide +kernel
theorem dX4_canMove_21 : decode cX4_canMove 21 = .ok (.lload_n 2, 1) := by decide +kernel
theorem dX4_canMove_22 : decode cX4_canMove 22 = .ok (.iload 5, 2) := by decide +kernel
theorem dX4_canMove_24 : decode cX4_canMove 24 = .ok (.iload 6, 2) := by decide +kernel
theorem dX4_canMove_26 : decode cX4_canMove 26 = .ok (.iconst 2, 1) := by decide +kernel
theorem dX4_canMove_27 : decode cX4_canMove 27 = .ok (.iadd, 1) := by decide +kernel
theorem dX4_canMove_28 : decode cX4_canMove 28 = .ok (.invokestatic 170, 3) := by decide +kernel
theorem dX4_canMove_31 : decode cX4_canMove 31 = .ok (.istore 8, 2) := by decide +kernel
theorem dX4_canMove_33 : decode cX4_canMove 33 = .ok (.lload_n 2, 1) := by decide +kernel
theorem dX4_canMove_34 : decode cX4_canMove 34 = .ok (.iload 5, 2) := by decide +kernel
theorem dX4_canMove_36 : decode cX4_canMove 36 = .ok (.iload 6, 2) := by decide +kernel
theorem dX4_canMove_38 : decode cX4_canMove 38 = .ok (.iconst 1, 1) := by decide +kernel
theorem dX4_canMove_39 : decode cX4_canMove 39 = .ok (.iadd, 1) := by decide +kernel
theorem dX4_canMove_40 : decode cX4_canMove 40 = .ok (.invokestatic 170, 3) := by decide +kernel
theorem dX4_canMove_43 : decode cX4_canMove 43 = .ok (.ifCond .ne 17, 3) := by decide +kernel
theorem dX4_canMove_46 : decode cX4_canMove 46 = .ok (.aload_n 0, 1) := by decide +kernel
theorem dX4_canMove_47 : decode cX4_canMove 47 = .ok (.getfield 23, 3) := by decide +kernel
theorem dX4_canMove_50 : decode cX4_canMove 50 = .ok (.iload 7, 2) := by decide +kernel
theorem dX4_canMove_52 : decode cX4_canMove 52 = .ok (.iload 8, 2) := by decide +kernel
theorem dX4_canMove_54 : decode cX4_canMove 54 = .ok (.invokevirtual 113, 3) := by decide +kernel
theorem dX4_canMove_57 : decode cX4_canMove 57 = .ok (.goto 14, 3) := by decide +kernel
theorem dX4_canMove_60 : decode cX4_canMove 60 = .ok (.aload_n 0, 1) := by decide +kernel
theorem dX4_canMove_61 : decode cX4_canMove 61 = .ok (.getfield 23, 3) := by decide +kernel
theorem dX4_canMove_64 : decode cX4_canMove 64 = .ok (.iload 7, 2) := by decide +kernel
theorem dX4_canMove_66 : decode cX4_canMove 66 = .ok (.iload 8, 2) := by decide +kernel
theorem dX4_canMove_68 : decode cX4_canMove 68 = .ok (.invokevirtual 119, 3) := by decide +kernel
theorem dX4_canMove_71 : decode cX4_canMove 71 = .ok (.ireturn, 1) := by decide +kernel
theorem dX4_piano_0 : decode cX4_piano 0 = .ok (.iload_n 1, 1) := by decide +kernel
theorem dX4_piano_1 : decode cX4_piano 1 = .ok (.invokestatic 106, 3) := by decide +kernel
theorem dX4_piano_4 : decode cX4_piano 4 = .ok (.ifCond .ne 6, 3) := by decide +kernel
theorem dX4_piano_7 : decode cX4_piano 7 = .ok (.bipush (-2), 2) := by decide +kernel
theorem dX4_piano_9 : decode cX4_piano 9 = .ok (.ireturn, 1) := by decide +kernel
theorem dX4_piano_10 : decode cX4_piano 10 = .ok (.iconst 0, 1) := by decide +kernel
theorem dX4_piano_11 : decode cX4_piano 11 = .ok (.istore_n 2, 1) := by decide +kernel
theorem dX4_piano_12 : decode cX4_piano 12 = .ok (.iconst 0, 1) := by decide +kernel
theorem dX4_piano_13 : decode cX4_piano 13 = .ok (.istore_n 3, 1) := by decide +kernel
theorem dX4_piano_14 : decode cX4_piano 14 = .ok (.iload_n 3, 1) := by decide +kernel
theorem dX4_piano_15 : decode cX4_piano 15 = .ok (.aload_n 0, 1) := by decide +kernel
theorem dX4_piano_16 : decode cX4_piano 16 = .ok (.getfield 19, 3) := by decide +kernel
theorem dX4_piano_19 : decode cX4_piano 19 = .ok (.invokevirtual 68, 3) := by decide +kernel
theorem dX4_piano_22 : decode cX4_piano 22 = .ok (.if_icmp .ge 61, 3) := by decide +kernel
theorem dX4_piano_25 : decode cX4_piano 25 = .ok (.aload_n 0, 1) := by decide +kernel
theorem dX4_piano_26 : decode cX4_piano 26 = .ok (.getfield 23, 3) := by decide +kernel
theorem dX4_piano_29 : decode cX4_piano 29 = .ok (.aload_n 0, 1) := by decide +kernel
theorem dX4_piano_30 : decode cX4_piano 30 = .ok (.getfield 19, 3) := by decide +kernel
theorem dX4_piano_33 : decode cX4_piano 33 = .ok (.invokevirtual 138, 3) := by decide +kernel
theorem dX4_piano_36 : decode cX4_piano 36 = .ok (.aload_n 0, 1) := by decide +kernel
theorem dX4_piano_37 : decode cX4_piano 37 = .ok (.getfield 23, 3) := by decide +kernel
theorem dX4_piano_40 : decode cX4_piano 40 = .ok (.iload_n 3, 1) := by decide +kernel
theorem dX4_piano_41 : decode cX4_piano 41 = .ok (.invokevirtual 87, 3) := by decide +kernel
theorem dX4_piano_44 : decode cX4_piano 44 = .ok (.ifCond .eq 33, 3) := by decide +kernel
theorem dX4_piano_47 : decode cX4_piano 47 = .ok (.aload_n 0, 1) := by decide +kernel
theorem dX4_piano_48 : decode cX4_piano 48 = .ok (.getfield 23, 3) := by decide +kernel
theorem dX4_piano_51 : decode cX4_piano 51 = .ok (.iload_n 3, 1) := by decide +kernel
theorem dX4_piano_52 : decode cX4_piano 52 = .ok (.iload_n 1, 1) := by decide +kernel
theorem dX4_piano_53 : decode cX4_piano 53 = .ok (.invokevirtual 113, 3) := by decide +kernel
theorem dX4_piano_56 : decode cX4_piano 56 = .ok (.ifCond .eq 21, 3) := by decide +kernel
theorem dX4_piano_59 : decode cX4_piano 59 = .ok (.aload_n 0, 1) := by decide +kernel
theorem dX4_piano_60 : decode cX4_piano 60 = .ok (.getfield 23, 3) := by decide +kernel
theorem dX4_piano_63 : decode cX4_piano 63 = .ok (.bipush 6, 2) := by decide +kernel
theorem dX4_piano_65 : decode cX4_piano 65 = .ok (.invokevirtual 181, 3) := by decide +kernel
theorem dX4_piano_68 : decode cX4_piano 68 = .ok (.ifCond .eq 9, 3) := by decide +kernel
theorem dX4_piano_71 : decode cX4_piano 71 = .ok (.iload_n 2, 1) := by decide +kernel
theorem dX4_piano_72 : decode cX4_piano 72 = .ok (.iconst 1, 1) := by decide +kernel
theorem dX4_piano_73 : decode cX4_piano 73 = .ok (.iload_n 3, 1) := by decide +kernel
theorem dX4_piano_74 : decode cX4_piano 74 = .ok (.ishl, 1) := by decide +kernel
theorem dX4_piano_75 : decode cX4_piano 75 = .ok (.ior, 1) := by decide +kernel
theorem dX4_piano_76 : decode cX4_piano 76 = .ok (.istore_n 2, 1) := by decide +kernel
theorem dX4_piano_77 : decode cX4_piano 77 = .ok (.iinc 3 1, 3) := by decide +kernel
theorem dX4_piano_80 : decode cX4_piano 80 = .ok (.goto (-66), 3) := by decide +kernel
theorem dX4_piano_83 : decode cX4_piano 83 = .ok (.iload_n 2, 1) := by decide +kernel
theorem dX4_piano_84 : decode cX4_piano 84 = .ok (.ireturn, 1) := by decide +kernel
theorem dX4_sacks_0 : decode cX4_sacks 0 = .ok (.iload_n 1, 1) := by decide +kernel
theorem dX4_sacks_1 : decode cX4_sacks 1 = .ok (.invokestatic 135, 3) := by decide +kernel
theorem dX4_sacks_4 : decode cX4_sacks 4 = .ok (.ifCond .ne 6, 3) := by decide +kernel
theorem dX4_sacks_7 : decode cX4_sacks 7 = .ok (.bipush (-2), 2) := by decide +kernel
theorem dX4_sacks_9 : decode cX4_sacks 9 = .ok (.ireturn, 1) := by decide +kernel
theorem dX4_sacks_10 : decode cX4_sacks 10 = .ok (.aload_n 0, 1) := by decide +kernel
theorem dX4_sacks_11 : decode cX4_sacks 11 = .ok (.getfield 23, 3) := by decide +kernel
theorem dX4_sacks_14 : decode cX4_sacks 14 = .ok (.aload_n 0, 1) := by decide +kernel
theorem dX4_sacks_15 : decode cX4_sacks 15 = .ok (.getfield 19, 3) := by decide +kernel
theorem dX4_sacks_18 : decode cX4_sacks 18 = .ok (.invokevirtual 138, 3) := by decide +kernel
theorem dX4_sacks_21 : decode cX4_sacks 21 = .ok (.aload_n 0, 1) := by decide +kernel
theorem dX4_sacks_22 : decode cX4_sacks 22 = .ok (.getfield 23, 3) := by decide +kernel
theorem dX4_sacks_25 : decode cX4_sacks 25 = .ok (.bipush 6, 2) := by decide +kernel
theorem dX4_sacks_27 : decode cX4_sacks 27 = .ok (.invokevirtual 181, 3) := by decide +kernel
theorem dX4_sacks_30 : decode cX4_sacks 30 = .ok (.ifCond .eq 5, 3) := by decide +kernel
theorem dX4_sacks_33 : decode cX4_sacks 33 = .ok (.iconst 0, 1) := by decide +kernel
theorem dX4_sacks_34 : decode cX4_sacks 34 = .ok (.ireturn, 1) := by decide +kernel
theorem dX4_sacks_35 : decode cX4_sacks 35 = .ok (.bipush 19, 2) := by decide +kernel
theorem dX4_sacks_37 : decode cX4_sacks 37 = .ok (.istore_n 2, 1) := by decide +kernel
theorem dX4_sacks_38 : decode cX4_sacks 38 = .ok (.bipush (-9), 2) := by decide +kernel
theorem dX4_sacks_40 : decode cX4_sacks 40 = .ok (.istore_n 3, 1) := by decide +kernel
theorem dX4_sacks_41 : decode cX4_sacks 41 = .ok (.iconst 0, 1) := by decide +kernel
theorem dX4_sacks_42 : decode cX4_sacks 42 = .ok (.istore 4, 2) := by decide +kernel
theorem dX4_sacks_44 : decode cX4_sacks 44 = .ok (.iload 4, 2) := by decide +kernel
theorem dX4_sacks_46 : decode cX4_sacks 46 = .ok (.aload_n 0, 1) := by decide +kernel
theorem dX4_sacks_47 : decode cX4_sacks 47 = .ok (.getfield 19, 3) := by decide +kernel
theorem dX4_sacks_50 : decode cX4_sacks 50 = .ok (.invokevirtual 68, 3) := by decide +kernel
theorem dX4_sacks_53 : decode cX4_sacks 53 = .ok (.if_icmp .ge 77, 3) := by decide +kernel
theorem dX4_sacks_56 : decode cX4_sacks 56 = .ok (.iload 4, 2) := by decide +kernel
theorem dX4_sacks_58 : decode cX4_sacks 58 = .ok (.istore 5, 2) := by decide +kernel
theorem dX4_sacks_60 : decode cX4_sacks 60 = .ok (.iload 5, 2) := by decide +kernel
theorem dX4_sacks_62 : decode cX4_sacks 62 = .ok (.aload_n 0, 1) := by decide +kernel
theorem dX4_sacks_63 : decode cX4_sacks 63 = .ok (.getfield 19, 3) := by decide +kernel
theorem dX4_sacks_66 : decode cX4_sacks 66 = .ok (.invokevirtual 68, 3) := by decide +kernel
theorem dX4_sacks_69 : decode cX4_sacks 69 = .ok (.if_icmp .ge 55, 3) := by decide +kernel
theorem dX4_sacks_72 : decode cX4_sacks 72 = .ok (.iload 4, 2) := by decide +kernel
theorem dX4_sacks_74 : decode cX4_sacks 74 = .ok (.iload 5, 2) := by decide +kernel
theorem dX4_sacks_76 : decode cX4_sacks 76 = .ok (.if_icmp .ne 13, 3) := by decide +kernel
theorem dX4_sacks_79 : decode cX4_sacks 79 = .ok (.aload_n 0, 1) := by decide +kernel
theorem dX4_sacks_80 : decode cX4_sacks 80 = .ok (.iload 4, 2) := by decide +kernel
theorem dX4_sacks_82 : decode cX4_sacks 82 = .ok (.iload_n 2, 1) := by decide +kernel
theorem dX4_sacks_83 : decode cX4_sacks 83 = .ok (.invokevirtual 184, 3) := by decide +kernel
theorem dX4_sacks_86 : decode cX4_sacks 86 = .ok (.goto 12, 3) := by decide +kernel
theorem dX4_sacks_89 : decode cX4_sacks 89 = .ok (.aload_n 0, 1) := by decide +kernel
theorem dX4_sacks_90 : decode cX4_sacks 90 = .ok (.iload 4, 2) := by decide +kernel
theorem dX4_sacks_92 : decode cX4_sacks 92 = .ok (.iload 5, 2) := by decide +kernel
theorem dX4_sacks_94 : decode cX4_sacks 94 = .ok (.iload_n 2, 1) := by decide +kernel
theorem dX4_sacks_95 : decode cX4_sacks 95 = .ok (.invokevirtual 187, 3) := by decide +kernel
theorem dX4_sacks_98 : decode cX4_sacks 98 = .ok (.istore 6, 2) := by decide +kernel
theorem dX4_sacks_100 : decode cX4_sacks 100 = .ok (.iload 6, 2) := by decide +kernel
theorem dX4_sacks_102 : decode cX4_sacks 102 = .ok (.iload_n 2, 1) := by decide +kernel
theorem dX4_sacks_103 : decode cX4_sacks 103 = .ok (.if_icmp .ge 15, 3) := by decide +kernel
theorem dX4_sacks_106 : decode cX4_sacks 106 = .ok (.iload 6, 2) := by decide +kernel
theorem dX4_sacks_108 : decode cX4_sacks 108 = .ok (.istore_n 2, 1) := by decide +kernel
theorem dX4_sacks_109 : decode cX4_sacks 109 = .ok (.bipush 10, 2) := by decide +kernel
theorem dX4_sacks_111 : decode cX4_sacks 111 = .ok (.iload 4, 2) := by decide +kernel
theorem dX4_sacks_113 : decode cX4_sacks 113 = .ok (.imul, 1) := by decide +kernel
theorem dX4_sacks_114 : decode cX4_sacks 114 = .ok (.iload 5, 2) := by decide +kernel
theorem dX4_sacks_116 : decode cX4_sacks 116 = .ok (.iadd, 1) := by decide +kernel
theorem dX4_sacks_117 : decode cX4_sacks 117 = .ok (.istore_n 3, 1) := by decide +kernel
theorem dX4_sacks_118 : decode cX4_sacks 118 = .ok (.iinc 5 1, 3) := by decide +kernel
theorem dX4_sacks_121 : decode cX4_sacks 121 = .ok (.goto (-61), 3) := by decide +kernel
theorem dX4_sacks_124 : decode cX4_sacks 124 = .ok (.iinc 4 1, 3) := by decide +kernel
theorem dX4_sacks_127 : decode cX4_sacks 127 = .ok (.goto (-83), 3) := by decide +kernel
theorem dX4_sacks_130 : decode cX4_sacks 130 = .ok (.iload_n 1, 1) := by decide +kernel
theorem dX4_sacks_131 : decode cX4_sacks 131 = .ok (.ifCond .ne 13, 3) := by decide +kernel
theorem dX4_sacks_134 : decode cX4_sacks 134 = .ok (.iload_n 3, 1) := by decide +kernel
theorem dX4_sacks_135 : decode cX4_sacks 135 = .ok (.bipush (-9), 2) := by decide +kernel
theorem dX4_sacks_137 : decode cX4_sacks 137 = .ok (.if_icmp .eq 7, 3) := by decide +kernel
theorem dX4_sacks_140 : decode cX4_sacks 140 = .ok (.iload_n 2, 1) := by decide +kernel
theorem dX4_sacks_141 : decode cX4_sacks 141 = .ok (.goto 4, 3) := by decide +kernel
theorem dX4_sacks_144 : decode cX4_sacks 144 = .ok (.iload_n 3, 1) := by decide +kernel
theorem dX4_sacks_145 : decode cX4_sacks 145 = .ok (.ireturn, 1) := by decide +kernel
theorem dX4_fewestFromOne_0 : decode cX4_fewestFromOne 0 = .ok (.iconst 1, 1) := by decide +kernel
theorem dX4_fewestFromOne_1 : decode cX4_fewestFromOne 1 = .ok (.istore_n 3, 1) := by decide +kernel
theorem dX4_fewestFromOne_2 : decode cX4_fewestFromOne 2 = .ok (.iload_n 3, 1) := by decide +kernel
theorem dX4_fewestFromOne_3 : decode cX4_fewestFromOne 3 = .ok (.aload_n 0, 1) := by decide +kernel
theorem dX4_fewestFromOne_4 : decode cX4_fewestFromOne 4 = .ok (.iload_n 1, 1) := by decide +kernel
theorem dX4_fewestFromOne_5 : decode cX4_fewestFromOne 5 = .ok (.invokevirtual 190, 3) := by decide +kernel
theorem dX4_fewestFromOne_8 : decode cX4_fewestFromOne 8 = .ok (.if_icmp .gt 27, 3) := by decide +kernel
theorem dX4_fewestFromOne_11 : decode cX4_fewestFromOne 11 = .ok (.iload_n 3, 1) := by decide +kernel
theorem dX4_fewestFromOne_12 : decode cX4_fewestFromOne 12 = .ok (.iload_n 2, 1) := by decide +kernel
theorem dX4_fewestFromOne_13 : decode cX4_fewestFromOne 13 = .ok (.if_icmp .ge 22, 3) := by decide +kernel
theorem dX4_fewestFromOne_16 : decode cX4_fewestFromOne 16 = .ok (.aload_n 0, 1) := by decide +kernel
theorem dX4_fewestFromOne_17 : decode cX4_fewestFromOne 17 = .ok (.iload_n 1, 1) := by decide +kernel
theorem dX4_fewestFromOne_18 : decode cX4_fewestFromOne 18 = .ok (.iload_n 3, 1) := by decide +kernel
theorem dX4_fewestFromOne_19 : decode cX4_fewestFromOne 19 = .ok (.iload_n 1, 1) := by decide +kernel
theorem dX4_fewestFromOne_20 : decode cX4_fewestFromOne 20 = .ok (.iconst 0, 1) := by decide +kernel
theorem dX4_fewestFromOne_21 : decode cX4_fewestFromOne 21 = .ok (.invokevirtual 193, 3) := by decide +kernel
theorem dX4_fewestFromOne_24 : decode cX4_fewestFromOne 24 = .ok (.ifCond .eq 5, 3) := by decide +kernel
theorem dX4_fewestFromOne_27 : decode cX4_fewestFromOne 27 = .ok (.iload_n 3, 1) := by decide +kernel
theorem dX4_fewestFromOne_28 : decode cX4_fewestFromOne 28 = .ok (.ireturn, 1) := by decide +kernel
theorem dX4_fewestFromOne_29 : decode cX4_fewestFromOne 29 = .ok (.iinc 3 1, 3) := by decide +kernel
theorem dX4_fewestFromOne_32 : decode cX4_fewestFromOne 32 = .ok (.goto (-30), 3) := by decide +kernel
theorem dX4_fewestFromOne_35 : decode cX4_fewestFromOne 35 = .ok (.iload_n 2, 1) := by decide +kernel
theorem dX4_fewestFromOne_36 : decode cX4_fewestFromOne 36 = .ok (.ireturn, 1) := by decide +kernel
theorem dX4_fewestFromTwo_0 : decode cX4_fewestFromTwo 0 = .ok (.aload_n 0, 1) := by decide +kernel
theorem dX4_fewestFromTwo_1 : decode cX4_fewestFromTwo 1 = .ok (.iload_n 1, 1) := by decide +kernel
theorem dX4_fewestFromTwo_2 : decode cX4_fewestFromTwo 2 = .ok (.invokevirtual 190, 3) := by decide +kernel
theorem dX4_fewestFromTwo_5 : decode cX4_fewestFromTwo 5 = .ok (.istore 4, 2) := by decide +kernel
theorem dX4_fewestFromTwo_7 : decode cX4_fewestFromTwo 7 = .ok (.aload_n 0, 1) := by decide +kernel
theorem dX4_fewestFromTwo_8 : decode cX4_fewestFromTwo 8 = .ok (.iload_n 2, 1) := by decide +kernel
theorem dX4_fewestFromTwo_9 : decode cX4_fewestFromTwo 9 = .ok (.invokevirtual 190, 3) := by decide +kernel
theorem dX4_fewestFromTwo_12 : decode cX4_fewestFromTwo 12 = .ok (.istore 5, 2) := by decide +kernel
theorem dX4_fewestFromTwo_14 : decode cX4_fewestFromTwo 14 = .ok (.aload_n 0, 1) := by decide +kernel
theorem dX4_fewestFromTwo_15 : decode cX4_fewestFromTwo 15 = .ok (.iload_n 1, 1) := by decide +kernel
theorem dX4_fewestFromTwo_16 : decode cX4_fewestFromTwo 16 = .ok (.iload 4, 2) := by decide +kernel
theorem dX4_fewestFromTwo_18 : decode cX4_fewestFromTwo 18 = .ok (.iload_n 2, 1) := by decide +kernel
theorem dX4_fewestFromTwo_19 : decode cX4_fewestFromTwo 19 = .ok (.iload 5, 2) := by decide +kernel
theorem dX4_fewestFromTwo_21 : decode cX4_fewestFromTwo 21 = .ok (.invokevirtual 193, 3) := by decide +kernel
theorem dX4_fewestFromTwo_24 : decode cX4_fewestFromTwo 24 = .ok (.ifCond .ne 5, 3) := by decide +kernel
theorem dX4_fewestFromTwo_27 : decode cX4_fewestFromTwo 27 = .ok (.iload_n 3, 1) := by decide +kernel
theorem dX4_fewestFromTwo_28 : decode cX4_fewestFromTwo 28 = .ok (.ireturn, 1) := by decide +kernel
theorem dX4_fewestFromTwo_29 : decode cX4_fewestFromTwo 29 = .ok (.iload_n 3, 1) := by decide +kernel
theorem dX4_fewestFromTwo_30 : decode cX4_fewestFromTwo 30 = .ok (.istore 6, 2) := by decide +kernel
theorem dX4_fewestFromTwo_32 : decode cX4_fewestFromTwo 32 = .ok (.iconst 1, 1) := by decide +kernel
theorem dX4_fewestFromTwo_33 : decode cX4_fewestFromTwo 33 = .ok (.istore 7, 2) := by decide +kernel
theorem dX4_fewestFromTwo_35 : decode cX4_fewestFromTwo 35 = .ok (.iload 7, 2) := by decide +kernel
theorem dX4_fewestFromTwo_37 : decode cX4_fewestFromTwo 37 = .ok (.iload 4, 2) := by decide +kernel
theorem dX4_fewestFromTwo_39 : decode cX4_fewestFromTwo 39 = .ok (.if_icmp .gt 55, 3) := by decide +kernel
theorem dX4_fewestFromTwo_42 : decode cX4_fewestFromTwo 42 = .ok (.iconst 1, 1) := by decide +kernel
theorem dX4_fewestFromTwo_43 : decode cX4_fewestFromTwo 43 = .ok (.istore 8, 2) := by decide +kernel
theorem dX4_fewestFromTwo_45 : decode cX4_fewestFromTwo 45 = .ok (.iload 8, 2) := by decide +kernel
theorem dX4_fewestFromTwo_47 : decode cX4_fewestFromTwo 47 = .ok (.iload 5, 2) := by decide +kernel
theorem dX4_fewestFromTwo_49 : decode cX4_fewestFromTwo 49 = .ok (.if_icmp .gt 39, 3) := by decide +kernel
theorem dX4_fewestFromTwo_52 : decode cX4_fewestFromTwo 52 = .ok (.iload 7, 2) := by decide +kernel
theorem dX4_fewestFromTwo_54 : decode cX4_fewestFromTwo 54 = .ok (.iload 8, 2) := by decide +kernel
theorem dX4_fewestFromTwo_56 : decode cX4_fewestFromTwo 56 = .ok (.iadd, 1) := by decide +kernel
theorem dX4_fewestFromTwo_57 : decode cX4_fewestFromTwo 57 = .ok (.iload 6, 2) := by decide +kernel
theorem dX4_fewestFromTwo_59 : decode cX4_fewestFromTwo 59 = .ok (.if_icmp .ge 29, 3) := by decide +kernel
theorem dX4_fewestFromTwo_62 : decode cX4_fewestFromTwo 62 = .ok (.aload_n 0, 1) := by decide +kernel
theorem dX4_fewestFromTwo_63 : decode cX4_fewestFromTwo 63 = .ok (.iload_n 1, 1) := by decide +kernel
theorem dX4_fewestFromTwo_64 : decode cX4_fewestFromTwo 64 = .ok (.iload 7, 2) := by decide +kernel
theorem dX4_fewestFromTwo_66 : decode cX4_fewestFromTwo 66 = .ok (.iload_n 2, 1) := by decide +kernel
theorem dX4_fewestFromTwo_67 : decode cX4_fewestFromTwo 67 = .ok (.iload 8, 2) := by decide +kernel
theorem dX4_fewestFromTwo_69 : decode cX4_fewestFromTwo 69 = .ok (.invokevirtual 193, 3) := by decide +kernel
theorem dX4_fewestFromTwo_72 : decode cX4_fewestFromTwo 72 = .ok (.ifCond .eq 10, 3) := by decide +kernel
theorem dX4_fewestFromTwo_75 : decode cX4_fewestFromTwo 75 = .ok (.iload 7, 2) := by decide +kernel
theorem dX4_fewestFromTwo_77 : decode cX4_fewestFromTwo 77 = .ok (.iload 8, 2) := by decide +kernel
theorem dX4_fewestFromTwo_79 : decode cX4_fewestFromTwo 79 = .ok (.iadd, 1) := by decide +kernel
theorem dX4_fewestFromTwo_80 : decode cX4_fewestFromTwo 80 = .ok (.istore 6, 2) := by decide +kernel
theorem dX4_fewestFromTwo_82 : decode cX4_fewestFromTwo 82 = .ok (.iinc 8 1, 3) := by decide +kernel
theorem dX4_fewestFromTwo_85 : decode cX4_fewestFromTwo 85 = .ok (.goto (-40), 3) := by decide +kernel
theorem dX4_fewestFromTwo_88 : decode cX4_fewestFromTwo 88 = .ok (.iinc 7 1, 3) := by decide +kernel
theorem dX4_fewestFromTwo_91 : decode cX4_fewestFromTwo 91 = .ok (.goto (-56), 3) := by decide +kernel
theorem dX4_fewestFromTwo_94 : decode cX4_fewestFromTwo 94 = .ok (.iload 6, 2) := by decide +kernel
theorem dX4_fewestFromTwo_96 : decode cX4_fewestFromTwo 96 = .ok (.ireturn, 1) := by decide +kernel
theorem dX4_mostTaken_0 : decode cX4_mostTaken 0 = .ok (.bipush 9, 2) := by decide +kernel
theorem dX4_mostTaken_2 : decode cX4_mostTaken 2 = .ok (.aload_n 0, 1) := by decide +kernel
theorem dX4_mostTaken_3 : decode cX4_mostTaken 3 = .ok (.getfield 19, 3) := by decide +kernel
theorem dX4_mostTaken_6 : decode cX4_mostTaken 6 = .ok (.iload_n 1, 1) := by decide +kernel
theorem dX4_mostTaken_7 : decode cX4_mostTaken 7 = .ok (.invokevirtual 78, 3) := by decide +kernel
theorem dX4_mostTaken_10 : decode cX4_mostTaken 10 = .ok (.invokestatic 197, 3) := by decide +kernel
theorem dX4_mostTaken_13 : decode cX4_mostTaken 13 = .ok (.ireturn, 1) := by decide +kernel
theorem dX4_isCalmWithout_0 : decode cX4_isCalmWithout 0 = .ok (.aload_n 0, 1) := by decide +kernel
theorem dX4_isCalmWithout_1 : decode cX4_isCalmWithout 1 = .ok (.getfield 23, 3) := by decide +kernel
theorem dX4_isCalmWithout_4 : decode cX4_isCalmWithout 4 = .ok (.aload_n 0, 1) := by decide +kernel
theorem dX4_isCalmWithout_5 : decode cX4_isCalmWithout 5 = .ok (.getfield 19, 3) := by decide +kernel
theorem dX4_isCalmWithout_8 : decode cX4_isCalmWithout 8 = .ok (.invokevirtual 138, 3) := by decide +kernel
theorem dX4_isCalmWithout_11 : decode cX4_isCalmWithout 11 = .ok (.aload_n 0, 1) := by decide +kernel
theorem dX4_isCalmWithout_12 : decode cX4_isCalmWithout 12 = .ok (.getfield 23, 3) := by decide +kernel
theorem dX4_isCalmWithout_15 : decode cX4_isCalmWithout 15 = .ok (.iload_n 1, 1) := by decide +kernel
theorem dX4_isCalmWithout_16 : decode cX4_isCalmWithout 16 = .ok (.iload_n 2, 1) := by decide +kernel
theorem dX4_isCalmWithout_17 : decode cX4_isCalmWithout 17 = .ok (.invokevirtual 119, 3) := by decide +kernel
theorem dX4_isCalmWithout_20 : decode cX4_isCalmWithout 20 = .ok (.pop, 1) := by decide +kernel
theorem dX4_isCalmWithout_21 : decode cX4_isCalmWithout 21 = .ok (.aload_n 0, 1) := by decide +kernel
theorem dX4_isCalmWithout_22 : decode cX4_isCalmWithout 22 = .ok (.getfield 23, 3) := by decide +kernel
theorem dX4_isCalmWithout_25 : decode cX4_isCalmWithout 25 = .ok (.iload_n 3, 1) := by decide +kernel
theorem dX4_isCalmWithout_26 : decode cX4_isCalmWithout 26 = .ok (.iload 4, 2) := by decide +kernel
theorem dX4_isCalmWithout_28 : decode cX4_isCalmWithout 28 = .ok (.invokevirtual 119, 3) := by decide +kernel
theorem dX4_isCalmWithout_31 : decode cX4_isCalmWithout 31 = .ok (.pop, 1) := by decide +kernel
theorem dX4_isCalmWithout_32 : decode cX4_isCalmWithout 32 = .ok (.aload_n 0, 1) := by decide +kernel
theorem dX4_isCalmWithout_33 : decode cX4_isCalmWithout 33 = .ok (.getfield 23, 3) := by decide +kernel
theorem dX4_isCalmWithout_36 : decode cX4_isCalmWithout 36 = .ok (.bipush 6, 2) := by decide +kernel
theorem dX4_isCalmWithout_38 : decode cX4_isCalmWithout 38 = .ok (.invokevirtual 181, 3) := by decide +kernel
theorem dX4_isCalmWithout_41 : decode cX4_isCalmWithout 41 = .ok (.ireturn, 1) := by decide +kernel
theorem dX4_judge_0 : decode cX4_judge 0 = .ok (.iload_n 1, 1) := by decide +kernel
theorem dX4_judge_1 : decode cX4_judge 1 = .ok (.iconst 1, 1) := by decide +kernel
theorem dX4_judge_2 : decode cX4_judge 2 = .ok (.if_icmp .lt 18, 3) := by decide +kernel
theorem dX4_judge_5 : decode cX4_judge 5 = .ok (.iload_n 1, 1) := by decide +kernel
theorem dX4_judge_6 : decode cX4_judge 6 = .ok (.iconst 4, 1) := by decide +kernel
theorem dX4_judge_7 : decode cX4_judge 7 = .ok (.if_icmp .gt 13, 3) := by decide +kernel
theorem dX4_judge_10 : decode cX4_judge 10 = .ok (.lload_n 2, 1) := by decide +kernel
theorem dX4_judge_11 : decode cX4_judge 11 = .ok (.iconst 4, 1) := by decide +kernel
theorem dX4_judge_12 : decode cX4_judge 12 = .ok (.iload_n 1, 1) := by decide +kernel
theorem dX4_judge_13 : decode cX4_judge 13 = .ok (.imul, 1) := by decide +kernel
theorem dX4_judge_14 : decode cX4_judge 14 = .ok (.invokestatic 166, 3) := by decide +kernel
theorem dX4_judge_17 : decode cX4_judge 17 = .ok (.ifCond .ne 6, 3) := by decide +kernel
theorem dX4_judge_20 : decode cX4_judge 20 = .ok (.bipush (-2), 2) := by decide +kernel
theorem dX4_judge_22 : decode cX4_judge 22 = .ok (.ireturn, 1) := by decide +kernel
theorem dX4_judge_23 : decode cX4_judge 23 = .ok (.aload_n 0, 1) := by decide +kernel
theorem dX4_judge_24 : decode cX4_judge 24 = .ok (.getfield 23, 3) := by decide +kernel
theorem dX4_judge_27 : decode cX4_judge 27 = .ok (.aload_n 0, 1) := by decide +kernel
theorem dX4_judge_28 : decode cX4_judge 28 = .ok (.getfield 19, 3) := by decide +kernel
theorem dX4_judge_31 : decode cX4_judge 31 = .ok (.invokevirtual 138, 3) := by decide +kernel
theorem dX4_judge_34 : decode cX4_judge 34 = .ok (.iconst 0, 1) := by decide +kernel
theorem dX4_judge_35 : decode cX4_judge 35 = .ok (.istore 4, 2) := by decide +kernel
theorem dX4_judge_37 : decode cX4_judge 37 = .ok (.iload 4, 2) := by decide +kernel
theorem dX4_judge_39 : decode cX4_judge 39 = .ok (.iload_n 1, 1) := by decide +kernel
theorem dX4_judge_40 : decode cX4_judge 40 = .ok (.if_icmp .ge 27, 3) := by decide +kernel
theorem dX4_judge_43 : decode cX4_judge 43 = .ok (.aload_n 0, 1) := by decide +kernel
theorem dX4_judge_44 : decode cX4_judge 44 = .ok (.lload_n 2, 1) := by decide +kernel
theorem dX4_judge_45 : decode cX4_judge 45 = .ok (.iconst 4, 1) := by decide +kernel
theorem dX4_judge_46 : decode cX4_judge 46 = .ok (.iload_n 1, 1) := by decide +kernel
theorem dX4_judge_47 : decode cX4_judge 47 = .ok (.imul, 1) := by decide +kernel
theorem dX4_judge_48 : decode cX4_judge 48 = .ok (.iconst 4, 1) := by decide +kernel
theorem dX4_judge_49 : decode cX4_judge 49 = .ok (.iload 4, 2) := by decide +kernel
theorem dX4_judge_51 : decode cX4_judge 51 = .ok (.imul, 1) := by decide +kernel
theorem dX4_judge_52 : decode cX4_judge 52 = .ok (.invokevirtual 202, 3) := by decide +kernel
theorem dX4_judge_55 : decode cX4_judge 55 = .ok (.ifCond .ne 6, 3) := by decide +kernel
theorem dX4_judge_58 : decode cX4_judge 58 = .ok (.iload 4, 2) := by decide +kernel
theorem dX4_judge_60 : decode cX4_judge 60 = .ok (.ireturn, 1) := by decide +kernel
theorem dX4_judge_61 : decode cX4_judge 61 = .ok (.iinc 4 1, 3) := by decide +kernel
theorem dX4_judge_64 : decode cX4_judge 64 = .ok (.goto (-27), 3) := by decide +kernel
theorem dX4_judge_67 : decode cX4_judge 67 = .ok (.bipush (-9), 2) := by decide +kernel
theorem dX4_judge_69 : decode cX4_judge 69 = .ok (.ireturn, 1) := by decide +kernel
theorem dX4_canBe_0 : decode cX4_canBe 0 = .ok (.lload_n 1, 1) := by decide +kernel
theorem dX4_canBe_1 : decode cX4_canBe 1 = .ok (.iload_n 3, 1) := by decide +kernel
theorem dX4_canBe_2 : decode cX4_canBe 2 = .ok (.iload 4, 2) := by decide +kernel
theorem dX4_canBe_4 : decode cX4_canBe 4 = .ok (.iconst 1, 1) := by decide +kernel
theorem dX4_canBe_5 : decode cX4_canBe 5 = .ok (.iadd, 1) := by decide +kernel
theorem dX4_canBe_6 : decode cX4_canBe 6 = .ok (.invokestatic 170, 3) := by decide +kernel
theorem dX4_canBe_9 : decode cX4_canBe 9 = .ok (.istore 5, 2) := by decide +kernel
theorem dX4_canBe_11 : decode cX4_canBe 11 = .ok (.lload_n 1, 1) := by decide +kernel
theorem dX4_canBe_12 : decode cX4_canBe 12 = .ok (.iload_n 3, 1) := by decide +kernel
theorem dX4_canBe_13 : decode cX4_canBe 13 = .ok (.iload 4, 2) := by decide +kernel
theorem dX4_canBe_15 : decode cX4_canBe 15 = .ok (.iconst 2, 1) := by decide +kernel
theorem dX4_canBe_16 : decode cX4_canBe 16 = .ok (.iadd, 1) := by decide +kernel
theorem dX4_canBe_17 : decode cX4_canBe 17 = .ok (.invokestatic 170, 3) := by decide +kernel
theorem dX4_canBe_20 : decode cX4_canBe 20 = .ok (.istore 6, 2) := by decide +kernel
theorem dX4_canBe_22 : decode cX4_canBe 22 = .ok (.lload_n 1, 1) := by decide +kernel
theorem dX4_canBe_23 : decode cX4_canBe 23 = .ok (.iload_n 3, 1) := by decide +kernel
theorem dX4_canBe_24 : decode cX4_canBe 24 = .ok (.iload 4, 2) := by decide +kernel
theorem dX4_canBe_26 : decode cX4_canBe 26 = .ok (.iconst 3, 1) := by decide +kernel
theorem dX4_canBe_27 : decode cX4_canBe 27 = .ok (.iadd, 1) := by decide +kernel
theorem dX4_canBe_28 : decode cX4_canBe 28 = .ok (.invokestatic 170, 3) := by decide +kernel
theorem dX4_canBe_31 : decode cX4_canBe 31 = .ok (.istore 7, 2) := by decide +kernel
theorem dX4_canBe_33 : decode cX4_canBe 33 = .ok (.lload_n 1, 1) := by decide +kernel
theorem dX4_canBe_34 : decode cX4_canBe 34 = .ok (.iload_n 3, 1) := by decide +kernel
theorem dX4_canBe_35 : decode cX4_canBe 35 = .ok (.iload 4, 2) := by decide +kernel
theorem dX4_canBe_37 : decode cX4_canBe 37 = .ok (.invokestatic 170, 3) := by decide +kernel
theorem dX4_canBe_40 : decode cX4_canBe 40 = .ok (.tableswitch 244 0 6 #[44, 75, 100, 125, 150, 178, 206], 44) := by decide +kernel
theorem dX4_canBe_84 : decode cX4_canBe 84 = .ok (.iload 5, 2) := by decide +kernel
theorem dX4_canBe_86 : decode cX4_canBe 86 = .ok (.ifCond .ne 27, 3) := by decide +kernel
theorem dX4_canBe_89 : decode cX4_canBe 89 = .ok (.iload 6, 2) := by decide +kernel
theorem dX4_canBe_91 : decode cX4_canBe 91 = .ok (.ifCond .ne 22, 3) := by decide +kernel
theorem dX4_canBe_94 : decode cX4_canBe 94 = .ok (.iload 7, 2) := by decide +kernel
theorem dX4_canBe_96 : decode cX4_canBe 96 = .ok (.ifCond .ne 17, 3) := by decide +kernel
theorem dX4_canBe_99 : decode cX4_canBe 99 = .ok (.aload_n 0, 1) := by decide +kernel
theorem dX4_canBe_100 : decode cX4_canBe 100 = .ok (.getfield 23, 3) := by decide +kernel
theorem dX4_canBe_103 : decode cX4_canBe 103 = .ok (.invokevirtual 103, 3) := by decide +kernel
theorem dX4_canBe_106 : decode cX4_canBe 106 = .ok (.ifCond .lt 7, 3) := by decide +kernel
theorem dX4_canBe_109 : decode cX4_canBe 109 = .ok (.iconst 1, 1) := by decide +kernel
theorem dX4_canBe_110 : decode cX4_canBe 110 = .ok (.goto 4, 3) := by decide +kernel
theorem dX4_canBe_113 : decode cX4_canBe 113 = .ok (.iconst 0, 1) := by decide +kernel
theorem dX4_canBe_114 : decode cX4_canBe 114 = .ok (.ireturn, 1) := by decide +kernel
theorem dX4_canBe_115 : decode cX4_canBe 115 = .ok (.iload 5, 2) := by decide +kernel
theorem dX4_canBe_117 : decode cX4_canBe 117 = .ok (.ifCond .ne 21, 3) := by decide +kernel
theorem dX4_canBe_120 : decode cX4_canBe 120 = .ok (.aload_n 0, 1) := by decide +kernel
theorem dX4_canBe_121 : decode cX4_canBe 121 = .ok (.getfield 23, 3) := by decide +kernel
theorem dX4_canBe_124 : decode cX4_canBe 124 = .ok (.iload 6, 2) := by decide +kernel
theorem dX4_canBe_126 : decode cX4_canBe 126 = .ok (.iload 7, 2) := by decide +kernel
theorem dX4_canBe_128 : decode cX4_canBe 128 = .ok (.invokevirtual 113, 3) := by decide +kernel
theorem dX4_canBe_131 : decode cX4_canBe 131 = .ok (.ifCond .eq 7, 3) := by decide +kernel
theorem dX4_canBe_134 : decode cX4_canBe 134 = .ok (.iconst 1, 1) := by decide +kernel
theorem dX4_canBe_135 : decode cX4_canBe 135 = .ok (.goto 4, 3) := by decide +kernel
theorem dX4_canBe_138 : decode cX4_canBe 138 = .ok (.iconst 0, 1) := by decide +kernel
theorem dX4_canBe_139 : decode cX4_canBe 139 = .ok (.ireturn, 1) := by decide +kernel
theorem dX4_canBe_140 : decode cX4_canBe 140 = .ok (.iload 5, 2) := by decide +kernel
theorem dX4_canBe_142 : decode cX4_canBe 142 = .ok (.ifCond .ne 21, 3) := by decide +kernel
theorem dX4_canBe_145 : decode cX4_canBe 145 = .ok (.aload_n 0, 1) := by decide +kernel
theorem dX4_canBe_146 : decode cX4_canBe 146 = .ok (.getfield 23, 3) := by decide +kernel
theorem dX4_canBe_149 : decode cX4_canBe 149 = .ok (.iload 6, 2) := by decide +kernel
theorem dX4_canBe_151 : decode cX4_canBe 151 = .ok (.iload 7, 2) := by decide +kernel
theorem dX4_canBe_153 : decode cX4_canBe 153 = .ok (.invokevirtual 119, 3) := by decide +kernel
theorem dX4_canBe_156 : decode cX4_canBe 156 = .ok (.ifCond .eq 7, 3) := by decide +kernel
theorem dX4_canBe_159 : decode cX4_canBe 159 = .ok (.iconst 1, 1) := by decide +kernel
theorem dX4_canBe_160 : decode cX4_canBe 160 = .ok (.goto 4, 3) := by decide +kernel
theorem dX4_canBe_163 : decode cX4_canBe 163 = .ok (.iconst 0, 1) := by decide +kernel
theorem dX4_canBe_164 : decode cX4_canBe 164 = .ok (.ireturn, 1) := by decide +kernel
theorem dX4_canBe_165 : decode cX4_canBe 165 = .ok (.iload 5, 2) := by decide +kernel
theorem dX4_canBe_167 : decode cX4_canBe 167 = .ok (.ifCond .ne 21, 3) := by decide +kernel
theorem dX4_canBe_170 : decode cX4_canBe 170 = .ok (.aload_n 0, 1) := by decide +kernel
theorem dX4_canBe_171 : decode cX4_canBe 171 = .ok (.getfield 23, 3) := by decide +kernel
theorem dX4_canBe_174 : decode cX4_canBe 174 = .ok (.iload 6, 2) := by decide +kernel
theorem dX4_canBe_176 : decode cX4_canBe 176 = .ok (.iload 7, 2) := by decide +kernel
theorem dX4_canBe_178 : decode cX4_canBe 178 = .ok (.invokevirtual 125, 3) := by decide +kernel
theorem dX4_canBe_181 : decode cX4_canBe 181 = .ok (.ifCond .eq 7, 3) := by decide +kernel
theorem dX4_canBe_184 : decode cX4_canBe 184 = .ok (.iconst 1, 1) := by decide +kernel
theorem dX4_canBe_185 : decode cX4_canBe 185 = .ok (.goto 4, 3) := by decide +kernel
theorem dX4_canBe_188 : decode cX4_canBe 188 = .ok (.iconst 0, 1) := by decide +kernel
theorem dX4_canBe_189 : decode cX4_canBe 189 = .ok (.ireturn, 1) := by decide +kernel
theorem dX4_canBe_190 : decode cX4_canBe 190 = .ok (.iload 5, 2) := by decide +kernel
theorem dX4_canBe_192 : decode cX4_canBe 192 = .ok (.ifCond .ne 24, 3) := by decide +kernel
theorem dX4_canBe_195 : decode cX4_canBe 195 = .ok (.iload 6, 2) := by decide +kernel
theorem dX4_canBe_197 : decode cX4_canBe 197 = .ok (.ifCond .ne 19, 3) := by decide +kernel
theorem dX4_canBe_200 : decode cX4_canBe 200 = .ok (.aload_n 0, 1) := by decide +kernel
theorem dX4_canBe_201 : decode cX4_canBe 201 = .ok (.getfield 23, 3) := by decide +kernel
theorem dX4_canBe_204 : decode cX4_canBe 204 = .ok (.iload 7, 2) := by decide +kernel
theorem dX4_canBe_206 : decode cX4_canBe 206 = .ok (.invokevirtual 128, 3) := by decide +kernel
theorem dX4_canBe_209 : decode cX4_canBe 209 = .ok (.ifCond .eq 7, 3) := by decide +kernel
theorem dX4_canBe_212 : decode cX4_canBe 212 = .ok (.iconst 1, 1) := by decide +kernel
theorem dX4_canBe_213 : decode cX4_canBe 213 = .ok (.goto 4, 3) := by decide +kernel
theorem dX4_canBe_216 : decode cX4_canBe 216 = .ok (.iconst 0, 1) := by decide +kernel
theorem dX4_canBe_217 : decode cX4_canBe 217 = .ok (.ireturn, 1) := by decide +kernel
theorem dX4_canBe_218 : decode cX4_canBe 218 = .ok (.iload 5, 2) := by decide +kernel
end
section
theorem dX4_canBe_220 : decode cX4_canBe 220 = .ok (.ifCond .ne 24, 3) := by decide +kernel
theorem dX4_canBe_223 : decode cX4_canBe 223 = .ok (.iload 6, 2) := by decide +kernel
theorem dX4_canBe_225 : decode cX4_canBe 225 = .ok (.ifCond .ne 19, 3) := by decide +kernel
theorem dX4_canBe_228 : decode cX4_canBe 228 = .ok (.aload_n 0, 1) := by decide +kernel
theorem dX4_canBe_229 : decode cX4_canBe 229 = .ok (.getfield 23, 3) := by decide +kernel
theorem dX4_canBe_232 : decode cX4_canBe 232 = .ok (.iload 7, 2) := by decide +kernel
theorem dX4_canBe_234 : decode cX4_canBe 234 = .ok (.invokevirtual 87, 3) := by decide +kernel
theorem dX4_canBe_237 : decode cX4_canBe 237 = .ok (.ifCond .eq 7, 3) := by decide +kernel
theorem dX4_canBe_240 : decode cX4_canBe 240 = .ok (.iconst 1, 1) := by decide +kernel
theorem dX4_canBe_241 : decode cX4_canBe 241 = .ok (.goto 4, 3) := by decide +kernel
theorem dX4_canBe_244 : decode cX4_canBe 244 = .ok (.iconst 0, 1) := by decide +kernel
theorem dX4_canBe_245 : decode cX4_canBe 245 = .ok (.ireturn, 1) := by decide +kernel
theorem dX4_canBe_246 : decode cX4_canBe 246 = .ok (.aload_n 0, 1) := by decide +kernel
theorem dX4_canBe_247 : decode cX4_canBe 247 = .ok (.getfield 23, 3) := by decide +kernel
theorem dX4_canBe_250 : decode cX4_canBe 250 = .ok (.iload 5, 2) := by decide +kernel
theorem dX4_canBe_252 : decode cX4_canBe 252 = .ok (.invokevirtual 71, 3) := by decide +kernel
theorem dX4_canBe_255 : decode cX4_canBe 255 = .ok (.ifCond .eq 27, 3) := by decide +kernel
theorem dX4_canBe_258 : decode cX4_canBe 258 = .ok (.aload_n 0, 1) := by decide +kernel
theorem dX4_canBe_259 : decode cX4_canBe 259 = .ok (.getfield 23, 3) := by decide +kernel
theorem dX4_canBe_262 : decode cX4_canBe 262 = .ok (.iload 5, 2) := by decide +kernel
theorem dX4_canBe_264 : decode cX4_canBe 264 = .ok (.invokevirtual 90, 3) := by decide +kernel
theorem dX4_canBe_267 : decode cX4_canBe 267 = .ok (.bipush 10, 2) := by decide +kernel
theorem dX4_canBe_269 : decode cX4_canBe 269 = .ok (.iload 6, 2) := by decide +kernel
theorem dX4_canBe_271 : decode cX4_canBe 271 = .ok (.imul, 1) := by decide +kernel
theorem dX4_canBe_272 : decode cX4_canBe 272 = .ok (.iload 7, 2) := by decide +kernel
theorem dX4_canBe_274 : decode cX4_canBe 274 = .ok (.iadd, 1) := by decide +kernel
theorem dX4_canBe_275 : decode cX4_canBe 275 = .ok (.if_icmp .lt 7, 3) := by decide +kernel
theorem dX4_canBe_278 : decode cX4_canBe 278 = .ok (.iconst 1, 1) := by decide +kernel
theorem dX4_canBe_279 : decode cX4_canBe 279 = .ok (.goto 4, 3) := by decide +kernel
theorem dX4_canBe_282 : decode cX4_canBe 282 = .ok (.iconst 0, 1) := by decide +kernel
theorem dX4_canBe_283 : decode cX4_canBe 283 = .ok (.ireturn, 1) := by decide +kernel
theorem dX4_canBe_284 : decode cX4_canBe 284 = .ok (.iconst 0, 1) := by decide +kernel
theorem dX4_canBe_285 : decode cX4_canBe 285 = .ok (.ireturn, 1) := by decide +kernel
theorem dX4_see_0 : decode cX4_see 0 = .ok (.iload_n 1, 1) := by decide +kernel
theorem dX4_see_1 : decode cX4_see 1 = .ok (.iconst 1, 1) := by decide +kernel
theorem dX4_see_2 : decode cX4_see 2 = .ok (.if_icmp .lt 26, 3) := by decide +kernel
theorem dX4_see_5 : decode cX4_see 5 = .ok (.iload_n 1, 1) := by decide +kernel
theorem dX4_see_6 : decode cX4_see 6 = .ok (.bipush 9, 2) := by decide +kernel
theorem dX4_see_8 : decode cX4_see 8 = .ok (.if_icmp .gt 20, 3) := by decide +kernel
theorem dX4_see_11 : decode cX4_see 11 = .ok (.iload_n 2, 1) := by decide +kernel
theorem dX4_see_12 : decode cX4_see 12 = .ok (.ifCond .lt 16, 3) := by decide +kernel
theorem dX4_see_15 : decode cX4_see 15 = .ok (.iload_n 2, 1) := by decide +kernel
theorem dX4_see_16 : decode cX4_see 16 = .ok (.bipush 6, 2) := by decide +kernel
theorem dX4_see_18 : decode cX4_see 18 = .ok (.if_icmp .ge 10, 3) := by decide +kernel
theorem dX4_see_21 : decode cX4_see 21 = .ok (.iload_n 3, 1) := by decide +kernel
theorem dX4_see_22 : decode cX4_see 22 = .ok (.invokestatic 135, 3) := by decide +kernel
theorem dX4_see_25 : decode cX4_see 25 = .ok (.ifCond .ne 6, 3) := by decide +kernel
theorem dX4_see_28 : decode cX4_see 28 = .ok (.bipush (-2), 2) := by decide +kernel
theorem dX4_see_30 : decode cX4_see 30 = .ok (.ireturn, 1) := by decide +kernel
theorem dX4_see_31 : decode cX4_see 31 = .ok (.aload_n 0, 1) := by decide +kernel
theorem dX4_see_32 : decode cX4_see 32 = .ok (.getfield 36, 3) := by decide +kernel
theorem dX4_see_35 : decode cX4_see 35 = .ok (.iload_n 1, 1) := by decide +kernel
theorem dX4_see_36 : decode cX4_see 36 = .ok (.iload_n 2, 1) := by decide +kernel
theorem dX4_see_37 : decode cX4_see 37 = .ok (.iload_n 3, 1) := by decide +kernel
theorem dX4_see_38 : decode cX4_see 38 = .ok (.invokevirtual 206, 3) := by decide +kernel
theorem dX4_see_41 : decode cX4_see 41 = .ok (.ifCond .eq 13, 3) := by decide +kernel
theorem dX4_see_44 : decode cX4_see 44 = .ok (.aload_n 0, 1) := by decide +kernel
theorem dX4_see_45 : decode cX4_see 45 = .ok (.getfield 36, 3) := by decide +kernel
theorem dX4_see_48 : decode cX4_see 48 = .ok (.invokevirtual 210, 3) := by decide +kernel
theorem dX4_see_51 : decode cX4_see 51 = .ok (.goto 5, 3) := by decide +kernel
theorem dX4_see_54 : decode cX4_see 54 = .ok (.bipush (-4), 2) := by decide +kernel
theorem dX4_see_56 : decode cX4_see 56 = .ok (.ireturn, 1) := by decide +kernel
theorem dX4_unsee_0 : decode cX4_unsee 0 = .ok (.aload_n 0, 1) := by decide +kernel
theorem dX4_unsee_1 : decode cX4_unsee 1 = .ok (.getfield 36, 3) := by decide +kernel
theorem dX4_unsee_4 : decode cX4_unsee 4 = .ok (.invokevirtual 211, 3) := by decide +kernel
theorem dX4_unsee_7 : decode cX4_unsee 7 = .ok (.ireturn, 1) := by decide +kernel
theorem dX4_night_0 : decode cX4_night 0 = .ok (.iload_n 1, 1) := by decide +kernel
theorem dX4_night_1 : decode cX4_night 1 = .ok (.invokestatic 135, 3) := by decide +kernel
theorem dX4_night_4 : decode cX4_night 4 = .ok (.ifCond .ne 6, 3) := by decide +kernel
theorem dX4_night_7 : decode cX4_night 7 = .ok (.bipush (-2), 2) := by decide +kernel
theorem dX4_night_9 : decode cX4_night 9 = .ok (.ireturn, 1) := by decide +kernel
theorem dX4_night_10 : decode cX4_night 10 = .ok (.iconst 0, 1) := by decide +kernel
theorem dX4_night_11 : decode cX4_night 11 = .ok (.istore_n 2, 1) := by decide +kernel
theorem dX4_night_12 : decode cX4_night 12 = .ok (.bipush (-9), 2) := by decide +kernel
theorem dX4_night_14 : decode cX4_night 14 = .ok (.istore_n 3, 1) := by decide +kernel
theorem dX4_night_15 : decode cX4_night 15 = .ok (.iconst 0, 1) := by decide +kernel
theorem dX4_night_16 : decode cX4_night 16 = .ok (.istore 4, 2) := by decide +kernel
theorem dX4_night_18 : decode cX4_night 18 = .ok (.iload 4, 2) := by decide +kernel
theorem dX4_night_20 : decode cX4_night 20 = .ok (.aload_n 0, 1) := by decide +kernel
theorem dX4_night_21 : decode cX4_night 21 = .ok (.getfield 19, 3) := by decide +kernel
theorem dX4_night_24 : decode cX4_night 24 = .ok (.invokevirtual 68, 3) := by decide +kernel
theorem dX4_night_27 : decode cX4_night 27 = .ok (.if_icmp .ge 58, 3) := by decide +kernel
theorem dX4_night_30 : decode cX4_night 30 = .ok (.iconst 1, 1) := by decide +kernel
theorem dX4_night_31 : decode cX4_night 31 = .ok (.istore 5, 2) := by decide +kernel
theorem dX4_night_33 : decode cX4_night 33 = .ok (.iload 5, 2) := by decide +kernel
theorem dX4_night_35 : decode cX4_night 35 = .ok (.bipush 9, 2) := by decide +kernel
theorem dX4_night_37 : decode cX4_night 37 = .ok (.if_icmp .gt 42, 3) := by decide +kernel
theorem dX4_night_40 : decode cX4_night 40 = .ok (.aload_n 0, 1) := by decide +kernel
theorem dX4_night_41 : decode cX4_night 41 = .ok (.iload 4, 2) := by decide +kernel
theorem dX4_night_43 : decode cX4_night 43 = .ok (.iload 5, 2) := by decide +kernel
theorem dX4_night_45 : decode cX4_night 45 = .ok (.invokevirtual 212, 3) := by decide +kernel
theorem dX4_night_48 : decode cX4_night 48 = .ok (.ifCond .eq 25, 3) := by decide +kernel
theorem dX4_night_51 : decode cX4_night 51 = .ok (.iinc 2 1, 3) := by decide +kernel
theorem dX4_night_54 : decode cX4_night 54 = .ok (.iload_n 3, 1) := by decide +kernel
theorem dX4_night_55 : decode cX4_night 55 = .ok (.bipush (-9), 2) := by decide +kernel
theorem dX4_night_57 : decode cX4_night 57 = .ok (.if_icmp .ne 14, 3) := by decide +kernel
theorem dX4_night_60 : decode cX4_night 60 = .ok (.bipush 10, 2) := by decide +kernel
theorem dX4_night_62 : decode cX4_night 62 = .ok (.iload 4, 2) := by decide +kernel
theorem dX4_night_64 : decode cX4_night 64 = .ok (.imul, 1) := by decide +kernel
theorem dX4_night_65 : decode cX4_night 65 = .ok (.iload 5, 2) := by decide +kernel
theorem dX4_night_67 : decode cX4_night 67 = .ok (.iadd, 1) := by decide +kernel
theorem dX4_night_68 : decode cX4_night 68 = .ok (.goto 4, 3) := by decide +kernel
theorem dX4_night_71 : decode cX4_night 71 = .ok (.iload_n 3, 1) := by decide +kernel
theorem dX4_night_72 : decode cX4_night 72 = .ok (.istore_n 3, 1) := by decide +kernel
theorem dX4_night_73 : decode cX4_night 73 = .ok (.iinc 5 1, 3) := by decide +kernel
theorem dX4_night_76 : decode cX4_night 76 = .ok (.goto (-43), 3) := by decide +kernel
theorem dX4_night_79 : decode cX4_night 79 = .ok (.iinc 4 1, 3) := by decide +kernel
theorem dX4_night_82 : decode cX4_night 82 = .ok (.goto (-64), 3) := by decide +kernel
theorem dX4_night_85 : decode cX4_night 85 = .ok (.iload_n 1, 1) := by decide +kernel
theorem dX4_night_86 : decode cX4_night 86 = .ok (.ifCond .ne 7, 3) := by decide +kernel
theorem dX4_night_89 : decode cX4_night 89 = .ok (.iload_n 2, 1) := by decide +kernel
theorem dX4_night_90 : decode cX4_night 90 = .ok (.goto 4, 3) := by decide +kernel
theorem dX4_night_93 : decode cX4_night 93 = .ok (.iload_n 3, 1) := by decide +kernel
theorem dX4_night_94 : decode cX4_night 94 = .ok (.ireturn, 1) := by decide +kernel
theorem dX4_explainsSeen_0 : decode cX4_explainsSeen 0 = .ok (.aload_n 0, 1) := by decide +kernel
theorem dX4_explainsSeen_1 : decode cX4_explainsSeen 1 = .ok (.getfield 23, 3) := by decide +kernel
theorem dX4_explainsSeen_4 : decode cX4_explainsSeen 4 = .ok (.aload_n 0, 1) := by decide +kernel
theorem dX4_explainsSeen_5 : decode cX4_explainsSeen 5 = .ok (.getfield 19, 3) := by decide +kernel
theorem dX4_explainsSeen_8 : decode cX4_explainsSeen 8 = .ok (.invokevirtual 138, 3) := by decide +kernel
theorem dX4_explainsSeen_11 : decode cX4_explainsSeen 11 = .ok (.aload_n 0, 1) := by decide +kernel
theorem dX4_explainsSeen_12 : decode cX4_explainsSeen 12 = .ok (.getfield 23, 3) := by decide +kernel
theorem dX4_explainsSeen_15 : decode cX4_explainsSeen 15 = .ok (.iload_n 1, 1) := by decide +kernel
theorem dX4_explainsSeen_16 : decode cX4_explainsSeen 16 = .ok (.iload_n 2, 1) := by decide +kernel
theorem dX4_explainsSeen_17 : decode cX4_explainsSeen 17 = .ok (.invokevirtual 113, 3) := by decide +kernel
theorem dX4_explainsSeen_20 : decode cX4_explainsSeen 20 = .ok (.ifCond .ne 5, 3) := by decide +kernel
theorem dX4_explainsSeen_23 : decode cX4_explainsSeen 23 = .ok (.iconst 0, 1) := by decide +kernel
theorem dX4_explainsSeen_24 : decode cX4_explainsSeen 24 = .ok (.ireturn, 1) := by decide +kernel
theorem dX4_explainsSeen_25 : decode cX4_explainsSeen 25 = .ok (.iconst 1, 1) := by decide +kernel
theorem dX4_explainsSeen_26 : decode cX4_explainsSeen 26 = .ok (.istore_n 3, 1) := by decide +kernel
theorem dX4_explainsSeen_27 : decode cX4_explainsSeen 27 = .ok (.iload_n 3, 1) := by decide +kernel
theorem dX4_explainsSeen_28 : decode cX4_explainsSeen 28 = .ok (.bipush 9, 2) := by decide +kernel
theorem dX4_explainsSeen_30 : decode cX4_explainsSeen 30 = .ok (.if_icmp .gt 34, 3) := by decide +kernel
theorem dX4_explainsSeen_33 : decode cX4_explainsSeen 33 = .ok (.aload_n 0, 1) := by decide +kernel
theorem dX4_explainsSeen_34 : decode cX4_explainsSeen 34 = .ok (.getfield 23, 3) := by decide +kernel
theorem dX4_explainsSeen_37 : decode cX4_explainsSeen 37 = .ok (.invokevirtual 103, 3) := by decide +kernel
theorem dX4_explainsSeen_40 : decode cX4_explainsSeen 40 = .ok (.pop, 1) := by decide +kernel
theorem dX4_explainsSeen_41 : decode cX4_explainsSeen 41 = .ok (.aload_n 0, 1) := by decide +kernel
theorem dX4_explainsSeen_42 : decode cX4_explainsSeen 42 = .ok (.getfield 36, 3) := by decide +kernel
theorem dX4_explainsSeen_45 : decode cX4_explainsSeen 45 = .ok (.iload_n 3, 1) := by decide +kernel
theorem dX4_explainsSeen_46 : decode cX4_explainsSeen 46 = .ok (.aload_n 0, 1) := by decide +kernel
theorem dX4_explainsSeen_47 : decode cX4_explainsSeen 47 = .ok (.getfield 23, 3) := by decide +kernel
theorem dX4_explainsSeen_50 : decode cX4_explainsSeen 50 = .ok (.invokevirtual 215, 3) := by decide +kernel
theorem dX4_explainsSeen_53 : decode cX4_explainsSeen 53 = .ok (.ifCond .ne 5, 3) := by decide +kernel
theorem dX4_explainsSeen_56 : decode cX4_explainsSeen 56 = .ok (.iconst 0, 1) := by decide +kernel
theorem dX4_explainsSeen_57 : decode cX4_explainsSeen 57 = .ok (.ireturn, 1) := by decide +kernel
theorem dX4_explainsSeen_58 : decode cX4_explainsSeen 58 = .ok (.iinc 3 1, 3) := by decide +kernel
theorem dX4_explainsSeen_61 : decode cX4_explainsSeen 61 = .ok (.goto (-34), 3) := by decide +kernel
theorem dX4_explainsSeen_64 : decode cX4_explainsSeen 64 = .ok (.iconst 1, 1) := by decide +kernel
theorem dX4_explainsSeen_65 : decode cX4_explainsSeen 65 = .ok (.ireturn, 1) := by decide +kernel
theorem dX4_share_0 : decode cX4_share 0 = .ok (.aload_n 0, 1) := by decide +kernel
theorem dX4_share_1 : decode cX4_share 1 = .ok (.getfield 19, 3) := by decide +kernel
theorem dX4_share_4 : decode cX4_share 4 = .ok (.iload_n 1, 1) := by decide +kernel
theorem dX4_share_5 : decode cX4_share 5 = .ok (.invokevirtual 71, 3) := by decide +kernel
theorem dX4_share_8 : decode cX4_share 8 = .ok (.ifCond .ne 5, 3) := by decide +kernel
theorem dX4_share_11 : decode cX4_share 11 = .ok (.iconst (-1), 1) := by decide +kernel
theorem dX4_share_12 : decode cX4_share 12 = .ok (.ireturn, 1) := by decide +kernel
theorem dX4_share_13 : decode cX4_share 13 = .ok (.aload_n 0, 1) := by decide +kernel
theorem dX4_share_14 : decode cX4_share 14 = .ok (.getfield 19, 3) := by decide +kernel
theorem dX4_share_17 : decode cX4_share 17 = .ok (.invokevirtual 68, 3) := by decide +kernel
theorem dX4_share_20 : decode cX4_share 20 = .ok (.iconst 1, 1) := by decide +kernel
theorem dX4_share_21 : decode cX4_share 21 = .ok (.isub, 1) := by decide +kernel
theorem dX4_share_22 : decode cX4_share 22 = .ok (.istore_n 3, 1) := by decide +kernel
theorem dX4_share_23 : decode cX4_share 23 = .ok (.iconst 0, 1) := by decide +kernel
theorem dX4_share_24 : decode cX4_share 24 = .ok (.istore 4, 2) := by decide +kernel
theorem dX4_share_26 : decode cX4_share 26 = .ok (.iconst 0, 1) := by decide +kernel
theorem dX4_share_27 : decode cX4_share 27 = .ok (.istore 5, 2) := by decide +kernel
theorem dX4_share_29 : decode cX4_share 29 = .ok (.iload 5, 2) := by decide +kernel
theorem dX4_share_31 : decode cX4_share 31 = .ok (.iconst 1, 1) := by decide +kernel
theorem dX4_share_32 : decode cX4_share 32 = .ok (.aload_n 0, 1) := by decide +kernel
theorem dX4_share_33 : decode cX4_share 33 = .ok (.getfield 19, 3) := by decide +kernel
theorem dX4_share_36 : decode cX4_share 36 = .ok (.invokevirtual 68, 3) := by decide +kernel
theorem dX4_share_39 : decode cX4_share 39 = .ok (.ishl, 1) := by decide +kernel
theorem dX4_share_40 : decode cX4_share 40 = .ok (.if_icmp .ge 65, 3) := by decide +kernel
theorem dX4_share_43 : decode cX4_share 43 = .ok (.iload 5, 2) := by decide +kernel
theorem dX4_share_45 : decode cX4_share 45 = .ok (.iload_n 1, 1) := by decide +kernel
theorem dX4_share_46 : decode cX4_share 46 = .ok (.ishr, 1) := by decide +kernel
theorem dX4_share_47 : decode cX4_share 47 = .ok (.iconst 1, 1) := by decide +kernel
theorem dX4_share_48 : decode cX4_share 48 = .ok (.iand, 1) := by decide +kernel
theorem dX4_share_49 : decode cX4_share 49 = .ok (.ifCond .ne 50, 3) := by decide +kernel
theorem dX4_share_52 : decode cX4_share 52 = .ok (.iload 5, 2) := by decide +kernel
theorem dX4_share_54 : decode cX4_share 54 = .ok (.invokestatic 219, 3) := by decide +kernel
theorem dX4_share_57 : decode cX4_share 57 = .ok (.istore 6, 2) := by decide +kernel
theorem dX4_share_59 : decode cX4_share 59 = .ok (.aload_n 0, 1) := by decide +kernel
theorem dX4_share_60 : decode cX4_share 60 = .ok (.iload 5, 2) := by decide +kernel
theorem dX4_share_62 : decode cX4_share 62 = .ok (.invokevirtual 224, 3) := by decide +kernel
theorem dX4_share_65 : decode cX4_share 65 = .ok (.aload_n 0, 1) := by decide +kernel
theorem dX4_share_66 : decode cX4_share 66 = .ok (.iload 5, 2) := by decide +kernel
theorem dX4_share_68 : decode cX4_share 68 = .ok (.iconst 1, 1) := by decide +kernel
theorem dX4_share_69 : decode cX4_share 69 = .ok (.iload_n 1, 1) := by decide +kernel
theorem dX4_share_70 : decode cX4_share 70 = .ok (.ishl, 1) := by decide +kernel
theorem dX4_share_71 : decode cX4_share 71 = .ok (.ior, 1) := by decide +kernel
theorem dX4_share_72 : decode cX4_share 72 = .ok (.invokevirtual 224, 3) := by decide +kernel
theorem dX4_share_75 : decode cX4_share 75 = .ok (.isub, 1) := by decide +kernel
theorem dX4_share_76 : decode cX4_share 76 = .ok (.istore 7, 2) := by decide +kernel
theorem dX4_share_78 : decode cX4_share 78 = .ok (.iload 4, 2) := by decide +kernel
theorem dX4_share_80 : decode cX4_share 80 = .ok (.iload 7, 2) := by decide +kernel
theorem dX4_share_82 : decode cX4_share 82 = .ok (.iload 6, 2) := by decide +kernel
theorem dX4_share_84 : decode cX4_share 84 = .ok (.invokestatic 227, 3) := by decide +kernel
theorem dX4_share_87 : decode cX4_share 87 = .ok (.imul, 1) := by decide +kernel
theorem dX4_share_88 : decode cX4_share 88 = .ok (.iload_n 3, 1) := by decide +kernel
theorem dX4_share_89 : decode cX4_share 89 = .ok (.iload 6, 2) := by decide +kernel
theorem dX4_share_91 : decode cX4_share 91 = .ok (.isub, 1) := by decide +kernel
theorem dX4_share_92 : decode cX4_share 92 = .ok (.invokestatic 227, 3) := by decide +kernel
theorem dX4_share_95 : decode cX4_share 95 = .ok (.imul, 1) := by decide +kernel
theorem dX4_share_96 : decode cX4_share 96 = .ok (.iadd, 1) := by decide +kernel
theorem dX4_share_97 : decode cX4_share 97 = .ok (.istore 4, 2) := by decide +kernel
theorem dX4_share_99 : decode cX4_share 99 = .ok (.iinc 5 1, 3) := by decide +kernel
theorem dX4_share_102 : decode cX4_share 102 = .ok (.goto (-73), 3) := by decide +kernel
theorem dX4_share_105 : decode cX4_share 105 = .ok (.iload 4, 2) := by decide +kernel
theorem dX4_share_107 : decode cX4_share 107 = .ok (.aload_n 0, 1) := by decide +kernel
theorem dX4_share_108 : decode cX4_share 108 = .ok (.getfield 19, 3) := by decide +kernel
theorem dX4_share_111 : decode cX4_share 111 = .ok (.invokevirtual 68, 3) := by decide +kernel
theorem dX4_share_114 : decode cX4_share 114 = .ok (.invokestatic 227, 3) := by decide +kernel
theorem dX4_share_117 : decode cX4_share 117 = .ok (.iload_n 2, 1) := by decide +kernel
theorem dX4_share_118 : decode cX4_share 118 = .ok (.invokestatic 230, 3) := by decide +kernel
theorem dX4_share_121 : decode cX4_share 121 = .ok (.ireturn, 1) := by decide +kernel
theorem dX4_standingWithStonesOf_0 : decode cX4_standingWithStonesOf 0 = .ok (.aload_n 0, 1) := by decide +kernel
theorem dX4_standingWithStonesOf_1 : decode cX4_standingWithStonesOf 1 = .ok (.getfield 23, 3) := by decide +kernel
theorem dX4_standingWithStonesOf_4 : decode cX4_standingWithStonesOf 4 = .ok (.aload_n 0, 1) := by decide +kernel
theorem dX4_standingWithStonesOf_5 : decode cX4_standingWithStonesOf 5 = .ok (.getfield 19, 3) := by decide +kernel
theorem dX4_standingWithStonesOf_8 : decode cX4_standingWithStonesOf 8 = .ok (.invokevirtual 138, 3) := by decide +kernel
theorem dX4_standingWithStonesOf_11 : decode cX4_standingWithStonesOf 11 = .ok (.aload_n 0, 1) := by decide +kernel
theorem dX4_standingWithStonesOf_12 : decode cX4_standingWithStonesOf 12 = .ok (.getfield 23, 3) := by decide +kernel
theorem dX4_standingWithStonesOf_15 : decode cX4_standingWithStonesOf 15 = .ok (.iload_n 1, 1) := by decide +kernel
theorem dX4_standingWithStonesOf_16 : decode cX4_standingWithStonesOf 16 = .ok (.invokevirtual 234, 3) := by decide +kernel
theorem dX4_standingWithStonesOf_19 : decode cX4_standingWithStonesOf 19 = .ok (.aload_n 0, 1) := by decide +kernel
theorem dX4_standingWithStonesOf_20 : decode cX4_standingWithStonesOf 20 = .ok (.getfield 23, 3) := by decide +kernel
theorem dX4_standingWithStonesOf_23 : decode cX4_standingWithStonesOf 23 = .ok (.bipush 6, 2) := by decide +kernel
theorem dX4_standingWithStonesOf_25 : decode cX4_standingWithStonesOf 25 = .ok (.invokevirtual 141, 3) := by decide +kernel
theorem dX4_standingWithStonesOf_28 : decode cX4_standingWithStonesOf 28 = .ok (.aload_n 0, 1) := by decide +kernel
theorem dX4_standingWithStonesOf_29 : decode cX4_standingWithStonesOf 29 = .ok (.getfield 23, 3) := by decide +kernel
theorem dX4_standingWithStonesOf_32 : decode cX4_standingWithStonesOf 32 = .ok (.invokevirtual 145, 3) := by decide +kernel
theorem dX4_standingWithStonesOf_35 : decode cX4_standingWithStonesOf 35 = .ok (.invokestatic 219, 3) := by decide +kernel
theorem dX4_standingWithStonesOf_38 : decode cX4_standingWithStonesOf 38 = .ok (.ireturn, 1) := by decide +kernel
theorem dX4_rests_0 : decode cX4_rests 0 = .ok (.aload_n 0, 1) := by decide +kernel
theorem dX4_rests_1 : decode cX4_rests 1 = .ok (.getfield 19, 3) := by decide +kernel
theorem dX4_rests_4 : decode cX4_rests 4 = .ok (.iload_n 1, 1) := by decide +kernel
theorem dX4_rests_5 : decode cX4_rests 5 = .ok (.invokevirtual 71, 3) := by decide +kernel
theorem dX4_rests_8 : decode cX4_rests 8 = .ok (.ifCond .eq 14, 3) := by decide +kernel
theorem dX4_rests_11 : decode cX4_rests 11 = .ok (.aload_n 0, 1) := by decide +kernel
theorem dX4_rests_12 : decode cX4_rests 12 = .ok (.getfield 19, 3) := by decide +kernel
theorem dX4_rests_15 : decode cX4_rests 15 = .ok (.iload_n 2, 1) := by decide +kernel
theorem dX4_rests_16 : decode cX4_rests 16 = .ok (.invokevirtual 71, 3) := by decide +kernel
theorem dX4_rests_19 : decode cX4_rests 19 = .ok (.ifCond .ne 5, 3) := by decide +kernel
theorem dX4_rests_22 : decode cX4_rests 22 = .ok (.iconst (-1), 1) := by decide +kernel
theorem dX4_rests_23 : decode cX4_rests 23 = .ok (.ireturn, 1) := by decide +kernel
theorem dX4_rests_24 : decode cX4_rests 24 = .ok (.iload_n 1, 1) := by decide +kernel
theorem dX4_rests_25 : decode cX4_rests 25 = .ok (.iload_n 2, 1) := by decide +kernel
theorem dX4_rests_26 : decode cX4_rests 26 = .ok (.if_icmp .eq 10, 3) := by decide +kernel
theorem dX4_rests_29 : decode cX4_rests 29 = .ok (.iload_n 3, 1) := by decide +kernel
theorem dX4_rests_30 : decode cX4_rests 30 = .ok (.invokestatic 135, 3) := by decide +kernel
theorem dX4_rests_33 : decode cX4_rests 33 = .ok (.ifCond .ne 6, 3) := by decide +kernel
theorem dX4_rests_36 : decode cX4_rests 36 = .ok (.bipush (-2), 2) := by decide +kernel
theorem dX4_rests_38 : decode cX4_rests 38 = .ok (.ireturn, 1) := by decide +kernel
theorem dX4_rests_39 : decode cX4_rests 39 = .ok (.iconst 0, 1) := by decide +kernel
theorem dX4_rests_40 : decode cX4_rests 40 = .ok (.istore 4, 2) := by decide +kernel
theorem dX4_rests_42 : decode cX4_rests 42 = .ok (.bipush (-9), 2) := by decide +kernel
theorem dX4_rests_44 : decode cX4_rests 44 = .ok (.istore 5, 2) := by decide +kernel
theorem dX4_rests_46 : decode cX4_rests 46 = .ok (.iconst 0, 1) := by decide +kernel
theorem dX4_rests_47 : decode cX4_rests 47 = .ok (.istore 6, 2) := by decide +kernel
theorem dX4_rests_49 : decode cX4_rests 49 = .ok (.iload 6, 2) := by decide +kernel
theorem dX4_rests_51 : decode cX4_rests 51 = .ok (.iconst 1, 1) := by decide +kernel
theorem dX4_rests_52 : decode cX4_rests 52 = .ok (.if_icmp .gt 75, 3) := by decide +kernel
theorem dX4_rests_55 : decode cX4_rests 55 = .ok (.iconst 0, 1) := by decide +kernel
theorem dX4_rests_56 : decode cX4_rests 56 = .ok (.istore 7, 2) := by decide +kernel
theorem dX4_rests_58 : decode cX4_rests 58 = .ok (.iload 7, 2) := by decide +kernel
theorem dX4_rests_60 : decode cX4_rests 60 = .ok (.iconst 1, 1) := by decide +kernel
theorem dX4_rests_61 : decode cX4_rests 61 = .ok (.if_icmp .gt 60, 3) := by decide +kernel
theorem dX4_rests_64 : decode cX4_rests 64 = .ok (.aload_n 0, 1) := by decide +kernel
theorem dX4_rests_65 : decode cX4_rests 65 = .ok (.iload_n 1, 1) := by decide +kernel
theorem dX4_rests_66 : decode cX4_rests 66 = .ok (.iload 6, 2) := by decide +kernel
theorem dX4_rests_68 : decode cX4_rests 68 = .ok (.iload_n 2, 1) := by decide +kernel
theorem dX4_rests_69 : decode cX4_rests 69 = .ok (.iload 7, 2) := by decide +kernel
theorem dX4_rests_71 : decode cX4_rests 71 = .ok (.invokevirtual 237, 3) := by decide +kernel
theorem dX4_rests_74 : decode cX4_rests 74 = .ok (.ifCond .eq 41, 3) := by decide +kernel
theorem dX4_rests_77 : decode cX4_rests 77 = .ok (.aload_n 0, 1) := by decide +kernel
theorem dX4_rests_78 : decode cX4_rests 78 = .ok (.iload_n 2, 1) := by decide +kernel
theorem dX4_rests_79 : decode cX4_rests 79 = .ok (.iload 7, 2) := by decide +kernel
theorem dX4_rests_81 : decode cX4_rests 81 = .ok (.iload_n 1, 1) := by decide +kernel
theorem dX4_rests_82 : decode cX4_rests 82 = .ok (.iload 6, 2) := by decide +kernel
theorem dX4_rests_84 : decode cX4_rests 84 = .ok (.invokevirtual 237, 3) := by decide +kernel
theorem dX4_rests_87 : decode cX4_rests 87 = .ok (.ifCond .eq 28, 3) := by decide +kernel
theorem dX4_rests_90 : decode cX4_rests 90 = .ok (.iinc 4 1, 3) := by decide +kernel
theorem dX4_rests_93 : decode cX4_rests 93 = .ok (.iload 5, 2) := by decide +kernel
theorem dX4_rests_95 : decode cX4_rests 95 = .ok (.bipush (-9), 2) := by decide +kernel
theorem dX4_rests_97 : decode cX4_rests 97 = .ok (.if_icmp .ne 14, 3) := by decide +kernel
theorem dX4_rests_100 : decode cX4_rests 100 = .ok (.bipush 10, 2) := by decide +kernel
theorem dX4_rests_102 : decode cX4_rests 102 = .ok (.iload 6, 2) := by decide +kernel
theorem dX4_rests_104 : decode cX4_rests 104 = .ok (.imul, 1) := by decide +kernel
theorem dX4_rests_105 : decode cX4_rests 105 = .ok (.iload 7, 2) := by decide +kernel
theorem dX4_rests_107 : decode cX4_rests 107 = .ok (.iadd, 1) := by decide +kernel
theorem dX4_rests_108 : decode cX4_rests 108 = .ok (.goto 5, 3) := by decide +kernel
theorem dX4_rests_111 : decode cX4_rests 111 = .ok (.iload 5, 2) := by decide +kernel
theorem dX4_rests_113 : decode cX4_rests 113 = .ok (.istore 5, 2) := by decide +kernel
theorem dX4_rests_115 : decode cX4_rests 115 = .ok (.iinc 7 1, 3) := by decide +kernel
theorem dX4_rests_118 : decode cX4_rests 118 = .ok (.goto (-60), 3) := by decide +kernel
theorem dX4_rests_121 : decode cX4_rests 121 = .ok (.iinc 6 1, 3) := by decide +kernel
theorem dX4_rests_124 : decode cX4_rests 124 = .ok (.goto (-75), 3) := by decide +kernel
theorem dX4_rests_127 : decode cX4_rests 127 = .ok (.iload_n 3, 1) := by decide +kernel
theorem dX4_rests_128 : decode cX4_rests 128 = .ok (.ifCond .ne 8, 3) := by decide +kernel
theorem dX4_rests_131 : decode cX4_rests 131 = .ok (.iload 4, 2) := by decide +kernel
theorem dX4_rests_133 : decode cX4_rests 133 = .ok (.goto 5, 3) := by decide +kernel
theorem dX4_rests_136 : decode cX4_rests 136 = .ok (.iload 5, 2) := by decide +kernel
theorem dX4_rests_138 : decode cX4_rests 138 = .ok (.ireturn, 1) := by decide +kernel
theorem dX4_prefers_0 : decode cX4_prefers 0 = .ok (.aload_n 0, 1) := by decide +kernel
theorem dX4_prefers_1 : decode cX4_prefers 1 = .ok (.iload_n 1, 1) := by decide +kernel
theorem dX4_prefers_2 : decode cX4_prefers 2 = .ok (.iload_n 2, 1) := by decide +kernel
theorem dX4_prefers_3 : decode cX4_prefers 3 = .ok (.iload_n 3, 1) := by decide +kernel
theorem dX4_prefers_4 : decode cX4_prefers 4 = .ok (.iload 4, 2) := by decide +kernel
theorem dX4_prefers_6 : decode cX4_prefers 6 = .ok (.invokevirtual 240, 3) := by decide +kernel
theorem dX4_prefers_9 : decode cX4_prefers 9 = .ok (.aload_n 0, 1) := by decide +kernel
theorem dX4_prefers_10 : decode cX4_prefers 10 = .ok (.iload_n 1, 1) := by decide +kernel
theorem dX4_prefers_11 : decode cX4_prefers 11 = .ok (.iconst 1, 1) := by decide +kernel
theorem dX4_prefers_12 : decode cX4_prefers 12 = .ok (.iload_n 2, 1) := by decide +kernel
theorem dX4_prefers_13 : decode cX4_prefers 13 = .ok (.isub, 1) := by decide +kernel
theorem dX4_prefers_14 : decode cX4_prefers 14 = .ok (.iload_n 3, 1) := by decide +kernel
theorem dX4_prefers_15 : decode cX4_prefers 15 = .ok (.iload 4, 2) := by decide +kernel
theorem dX4_prefers_17 : decode cX4_prefers 17 = .ok (.invokevirtual 240, 3) := by decide +kernel
theorem dX4_prefers_20 : decode cX4_prefers 20 = .ok (.if_icmp .lt 7, 3) := by decide +kernel
theorem dX4_prefers_23 : decode cX4_prefers 23 = .ok (.iconst 1, 1) := by decide +kernel
theorem dX4_prefers_24 : decode cX4_prefers 24 = .ok (.goto 4, 3) := by decide +kernel
theorem dX4_prefers_27 : decode cX4_prefers 27 = .ok (.iconst 0, 1) := by decide +kernel
theorem dX4_prefers_28 : decode cX4_prefers 28 = .ok (.ireturn, 1) := by decide +kernel
theorem dX4_gain_0 : decode cX4_gain 0 = .ok (.aload_n 0, 1) := by decide +kernel
theorem dX4_gain_1 : decode cX4_gain 1 = .ok (.getfield 23, 3) := by decide +kernel
theorem dX4_gain_4 : decode cX4_gain 4 = .ok (.aload_n 0, 1) := by decide +kernel
theorem dX4_gain_5 : decode cX4_gain 5 = .ok (.getfield 19, 3) := by decide +kernel
theorem dX4_gain_8 : decode cX4_gain 8 = .ok (.invokevirtual 138, 3) := by decide +kernel
theorem dX4_gain_11 : decode cX4_gain 11 = .ok (.iload_n 2, 1) := by decide +kernel
theorem dX4_gain_12 : decode cX4_gain 12 = .ok (.iconst 1, 1) := by decide +kernel
theorem dX4_gain_13 : decode cX4_gain 13 = .ok (.if_icmp .ne 13, 3) := by decide +kernel
theorem dX4_gain_16 : decode cX4_gain 16 = .ok (.aload_n 0, 1) := by decide +kernel
theorem dX4_gain_17 : decode cX4_gain 17 = .ok (.getfield 23, 3) := by decide +kernel
theorem dX4_gain_20 : decode cX4_gain 20 = .ok (.iload_n 1, 1) := by decide +kernel
theorem dX4_gain_21 : decode cX4_gain 21 = .ok (.iconst 3, 1) := by decide +kernel
theorem dX4_gain_22 : decode cX4_gain 22 = .ok (.invokevirtual 113, 3) := by decide +kernel
theorem dX4_gain_25 : decode cX4_gain 25 = .ok (.pop, 1) := by decide +kernel
theorem dX4_gain_26 : decode cX4_gain 26 = .ok (.iload 4, 2) := by decide +kernel
theorem dX4_gain_28 : decode cX4_gain 28 = .ok (.iconst 1, 1) := by decide +kernel
theorem dX4_gain_29 : decode cX4_gain 29 = .ok (.if_icmp .ne 13, 3) := by decide +kernel
theorem dX4_gain_32 : decode cX4_gain 32 = .ok (.aload_n 0, 1) := by decide +kernel
theorem dX4_gain_33 : decode cX4_gain 33 = .ok (.getfield 23, 3) := by decide +kernel
theorem dX4_gain_36 : decode cX4_gain 36 = .ok (.iload_n 3, 1) := by decide +kernel
theorem dX4_gain_37 : decode cX4_gain 37 = .ok (.iconst 3, 1) := by decide +kernel
theorem dX4_gain_38 : decode cX4_gain 38 = .ok (.invokevirtual 113, 3) := by decide +kernel
theorem dX4_gain_41 : decode cX4_gain 41 = .ok (.pop, 1) := by decide +kernel
theorem dX4_gain_42 : decode cX4_gain 42 = .ok (.aload_n 0, 1) := by decide +kernel
theorem dX4_gain_43 : decode cX4_gain 43 = .ok (.getfield 23, 3) := by decide +kernel
theorem dX4_gain_46 : decode cX4_gain 46 = .ok (.iconst 4, 1) := by decide +kernel
theorem dX4_gain_47 : decode cX4_gain 47 = .ok (.invokevirtual 141, 3) := by decide +kernel
theorem dX4_gain_50 : decode cX4_gain 50 = .ok (.aload_n 0, 1) := by decide +kernel
theorem dX4_gain_51 : decode cX4_gain 51 = .ok (.getfield 23, 3) := by decide +kernel
theorem dX4_gain_54 : decode cX4_gain 54 = .ok (.iload_n 1, 1) := by decide +kernel
theorem dX4_gain_55 : decode cX4_gain 55 = .ok (.invokevirtual 96, 3) := by decide +kernel
theorem dX4_gain_58 : decode cX4_gain 58 = .ok (.aload_n 0, 1) := by decide +kernel
theorem dX4_gain_59 : decode cX4_gain 59 = .ok (.getfield 23, 3) := by decide +kernel
theorem dX4_gain_62 : decode cX4_gain 62 = .ok (.iload_n 1, 1) := by decide +kernel
theorem dX4_gain_63 : decode cX4_gain 63 = .ok (.invokevirtual 87, 3) := by decide +kernel
theorem dX4_gain_66 : decode cX4_gain 66 = .ok (.ifCond .eq 7, 3) := by decide +kernel
theorem dX4_gain_69 : decode cX4_gain 69 = .ok (.iconst 5, 1) := by decide +kernel
theorem dX4_gain_70 : decode cX4_gain 70 = .ok (.goto 4, 3) := by decide +kernel
theorem dX4_gain_73 : decode cX4_gain 73 = .ok (.iconst 0, 1) := by decide +kernel
theorem dX4_gain_74 : decode cX4_gain 74 = .ok (.iadd, 1) := by decide +kernel
theorem dX4_gain_75 : decode cX4_gain 75 = .ok (.iconst 2, 1) := by decide +kernel
theorem dX4_gain_76 : decode cX4_gain 76 = .ok (.iload_n 2, 1) := by decide +kernel
theorem dX4_gain_77 : decode cX4_gain 77 = .ok (.imul, 1) := by decide +kernel
theorem dX4_gain_78 : decode cX4_gain 78 = .ok (.isub, 1) := by decide +kernel
theorem dX4_gain_79 : decode cX4_gain 79 = .ok (.ireturn, 1) := by decide +kernel
theorem dX4_fails_0 : decode cX4_fails 0 = .ok (.iload_n 1, 1) := by decide +kernel
theorem dX4_fails_1 : decode cX4_fails 1 = .ok (.ifCond .lt 19, 3) := by decide +kernel
theorem dX4_fails_4 : decode cX4_fails 4 = .ok (.iload_n 1, 1) := by decide +kernel
theorem dX4_fails_5 : decode cX4_fails 5 = .ok (.bipush 6, 2) := by decide +kernel
theorem dX4_fails_7 : decode cX4_fails 7 = .ok (.if_icmp .gt 13, 3) := by decide +kernel
theorem dX4_fails_10 : decode cX4_fails 10 = .ok (.iload_n 2, 1) := by decide +kernel
theorem dX4_fails_11 : decode cX4_fails 11 = .ok (.ifCond .lt 9, 3) := by decide +kernel
theorem dX4_fails_14 : decode cX4_fails 14 = .ok (.iload_n 2, 1) := by decide +kernel
theorem dX4_fails_15 : decode cX4_fails 15 = .ok (.bipush 10, 2) := by decide +kernel
theorem dX4_fails_17 : decode cX4_fails 17 = .ok (.if_icmp .le 6, 3) := by decide +kernel
theorem dX4_fails_20 : decode cX4_fails 20 = .ok (.bipush (-2), 2) := by decide +kernel
theorem dX4_fails_22 : decode cX4_fails 22 = .ok (.ireturn, 1) := by decide +kernel
theorem dX4_fails_23 : decode cX4_fails 23 = .ok (.aload_n 0, 1) := by decide +kernel
theorem dX4_fails_24 : decode cX4_fails 24 = .ok (.getfield 19, 3) := by decide +kernel
theorem dX4_fails_27 : decode cX4_fails 27 = .ok (.invokevirtual 145, 3) := by decide +kernel
theorem dX4_fails_30 : decode cX4_fails 30 = .ok (.invokestatic 219, 3) := by decide +kernel
theorem dX4_fails_33 : decode cX4_fails 33 = .ok (.istore 4, 2) := by decide +kernel
theorem dX4_fails_35 : decode cX4_fails 35 = .ok (.iconst 0, 1) := by decide +kernel
theorem dX4_fails_36 : decode cX4_fails 36 = .ok (.istore 5, 2) := by decide +kernel
theorem dX4_fails_38 : decode cX4_fails 38 = .ok (.iconst 0, 1) := by decide +kernel
theorem dX4_fails_39 : decode cX4_fails 39 = .ok (.istore 6, 2) := by decide +kernel
theorem dX4_fails_41 : decode cX4_fails 41 = .ok (.iload 6, 2) := by decide +kernel
theorem dX4_fails_43 : decode cX4_fails 43 = .ok (.iconst 1, 1) := by decide +kernel
theorem dX4_fails_44 : decode cX4_fails 44 = .ok (.aload_n 0, 1) := by decide +kernel
theorem dX4_fails_45 : decode cX4_fails 45 = .ok (.getfield 19, 3) := by decide +kernel
theorem dX4_fails_48 : decode cX4_fails 48 = .ok (.invokevirtual 68, 3) := by decide +kernel
theorem dX4_fails_51 : decode cX4_fails 51 = .ok (.ishl, 1) := by decide +kernel
theorem dX4_fails_52 : decode cX4_fails 52 = .ok (.if_icmp .ge 77, 3) := by decide +kernel
theorem dX4_fails_55 : decode cX4_fails 55 = .ok (.iload 6, 2) := by decide +kernel
theorem dX4_fails_57 : decode cX4_fails 57 = .ok (.aload_n 0, 1) := by decide +kernel
theorem dX4_fails_58 : decode cX4_fails 58 = .ok (.getfield 19, 3) := by decide +kernel
theorem dX4_fails_61 : decode cX4_fails 61 = .ok (.invokevirtual 145, 3) := by decide +kernel
theorem dX4_fails_64 : decode cX4_fails 64 = .ok (.iconst (-1), 1) := by decide +kernel
theorem dX4_fails_65 : decode cX4_fails 65 = .ok (.ixor, 1) := by decide +kernel
theorem dX4_fails_66 : decode cX4_fails 66 = .ok (.iand, 1) := by decide +kernel
theorem dX4_fails_67 : decode cX4_fails 67 = .ok (.ifCond .ne 7, 3) := by decide +kernel
theorem dX4_fails_70 : decode cX4_fails 70 = .ok (.iconst 1, 1) := by decide +kernel
theorem dX4_fails_71 : decode cX4_fails 71 = .ok (.goto 4, 3) := by decide +kernel
theorem dX4_fails_74 : decode cX4_fails 74 = .ok (.iconst 0, 1) := by decide +kernel
theorem dX4_fails_75 : decode cX4_fails 75 = .ok (.istore 7, 2) := by decide +kernel
theorem dX4_fails_77 : decode cX4_fails 77 = .ok (.iload 7, 2) := by decide +kernel
theorem dX4_fails_79 : decode cX4_fails 79 = .ok (.ifCond .eq 44, 3) := by decide +kernel
theorem dX4_fails_82 : decode cX4_fails 82 = .ok (.aload_n 0, 1) := by decide +kernel
theorem dX4_fails_83 : decode cX4_fails 83 = .ok (.iload 6, 2) := by decide +kernel
theorem dX4_fails_85 : decode cX4_fails 85 = .ok (.invokevirtual 244, 3) := by decide +kernel
theorem dX4_fails_88 : decode cX4_fails 88 = .ok (.iload_n 1, 1) := by decide +kernel
theorem dX4_fails_89 : decode cX4_fails 89 = .ok (.if_icmp .lt 34, 3) := by decide +kernel
theorem dX4_fails_92 : decode cX4_fails 92 = .ok (.iload 6, 2) := by decide +kernel
theorem dX4_fails_94 : decode cX4_fails 94 = .ok (.invokestatic 219, 3) := by decide +kernel
theorem dX4_fails_97 : decode cX4_fails 97 = .ok (.istore 8, 2) := by decide +kernel
theorem dX4_fails_99 : decode cX4_fails 99 = .ok (.iload 5, 2) := by decide +kernel
theorem dX4_fails_101 : decode cX4_fails 101 = .ok (.iload_n 2, 1) := by decide +kernel
theorem dX4_fails_102 : decode cX4_fails 102 = .ok (.iload 8, 2) := by decide +kernel
theorem dX4_fails_104 : decode cX4_fails 104 = .ok (.invokestatic 247, 3) := by decide +kernel
theorem dX4_fails_107 : decode cX4_fails 107 = .ok (.bipush 10, 2) := by decide +kernel
theorem dX4_fails_109 : decode cX4_fails 109 = .ok (.iload_n 2, 1) := by decide +kernel
theorem dX4_fails_110 : decode cX4_fails 110 = .ok (.isub, 1) := by decide +kernel
theorem dX4_fails_111 : decode cX4_fails 111 = .ok (.iload 4, 2) := by decide +kernel
theorem dX4_fails_113 : decode cX4_fails 113 = .ok (.iload 8, 2) := by decide +kernel
theorem dX4_fails_115 : decode cX4_fails 115 = .ok (.isub, 1) := by decide +kernel
theorem dX4_fails_116 : decode cX4_fails 116 = .ok (.invokestatic 247, 3) := by decide +kernel
theorem dX4_fails_119 : decode cX4_fails 119 = .ok (.imul, 1) := by decide +kernel
theorem dX4_fails_120 : decode cX4_fails 120 = .ok (.iadd, 1) := by decide +kernel
theorem dX4_fails_121 : decode cX4_fails 121 = .ok (.istore 5, 2) := by decide +kernel
theorem dX4_fails_123 : decode cX4_fails 123 = .ok (.iinc 6 1, 3) := by decide +kernel
theorem dX4_fails_126 : decode cX4_fails 126 = .ok (.goto (-85), 3) := by decide +kernel
theorem dX4_fails_129 : decode cX4_fails 129 = .ok (.iload 5, 2) := by decide +kernel
theorem dX4_fails_131 : decode cX4_fails 131 = .ok (.bipush 10, 2) := by decide +kernel
theorem dX4_fails_133 : decode cX4_fails 133 = .ok (.iload 4, 2) := by decide +kernel
theorem dX4_fails_135 : decode cX4_fails 135 = .ok (.invokestatic 247, 3) := by decide +kernel
theorem dX4_fails_138 : decode cX4_fails 138 = .ok (.iload_n 3, 1) := by decide +kernel
theorem dX4_fails_139 : decode cX4_fails 139 = .ok (.invokestatic 230, 3) := by decide +kernel
theorem dX4_fails_142 : decode cX4_fails 142 = .ok (.ireturn, 1) := by decide +kernel
theorem dX4_standingWithFailed_0 : decode cX4_standingWithFailed 0 = .ok (.aload_n 0, 1) := by decide +kernel
theorem dX4_standingWithFailed_1 : decode cX4_standingWithFailed 1 = .ok (.getfield 23, 3) := by decide +kernel
theorem dX4_standingWithFailed_4 : decode cX4_standingWithFailed 4 = .ok (.aload_n 0, 1) := by decide +kernel
theorem dX4_standingWithFailed_5 : decode cX4_standingWithFailed 5 = .ok (.getfield 19, 3) := by decide +kernel
theorem dX4_standingWithFailed_8 : decode cX4_standingWithFailed 8 = .ok (.invokevirtual 138, 3) := by decide +kernel
theorem dX4_standingWithFailed_11 : decode cX4_standingWithFailed 11 = .ok (.aload_n 0, 1) := by decide +kernel
theorem dX4_standingWithFailed_12 : decode cX4_standingWithFailed 12 = .ok (.getfield 23, 3) := by decide +kernel
theorem dX4_standingWithFailed_15 : decode cX4_standingWithFailed 15 = .ok (.iload_n 1, 1) := by decide +kernel
theorem dX4_standingWithFailed_16 : decode cX4_standingWithFailed 16 = .ok (.invokevirtual 250, 3) := by decide +kernel
theorem dX4_standingWithFailed_19 : decode cX4_standingWithFailed 19 = .ok (.aload_n 0, 1) := by decide +kernel
theorem dX4_standingWithFailed_20 : decode cX4_standingWithFailed 20 = .ok (.getfield 23, 3) := by decide +kernel
theorem dX4_standingWithFailed_23 : decode cX4_standingWithFailed 23 = .ok (.iconst 3, 1) := by decide +kernel
theorem dX4_standingWithFailed_24 : decode cX4_standingWithFailed 24 = .ok (.invokevirtual 141, 3) := by decide +kernel
theorem dX4_standingWithFailed_27 : decode cX4_standingWithFailed 27 = .ok (.aload_n 0, 1) := by decide +kernel
theorem dX4_standingWithFailed_28 : decode cX4_standingWithFailed 28 = .ok (.getfield 23, 3) := by decide +kernel
theorem dX4_standingWithFailed_31 : decode cX4_standingWithFailed 31 = .ok (.invokevirtual 145, 3) := by decide +kernel
theorem dX4_standingWithFailed_34 : decode cX4_standingWithFailed 34 = .ok (.invokestatic 219, 3) := by decide +kernel
theorem dX4_standingWithFailed_37 : decode cX4_standingWithFailed 37 = .ok (.ireturn, 1) := by decide +kernel
theorem dX4_seed_0 : decode cX4_seed 0 = .ok (.aload_n 0, 1) := by decide +kernel
theorem dX4_seed_1 : decode cX4_seed 1 = .ok (.getfield 253, 3) := by decide +kernel
theorem dX4_seed_4 : decode cX4_seed 4 = .ok (.lstore_n 3, 1) := by decide +kernel
theorem dX4_seed_5 : decode cX4_seed 5 = .ok (.aload_n 0, 1) := by decide +kernel
theorem dX4_seed_6 : decode cX4_seed 6 = .ok (.lload_n 1, 1) := by decide +kernel
theorem dX4_seed_7 : decode cX4_seed 7 = .ok (.putfield 253, 3) := by decide +kernel
theorem dX4_seed_10 : decode cX4_seed 10 = .ok (.lload_n 3, 1) := by decide +kernel
theorem dX4_seed_11 : decode cX4_seed 11 = .ok (.lreturn, 1) := by decide +kernel
theorem dX4_years_0 : decode cX4_years 0 = .ok (.iload_n 1, 1) := by decide +kernel
theorem dX4_years_1 : decode cX4_years 1 = .ok (.iconst 1, 1) := by decide +kernel
theorem dX4_years_2 : decode cX4_years 2 = .ok (.if_icmp .lt 9, 3) := by decide +kernel
theorem dX4_years_5 : decode cX4_years 5 = .ok (.iload_n 1, 1) := by decide +kernel
theorem dX4_years_6 : decode cX4_years 6 = .ok (.bipush 30, 2) := by decide +kernel
theorem dX4_years_8 : decode cX4_years 8 = .ok (.if_icmp .le 6, 3) := by decide +kernel
theorem dX4_years_11 : decode cX4_years 11 = .ok (.bipush (-2), 2) := by decide +kernel
theorem dX4_years_13 : decode cX4_years 13 = .ok (.ireturn, 1) := by decide +kernel
theorem dX4_years_14 : decode cX4_years 14 = .ok (.aload_n 0, 1) := by decide +kernel
theorem dX4_years_15 : decode cX4_years 15 = .ok (.getfield 23, 3) := by decide +kernel
theorem dX4_years_18 : decode cX4_years 18 = .ok (.aload_n 0, 1) := by decide +kernel
theorem dX4_years_19 : decode cX4_years 19 = .ok (.getfield 19, 3) := by decide +kernel
theorem dX4_years_22 : decode cX4_years 22 = .ok (.invokevirtual 138, 3) := by decide +kernel
theorem dX4_years_25 : decode cX4_years 25 = .ok (.iconst 0, 1) := by decide +kernel
theorem dX4_years_26 : decode cX4_years 26 = .ok (.istore_n 2, 1) := by decide +kernel
theorem dX4_years_27 : decode cX4_years 27 = .ok (.iconst 0, 1) := by decide +kernel
theorem dX4_years_28 : decode cX4_years 28 = .ok (.istore_n 3, 1) := by decide +kernel
theorem dX4_years_29 : decode cX4_years 29 = .ok (.iload_n 3, 1) := by decide +kernel
theorem dX4_years_30 : decode cX4_years 30 = .ok (.iload_n 1, 1) := by decide +kernel
theorem dX4_years_31 : decode cX4_years 31 = .ok (.if_icmp .ge 54, 3) := by decide +kernel
theorem dX4_years_34 : decode cX4_years 34 = .ok (.aload_n 0, 1) := by decide +kernel
theorem dX4_years_35 : decode cX4_years 35 = .ok (.aload_n 0, 1) := by decide +kernel
theorem dX4_years_36 : decode cX4_years 36 = .ok (.getfield 253, 3) := by decide +kernel
theorem dX4_years_39 : decode cX4_years 39 = .ok (.ldc2_w 257, 3) := by decide +kernel
theorem dX4_years_42 : decode cX4_years 42 = .ok (.lmul, 1) := by decide +kernel
theorem dX4_years_43 : decode cX4_years 43 = .ok (.ldc2_w 259, 3) := by decide +kernel
theorem dX4_years_46 : decode cX4_years 46 = .ok (.ladd, 1) := by decide +kernel
theorem dX4_years_47 : decode cX4_years 47 = .ok (.putfield 253, 3) := by decide +kernel
theorem dX4_years_50 : decode cX4_years 50 = .ok (.aload_n 0, 1) := by decide +kernel
theorem dX4_years_51 : decode cX4_years 51 = .ok (.aload_n 0, 1) := by decide +kernel
theorem dX4_years_52 : decode cX4_years 52 = .ok (.getfield 253, 3) := by decide +kernel
theorem dX4_years_55 : decode cX4_years 55 = .ok (.bipush 33, 2) := by decide +kernel
theorem dX4_years_57 : decode cX4_years 57 = .ok (.lushr, 1) := by decide +kernel
theorem dX4_years_58 : decode cX4_years 58 = .ok (.ldc2_w 261, 3) := by decide +kernel
theorem dX4_years_61 : decode cX4_years 61 = .ok (.lrem, 1) := by decide +kernel
theorem dX4_years_62 : decode cX4_years 62 = .ok (.l2i, 1) := by decide +kernel
theorem dX4_years_63 : decode cX4_years 63 = .ok (.invokevirtual 263, 3) := by decide +kernel
theorem dX4_years_66 : decode cX4_years 66 = .ok (.iload_n 2, 1) := by decide +kernel
theorem dX4_years_67 : decode cX4_years 67 = .ok (.aload_n 0, 1) := by decide +kernel
theorem dX4_years_68 : decode cX4_years 68 = .ok (.getfield 23, 3) := by decide +kernel
theorem dX4_years_71 : decode cX4_years 71 = .ok (.invokevirtual 145, 3) := by decide +kernel
theorem dX4_years_74 : decode cX4_years 74 = .ok (.invokestatic 219, 3) := by decide +kernel
theorem dX4_years_77 : decode cX4_years 77 = .ok (.iadd, 1) := by decide +kernel
theorem dX4_years_78 : decode cX4_years 78 = .ok (.istore_n 2, 1) := by decide +kernel
theorem dX4_years_79 : decode cX4_years 79 = .ok (.iinc 3 1, 3) := by decide +kernel
theorem dX4_years_82 : decode cX4_years 82 = .ok (.goto (-53), 3) := by decide +kernel
theorem dX4_years_85 : decode cX4_years 85 = .ok (.iload_n 2, 1) := by decide +kernel
theorem dX4_years_86 : decode cX4_years 86 = .ok (.ireturn, 1) := by decide +kernel
theorem dX4_playYear_0 : decode cX4_playYear 0 = .ok (.iload_n 1, 1) := by decide +kernel
theorem dX4_playYear_1 : decode cX4_playYear 1 = .ok (.bipush 12, 2) := by decide +kernel
theorem dX4_playYear_3 : decode cX4_playYear 3 = .ok (.if_icmp .ge 22, 3) := by decide +kernel
theorem dX4_playYear_6 : decode cX4_playYear 6 = .ok (.aload_n 0, 1) := by decide +kernel
theorem dX4_playYear_7 : decode cX4_playYear 7 = .ok (.getfield 23, 3) := by decide +kernel
theorem dX4_playYear_10 : decode cX4_playYear 10 = .ok (.iload_n 1, 1) := by decide +kernel
theorem dX4_playYear_11 : decode cX4_playYear 11 = .ok (.iconst 2, 1) := by decide +kernel
theorem dX4_playYear_12 : decode cX4_playYear 12 = .ok (.idiv, 1) := by decide +kernel
theorem dX4_playYear_13 : decode cX4_playYear 13 = .ok (.iconst 1, 1) := by decide +kernel
theorem dX4_playYear_14 : decode cX4_playYear 14 = .ok (.iload_n 1, 1) := by decide +kernel
theorem dX4_playYear_15 : decode cX4_playYear 15 = .ok (.iconst 2, 1) := by decide +kernel
theorem dX4_playYear_16 : decode cX4_playYear 16 = .ok (.irem, 1) := by decide +kernel
theorem dX4_playYear_17 : decode cX4_playYear 17 = .ok (.iadd, 1) := by decide +kernel
theorem dX4_playYear_18 : decode cX4_playYear 18 = .ok (.invokevirtual 113, 3) := by decide +kernel
theorem dX4_playYear_21 : decode cX4_playYear 21 = .ok (.pop, 1) := by decide +kernel
theorem dX4_playYear_22 : decode cX4_playYear 22 = .ok (.goto 62, 3) := by decide +kernel
theorem dX4_playYear_25 : decode cX4_playYear 25 = .ok (.iload_n 1, 1) := by decide +kernel
theorem dX4_playYear_26 : decode cX4_playYear 26 = .ok (.bipush 18, 2) := by decide +kernel
theorem dX4_playYear_28 : decode cX4_playYear 28 = .ok (.if_icmp .ge 19, 3) := by decide +kernel
theorem dX4_playYear_31 : decode cX4_playYear 31 = .ok (.aload_n 0, 1) := by decide +kernel
theorem dX4_playYear_32 : decode cX4_playYear 32 = .ok (.getfield 23, 3) := by decide +kernel
theorem dX4_playYear_35 : decode cX4_playYear 35 = .ok (.iload_n 1, 1) := by decide +kernel
theorem dX4_playYear_36 : decode cX4_playYear 36 = .ok (.bipush 12, 2) := by decide +kernel
theorem dX4_playYear_38 : decode cX4_playYear 38 = .ok (.isub, 1) := by decide +kernel
theorem dX4_playYear_39 : decode cX4_playYear 39 = .ok (.iconst 1, 1) := by decide +kernel
theorem dX4_playYear_40 : decode cX4_playYear 40 = .ok (.invokevirtual 119, 3) := by decide +kernel
theorem dX4_playYear_43 : decode cX4_playYear 43 = .ok (.pop, 1) := by decide +kernel
theorem dX4_playYear_44 : decode cX4_playYear 44 = .ok (.goto 40, 3) := by decide +kernel
theorem dX4_playYear_47 : decode cX4_playYear 47 = .ok (.iload_n 1, 1) := by decide +kernel
theorem dX4_playYear_48 : decode cX4_playYear 48 = .ok (.bipush 36, 2) := by decide +kernel
theorem dX4_playYear_50 : decode cX4_playYear 50 = .ok (.if_icmp .ge 26, 3) := by decide +kernel
theorem dX4_playYear_53 : decode cX4_playYear 53 = .ok (.aload_n 0, 1) := by decide +kernel
theorem dX4_playYear_54 : decode cX4_playYear 54 = .ok (.getfield 23, 3) := by decide +kernel
theorem dX4_playYear_57 : decode cX4_playYear 57 = .ok (.iload_n 1, 1) := by decide +kernel
theorem dX4_playYear_58 : decode cX4_playYear 58 = .ok (.bipush 18, 2) := by decide +kernel
theorem dX4_playYear_60 : decode cX4_playYear 60 = .ok (.isub, 1) := by decide +kernel
theorem dX4_playYear_61 : decode cX4_playYear 61 = .ok (.iconst 3, 1) := by decide +kernel
theorem dX4_playYear_62 : decode cX4_playYear 62 = .ok (.idiv, 1) := by decide +kernel
theorem dX4_playYear_63 : decode cX4_playYear 63 = .ok (.iload_n 1, 1) := by decide +kernel
theorem dX4_playYear_64 : decode cX4_playYear 64 = .ok (.bipush 18, 2) := by decide +kernel
theorem dX4_playYear_66 : decode cX4_playYear 66 = .ok (.isub, 1) := by decide +kernel
theorem dX4_playYear_67 : decode cX4_playYear 67 = .ok (.iconst 3, 1) := by decide +kernel
theorem dX4_playYear_68 : decode cX4_playYear 68 = .ok (.irem, 1) := by decide +kernel
theorem dX4_playYear_69 : decode cX4_playYear 69 = .ok (.invokevirtual 125, 3) := by decide +kernel
theorem dX4_playYear_72 : decode cX4_playYear 72 = .ok (.pop, 1) := by decide +kernel
theorem dX4_playYear_73 : decode cX4_playYear 73 = .ok (.goto 11, 3) := by decide +kernel
theorem dX4_playYear_76 : decode cX4_playYear 76 = .ok (.aload_n 0, 1) := by decide +kernel
theorem dX4_playYear_77 : decode cX4_playYear 77 = .ok (.getfield 23, 3) := by decide +kernel
theorem dX4_playYear_80 : decode cX4_playYear 80 = .ok (.invokevirtual 103, 3) := by decide +kernel
theorem dX4_playYear_83 : decode cX4_playYear 83 = .ok (.pop, 1) := by decide +kernel
theorem dX4_playYear_84 : decode cX4_playYear 84 = .ok (.return_, 1) := by decide +kernel
theorem dX4_keep_0 : decode cX4_keep 0 = .ok (.iload_n 1, 1) := by decide +kernel
theorem dX4_keep_1 : decode cX4_keep 1 = .ok (.ifCond .lt 8, 3) := by decide +kernel
theorem dX4_keep_4 : decode cX4_keep 4 = .ok (.iload_n 1, 1) := by decide +kernel
theorem dX4_keep_5 : decode cX4_keep 5 = .ok (.iconst 2, 1) := by decide +kernel
theorem dX4_keep_6 : decode cX4_keep 6 = .ok (.if_icmp .lt 5, 3) := by decide +kernel
theorem dX4_keep_9 : decode cX4_keep 9 = .ok (.iconst (-1), 1) := by decide +kernel
theorem dX4_keep_10 : decode cX4_keep 10 = .ok (.ireturn, 1) := by decide +kernel
theorem dX4_keep_11 : decode cX4_keep 11 = .ok (.aload_n 0, 1) := by decide +kernel
theorem dX4_keep_12 : decode cX4_keep 12 = .ok (.getfield 40, 3) := by decide +kernel
theorem dX4_keep_15 : decode cX4_keep 15 = .ok (.iload_n 1, 1) := by decide +kernel
theorem dX4_keep_16 : decode cX4_keep 16 = .ok (.aaload, 1) := by decide +kernel
theorem dX4_keep_17 : decode cX4_keep 17 = .ok (.aload_n 0, 1) := by decide +kernel
theorem dX4_keep_18 : decode cX4_keep 18 = .ok (.getfield 19, 3) := by decide +kernel
theorem dX4_keep_21 : decode cX4_keep 21 = .ok (.invokevirtual 138, 3) := by decide +kernel
theorem dX4_keep_24 : decode cX4_keep 24 = .ok (.aload_n 0, 1) := by decide +kernel
theorem dX4_keep_25 : decode cX4_keep 25 = .ok (.dup, 1) := by decide +kernel
theorem dX4_keep_26 : decode cX4_keep 26 = .ok (.getfield 64, 3) := by decide +kernel
theorem dX4_keep_29 : decode cX4_keep 29 = .ok (.iconst 1, 1) := by decide +kernel
theorem dX4_keep_30 : decode cX4_keep 30 = .ok (.iload_n 1, 1) := by decide +kernel
theorem dX4_keep_31 : decode cX4_keep 31 = .ok (.ishl, 1) := by decide +kernel
theorem dX4_keep_32 : decode cX4_keep 32 = .ok (.ior, 1) := by decide +kernel
theorem dX4_keep_33 : decode cX4_keep 33 = .ok (.putfield 64, 3) := by decide +kernel
theorem dX4_keep_36 : decode cX4_keep 36 = .ok (.aload_n 0, 1) := by decide +kernel
theorem dX4_keep_37 : decode cX4_keep 37 = .ok (.getfield 19, 3) := by decide +kernel
theorem dX4_keep_40 : decode cX4_keep 40 = .ok (.invokevirtual 266, 3) := by decide +kernel
theorem dX4_keep_43 : decode cX4_keep 43 = .ok (.ireturn, 1) := by decide +kernel
theorem dX4_again_0 : decode cX4_again 0 = .ok (.iload_n 1, 1) := by decide +kernel
theorem dX4_again_1 : decode cX4_again 1 = .ok (.ifCond .lt 8, 3) := by decide +kernel
theorem dX4_again_4 : decode cX4_again 4 = .ok (.iload_n 1, 1) := by decide +kernel
theorem dX4_again_5 : decode cX4_again 5 = .ok (.iconst 2, 1) := by decide +kernel
theorem dX4_again_6 : decode cX4_again 6 = .ok (.if_icmp .lt 5, 3) := by decide +kernel
theorem dX4_again_9 : decode cX4_again 9 = .ok (.iconst (-1), 1) := by decide +kernel
theorem dX4_again_10 : decode cX4_again 10 = .ok (.ireturn, 1) := by decide +kernel
theorem dX4_again_11 : decode cX4_again 11 = .ok (.aload_n 0, 1) := by decide +kernel
theorem dX4_again_12 : decode cX4_again 12 = .ok (.getfield 64, 3) := by decide +kernel
theorem dX4_again_15 : decode cX4_again 15 = .ok (.iload_n 1, 1) := by decide +kernel
theorem dX4_again_16 : decode cX4_again 16 = .ok (.ishr, 1) := by decide +kernel
theorem dX4_again_17 : decode cX4_again 17 = .ok (.iconst 1, 1) := by decide +kernel
theorem dX4_again_18 : decode cX4_again 18 = .ok (.iand, 1) := by decide +kernel
theorem dX4_again_19 : decode cX4_again 19 = .ok (.ifCond .ne 6, 3) := by decide +kernel
theorem dX4_again_22 : decode cX4_again 22 = .ok (.bipush (-3), 2) := by decide +kernel
theorem dX4_again_24 : decode cX4_again 24 = .ok (.ireturn, 1) := by decide +kernel
theorem dX4_again_25 : decode cX4_again 25 = .ok (.aload_n 0, 1) := by decide +kernel
theorem dX4_again_26 : decode cX4_again 26 = .ok (.getfield 19, 3) := by decide +kernel
theorem dX4_again_29 : decode cX4_again 29 = .ok (.aload_n 0, 1) := by decide +kernel
theorem dX4_again_30 : decode cX4_again 30 = .ok (.getfield 40, 3) := by decide +kernel
theorem dX4_again_33 : decode cX4_again 33 = .ok (.iload_n 1, 1) := by decide +kernel
theorem dX4_again_34 : decode cX4_again 34 = .ok (.aaload, 1) := by decide +kernel
theorem dX4_again_35 : decode cX4_again 35 = .ok (.invokevirtual 138, 3) := by decide +kernel
theorem dX4_again_38 : decode cX4_again 38 = .ok (.aload_n 0, 1) := by decide +kernel
theorem dX4_again_39 : decode cX4_again 39 = .ok (.getfield 29, 3) := by decide +kernel
theorem dX4_again_42 : decode cX4_again 42 = .ok (.invokevirtual 62, 3) := by decide +kernel
theorem dX4_again_45 : decode cX4_again 45 = .ok (.aload_n 0, 1) := by decide +kernel
theorem dX4_again_46 : decode cX4_again 46 = .ok (.getfield 19, 3) := by decide +kernel
theorem dX4_again_49 : decode cX4_again 49 = .ok (.invokevirtual 266, 3) := by decide +kernel
theorem dX4_again_52 : decode cX4_again 52 = .ok (.ireturn, 1) := by decide +kernel
theorem dX4_count_0 : decode cX4_count 0 = .ok (.iload_n 1, 1) := by decide +kernel
theorem dX4_count_1 : decode cX4_count 1 = .ok (.tableswitch 123 0 8 #[51, 59, 67, 75, 83, 91, 99, 107, 115], 51) := by decide +kernel
theorem dX4_count_52 : decode cX4_count 52 = .ok (.aload_n 0, 1) := by decide +kernel
theorem dX4_count_53 : decode cX4_count 53 = .ok (.getfield 12, 3) := by decide +kernel
theorem dX4_count_56 : decode cX4_count 56 = .ok (.invokevirtual 48, 3) := by decide +kernel
theorem dX4_count_59 : decode cX4_count 59 = .ok (.ireturn, 1) := by decide +kernel
theorem dX4_count_60 : decode cX4_count 60 = .ok (.aload_n 0, 1) := by decide +kernel
theorem dX4_count_61 : decode cX4_count 61 = .ok (.getfield 19, 3) := by decide +kernel
theorem dX4_count_64 : decode cX4_count 64 = .ok (.invokevirtual 68, 3) := by decide +kernel
theorem dX4_count_67 : decode cX4_count 67 = .ok (.ireturn, 1) := by decide +kernel
theorem dX4_count_68 : decode cX4_count 68 = .ok (.aload_n 0, 1) := by decide +kernel
theorem dX4_count_69 : decode cX4_count 69 = .ok (.getfield 19, 3) := by decide +kernel
theorem dX4_count_72 : decode cX4_count 72 = .ok (.invokevirtual 145, 3) := by decide +kernel
theorem dX4_count_75 : decode cX4_count 75 = .ok (.ireturn, 1) := by decide +kernel
theorem dX4_count_76 : decode cX4_count 76 = .ok (.aload_n 0, 1) := by decide +kernel
theorem dX4_count_77 : decode cX4_count 77 = .ok (.getfield 19, 3) := by decide +kernel
theorem dX4_count_80 : decode cX4_count 80 = .ok (.invokevirtual 266, 3) := by decide +kernel
theorem dX4_count_83 : decode cX4_count 83 = .ok (.ireturn, 1) := by decide +kernel
theorem dX4_count_84 : decode cX4_count 84 = .ok (.aload_n 0, 1) := by decide +kernel
theorem dX4_count_85 : decode cX4_count 85 = .ok (.getfield 19, 3) := by decide +kernel
theorem dX4_count_88 : decode cX4_count 88 = .ok (.invokevirtual 269, 3) := by decide +kernel
theorem dX4_count_91 : decode cX4_count 91 = .ok (.ireturn, 1) := by decide +kernel
theorem dX4_count_92 : decode cX4_count 92 = .ok (.aload_n 0, 1) := by decide +kernel
theorem dX4_count_93 : decode cX4_count 93 = .ok (.getfield 19, 3) := by decide +kernel
theorem dX4_count_96 : decode cX4_count 96 = .ok (.invokevirtual 272, 3) := by decide +kernel
theorem dX4_count_99 : decode cX4_count 99 = .ok (.ireturn, 1) := by decide +kernel
theorem dX4_count_100 : decode cX4_count 100 = .ok (.aload_n 0, 1) := by decide +kernel
theorem dX4_count_101 : decode cX4_count 101 = .ok (.getfield 19, 3) := by decide +kernel
theorem dX4_count_104 : decode cX4_count 104 = .ok (.invokevirtual 275, 3) := by decide +kernel
theorem dX4_count_107 : decode cX4_count 107 = .ok (.ireturn, 1) := by decide +kernel
theorem dX4_count_108 : decode cX4_count 108 = .ok (.aload_n 0, 1) := by decide +kernel
theorem dX4_count_109 : decode cX4_count 109 = .ok (.getfield 29, 3) := by decide +kernel
theorem dX4_count_112 : decode cX4_count 112 = .ok (.invokevirtual 131, 3) := by decide +kernel
theorem dX4_count_115 : decode cX4_count 115 = .ok (.ireturn, 1) := by decide +kernel
theorem dX4_count_116 : decode cX4_count 116 = .ok (.aload_n 0, 1) := by decide +kernel
theorem dX4_count_117 : decode cX4_count 117 = .ok (.getfield 36, 3) := by decide +kernel
theorem dX4_count_120 : decode cX4_count 120 = .ok (.invokevirtual 210, 3) := by decide +kernel
theorem dX4_count_123 : decode cX4_count 123 = .ok (.ireturn, 1) := by decide +kernel
theorem dX4_count_124 : decode cX4_count 124 = .ok (.bipush (-2), 2) := by decide +kernel
theorem dX4_count_126 : decode cX4_count 126 = .ok (.ireturn, 1) := by decide +kernel
theorem dX4_isHalf_0 : decode cX4_isHalf 0 = .ok (.iload_n 0, 1) := by decide +kernel
theorem dX4_isHalf_1 : decode cX4_isHalf 1 = .ok (.ifCond .eq 8, 3) := by decide +kernel
theorem dX4_isHalf_4 : decode cX4_isHalf 4 = .ok (.iload_n 0, 1) := by decide +kernel
theorem dX4_isHalf_5 : decode cX4_isHalf 5 = .ok (.iconst 1, 1) := by decide +kernel
theorem dX4_isHalf_6 : decode cX4_isHalf 6 = .ok (.if_icmp .ne 7, 3) := by decide +kernel
theorem dX4_isHalf_9 : decode cX4_isHalf 9 = .ok (.iconst 1, 1) := by decide +kernel
theorem dX4_isHalf_10 : decode cX4_isHalf 10 = .ok (.goto 4, 3) := by decide +kernel
theorem dX4_isHalf_13 : decode cX4_isHalf 13 = .ok (.iconst 0, 1) := by decide +kernel
theorem dX4_isHalf_14 : decode cX4_isHalf 14 = .ok (.ireturn, 1) := by decide +kernel
theorem dX4_isCarried_0 : decode cX4_isCarried 0 = .ok (.iload_n 0, 1) := by decide +kernel
theorem dX4_isCarried_1 : decode cX4_isCarried 1 = .ok (.iconst 1, 1) := by decide +kernel
theorem dX4_isCarried_2 : decode cX4_isCarried 2 = .ok (.if_icmp .lt 13, 3) := by decide +kernel
theorem dX4_isCarried_5 : decode cX4_isCarried 5 = .ok (.iload_n 0, 1) := by decide +kernel
theorem dX4_isCarried_6 : decode cX4_isCarried 6 = .ok (.bipush 9, 2) := by decide +kernel
theorem dX4_isCarried_8 : decode cX4_isCarried 8 = .ok (.if_icmp .gt 7, 3) := by decide +kernel
theorem dX4_isCarried_11 : decode cX4_isCarried 11 = .ok (.iconst 1, 1) := by decide +kernel
theorem dX4_isCarried_12 : decode cX4_isCarried 12 = .ok (.goto 4, 3) := by decide +kernel
theorem dX4_isCarried_15 : decode cX4_isCarried 15 = .ok (.iconst 0, 1) := by decide +kernel
theorem dX4_isCarried_16 : decode cX4_isCarried 16 = .ok (.ireturn, 1) := by decide +kernel
theorem dX4_hasFigures_0 : decode cX4_hasFigures 0 = .ok (.lload_n 0, 1) := by decide +kernel
theorem dX4_hasFigures_1 : decode cX4_hasFigures 1 = .ok (.lstore_n 3, 1) := by decide +kernel
theorem dX4_hasFigures_2 : decode cX4_hasFigures 2 = .ok (.iconst 0, 1) := by decide +kernel
theorem dX4_hasFigures_3 : decode cX4_hasFigures 3 = .ok (.istore 5, 2) := by decide +kernel
theorem dX4_hasFigures_5 : decode cX4_hasFigures 5 = .ok (.iload 5, 2) := by decide +kernel
theorem dX4_hasFigures_7 : decode cX4_hasFigures 7 = .ok (.iload_n 2, 1) := by decide +kernel
theorem dX4_hasFigures_8 : decode cX4_hasFigures 8 = .ok (.if_icmp .ge 15, 3) := by decide +kernel
theorem dX4_hasFigures_11 : decode cX4_hasFigures 11 = .ok (.lload_n 3, 1) := by decide +kernel
theorem dX4_hasFigures_12 : decode cX4_hasFigures 12 = .ok (.ldc2_w 278, 3) := by decide +kernel
theorem dX4_hasFigures_15 : decode cX4_hasFigures 15 = .ok (.ldiv, 1) := by decide +kernel
theorem dX4_hasFigures_16 : decode cX4_hasFigures 16 = .ok (.lstore_n 3, 1) := by decide +kernel
theorem dX4_hasFigures_17 : decode cX4_hasFigures 17 = .ok (.iinc 5 1, 3) := by decide +kernel
theorem dX4_hasFigures_20 : decode cX4_hasFigures 20 = .ok (.goto (-15), 3) := by decide +kernel
theorem dX4_hasFigures_23 : decode cX4_hasFigures 23 = .ok (.lload_n 0, 1) := by decide +kernel
theorem dX4_hasFigures_24 : decode cX4_hasFigures 24 = .ok (.lconst 0, 1) := by decide +kernel
theorem dX4_hasFigures_25 : decode cX4_hasFigures 25 = .ok (.lcmp, 1) := by decide +kernel
theorem dX4_hasFigures_26 : decode cX4_hasFigures 26 = .ok (.ifCond .lt 13, 3) := by decide +kernel
theorem dX4_hasFigures_29 : decode cX4_hasFigures 29 = .ok (.lload_n 3, 1) := by decide +kernel
theorem dX4_hasFigures_30 : decode cX4_hasFigures 30 = .ok (.lconst 0, 1) := by decide +kernel
theorem dX4_hasFigures_31 : decode cX4_hasFigures 31 = .ok (.lcmp, 1) := by decide +kernel
theorem dX4_hasFigures_32 : decode cX4_hasFigures 32 = .ok (.ifCond .ne 7, 3) := by decide +kernel
theorem dX4_hasFigures_35 : decode cX4_hasFigures 35 = .ok (.iconst 1, 1) := by decide +kernel
theorem dX4_hasFigures_36 : decode cX4_hasFigures 36 = .ok (.goto 4, 3) := by decide +kernel
theorem dX4_hasFigures_39 : decode cX4_hasFigures 39 = .ok (.iconst 0, 1) := by decide +kernel
theorem dX4_hasFigures_40 : decode cX4_hasFigures 40 = .ok (.ireturn, 1) := by decide +kernel
theorem dX4_figure_0 : decode cX4_figure 0 = .ok (.lload_n 0, 1) := by decide +kernel
theorem dX4_figure_1 : decode cX4_figure 1 = .ok (.lstore 4, 2) := by decide +kernel
theorem dX4_figure_3 : decode cX4_figure 3 = .ok (.iload_n 2, 1) := by decide +kernel
theorem dX4_figure_4 : decode cX4_figure 4 = .ok (.iconst 1, 1) := by decide +kernel
theorem dX4_figure_5 : decode cX4_figure 5 = .ok (.isub, 1) := by decide +kernel
theorem dX4_figure_6 : decode cX4_figure 6 = .ok (.istore 6, 2) := by decide +kernel
theorem dX4_figure_8 : decode cX4_figure 8 = .ok (.iload 6, 2) := by decide +kernel
theorem dX4_figure_10 : decode cX4_figure 10 = .ok (.iload_n 3, 1) := by decide +kernel
theorem dX4_figure_11 : decode cX4_figure 11 = .ok (.if_icmp .le 17, 3) := by decide +kernel
theorem dX4_figure_14 : decode cX4_figure 14 = .ok (.lload 4, 2) := by decide +kernel
theorem dX4_figure_16 : decode cX4_figure 16 = .ok (.ldc2_w 278, 3) := by decide +kernel
theorem dX4_figure_19 : decode cX4_figure 19 = .ok (.ldiv, 1) := by decide +kernel
theorem dX4_figure_20 : decode cX4_figure 20 = .ok (.lstore 4, 2) := by decide +kernel
theorem dX4_figure_22 : decode cX4_figure 22 = .ok (.iinc 6 (-1), 3) := by decide +kernel
theorem dX4_figure_25 : decode cX4_figure 25 = .ok (.goto (-17), 3) := by decide +kernel
theorem dX4_figure_28 : decode cX4_figure 28 = .ok (.lload 4, 2) := by decide +kernel
theorem dX4_figure_30 : decode cX4_figure 30 = .ok (.ldc2_w 278, 3) := by decide +kernel
theorem dX4_figure_33 : decode cX4_figure 33 = .ok (.lrem, 1) := by decide +kernel
theorem dX4_figure_34 : decode cX4_figure 34 = .ok (.l2i, 1) := by decide +kernel
theorem dX4_figure_35 : decode cX4_figure 35 = .ok (.ireturn, 1) := by decide +kernel
theorem dX4_power_0 : decode cX4_power 0 = .ok (.iconst 1, 1) := by decide +kernel
theorem dX4_power_1 : decode cX4_power 1 = .ok (.istore_n 2, 1) := by decide +kernel
theorem dX4_power_2 : decode cX4_power 2 = .ok (.iconst 0, 1) := by decide +kernel
theorem dX4_power_3 : decode cX4_power 3 = .ok (.istore_n 3, 1) := by decide +kernel
theorem dX4_power_4 : decode cX4_power 4 = .ok (.iload_n 3, 1) := by decide +kernel
theorem dX4_power_5 : decode cX4_power 5 = .ok (.iload_n 1, 1) := by decide +kernel
theorem dX4_power_6 : decode cX4_power 6 = .ok (.if_icmp .ge 13, 3) := by decide +kernel
theorem dX4_power_9 : decode cX4_power 9 = .ok (.iload_n 2, 1) := by decide +kernel
theorem dX4_power_10 : decode cX4_power 10 = .ok (.iload_n 0, 1) := by decide +kernel
theorem dX4_power_11 : decode cX4_power 11 = .ok (.imul, 1) := by decide +kernel
theorem dX4_power_12 : decode cX4_power 12 = .ok (.istore_n 2, 1) := by decide +kernel
theorem dX4_power_13 : decode cX4_power 13 = .ok (.iinc 3 1, 3) := by decide +kernel
theorem dX4_power_16 : decode cX4_power 16 = .ok (.goto (-12), 3) := by decide +kernel
theorem dX4_power_19 : decode cX4_power 19 = .ok (.iload_n 2, 1) := by decide +kernel
theorem dX4_power_20 : decode cX4_power 20 = .ok (.ireturn, 1) := by decide +kernel
theorem dX4_factorial_0 : decode cX4_factorial 0 = .ok (.iconst 1, 1) := by decide +kernel
theorem dX4_factorial_1 : decode cX4_factorial 1 = .ok (.istore_n 1, 1) := by decide +kernel
theorem dX4_factorial_2 : decode cX4_factorial 2 = .ok (.iconst 2, 1) := by decide +kernel
theorem dX4_factorial_3 : decode cX4_factorial 3 = .ok (.istore_n 2, 1) := by decide +kernel
theorem dX4_factorial_4 : decode cX4_factorial 4 = .ok (.iload_n 2, 1) := by decide +kernel
theorem dX4_factorial_5 : decode cX4_factorial 5 = .ok (.iload_n 0, 1) := by decide +kernel
theorem dX4_factorial_6 : decode cX4_factorial 6 = .ok (.if_icmp .gt 13, 3) := by decide +kernel
theorem dX4_factorial_9 : decode cX4_factorial 9 = .ok (.iload_n 1, 1) := by decide +kernel
theorem dX4_factorial_10 : decode cX4_factorial 10 = .ok (.iload_n 2, 1) := by decide +kernel
theorem dX4_factorial_11 : decode cX4_factorial 11 = .ok (.imul, 1) := by decide +kernel
theorem dX4_factorial_12 : decode cX4_factorial 12 = .ok (.istore_n 1, 1) := by decide +kernel
theorem dX4_factorial_13 : decode cX4_factorial 13 = .ok (.iinc 2 1, 3) := by decide +kernel
theorem dX4_factorial_16 : decode cX4_factorial 16 = .ok (.goto (-12), 3) := by decide +kernel
theorem dX4_factorial_19 : decode cX4_factorial 19 = .ok (.iload_n 1, 1) := by decide +kernel
theorem dX4_factorial_20 : decode cX4_factorial 20 = .ok (.ireturn, 1) := by decide +kernel
theorem dX4_partOfFraction_0 : decode cX4_partOfFraction 0 = .ok (.iload_n 0, 1) := by decide +kernel
theorem dX4_partOfFraction_1 : decode cX4_partOfFraction 1 = .ok (.invokestatic 280, 3) := by decide +kernel
theorem dX4_partOfFraction_4 : decode cX4_partOfFraction 4 = .ok (.iload_n 1, 1) := by decide +kernel
theorem dX4_partOfFraction_5 : decode cX4_partOfFraction 5 = .ok (.invokestatic 283, 3) := by decide +kernel
theorem dX4_partOfFraction_8 : decode cX4_partOfFraction 8 = .ok (.istore_n 3, 1) := by decide +kernel
theorem dX4_partOfFraction_9 : decode cX4_partOfFraction 9 = .ok (.iload_n 2, 1) := by decide +kernel
theorem dX4_partOfFraction_10 : decode cX4_partOfFraction 10 = .ok (.ifCond .eq 7, 3) := by decide +kernel
theorem dX4_partOfFraction_13 : decode cX4_partOfFraction 13 = .ok (.iload_n 0, 1) := by decide +kernel
theorem dX4_partOfFraction_14 : decode cX4_partOfFraction 14 = .ok (.goto 4, 3) := by decide +kernel
theorem dX4_partOfFraction_17 : decode cX4_partOfFraction 17 = .ok (.iload_n 1, 1) := by decide +kernel
theorem dX4_partOfFraction_18 : decode cX4_partOfFraction 18 = .ok (.iload_n 3, 1) := by decide +kernel
theorem dX4_partOfFraction_19 : decode cX4_partOfFraction 19 = .ok (.idiv, 1) := by decide +kernel
theorem dX4_partOfFraction_20 : decode cX4_partOfFraction 20 = .ok (.ireturn, 1) := by decide +kernel
theorem dX4_commonDivisor_0 : decode cX4_commonDivisor 0 = .ok (.iload_n 0, 1) := by decide +kernel
theorem dX4_commonDivisor_1 : decode cX4_commonDivisor 1 = .ok (.istore_n 2, 1) := by decide +kernel
theorem dX4_commonDivisor_2 : decode cX4_commonDivisor 2 = .ok (.iload_n 1, 1) := by decide +kernel
theorem dX4_commonDivisor_3 : decode cX4_commonDivisor 3 = .ok (.istore_n 3, 1) := by decide +kernel
theorem dX4_commonDivisor_4 : decode cX4_commonDivisor 4 = .ok (.iconst 0, 1) := by decide +kernel
theorem dX4_commonDivisor_5 : decode cX4_commonDivisor 5 = .ok (.istore 4, 2) := by decide +kernel
theorem dX4_commonDivisor_7 : decode cX4_commonDivisor 7 = .ok (.iload 4, 2) := by decide +kernel
theorem dX4_commonDivisor_9 : decode cX4_commonDivisor 9 = .ok (.bipush 64, 2) := by decide +kernel
theorem dX4_commonDivisor_11 : decode cX4_commonDivisor 11 = .ok (.if_icmp .ge 23, 3) := by decide +kernel
theorem dX4_commonDivisor_14 : decode cX4_commonDivisor 14 = .ok (.iload_n 3, 1) := by decide +kernel
theorem dX4_commonDivisor_15 : decode cX4_commonDivisor 15 = .ok (.ifCond .eq 19, 3) := by decide +kernel
theorem dX4_commonDivisor_18 : decode cX4_commonDivisor 18 = .ok (.iload_n 2, 1) := by decide +kernel
theorem dX4_commonDivisor_19 : decode cX4_commonDivisor 19 = .ok (.iload_n 3, 1) := by decide +kernel
theorem dX4_commonDivisor_20 : decode cX4_commonDivisor 20 = .ok (.irem, 1) := by decide +kernel
theorem dX4_commonDivisor_21 : decode cX4_commonDivisor 21 = .ok (.istore 5, 2) := by decide +kernel
theorem dX4_commonDivisor_23 : decode cX4_commonDivisor 23 = .ok (.iload_n 3, 1) := by decide +kernel
theorem dX4_commonDivisor_24 : decode cX4_commonDivisor 24 = .ok (.istore_n 2, 1) := by decide +kernel
theorem dX4_commonDivisor_25 : decode cX4_commonDivisor 25 = .ok (.iload 5, 2) := by decide +kernel
theorem dX4_commonDivisor_27 : decode cX4_commonDivisor 27 = .ok (.istore_n 3, 1) := by decide +kernel
theorem dX4_commonDivisor_28 : decode cX4_commonDivisor 28 = .ok (.iinc 4 1, 3) := by decide +kernel
theorem dX4_commonDivisor_31 : decode cX4_commonDivisor 31 = .ok (.goto (-24), 3) := by decide +kernel
theorem dX4_commonDivisor_34 : decode cX4_commonDivisor 34 = .ok (.iconst 1, 1) := by decide +kernel
theorem dX4_commonDivisor_35 : decode cX4_commonDivisor 35 = .ok (.iload_n 2, 1) := by decide +kernel
theorem dX4_commonDivisor_36 : decode cX4_commonDivisor 36 = .ok (.invokestatic 286, 3) := by decide +kernel
theorem dX4_commonDivisor_39 : decode cX4_commonDivisor 39 = .ok (.ireturn, 1) := by decide +kernel
end
section
theorem dX5_init_0 : decode cX5_init 0 = .ok (.aload_n 0, 1) := by decide +kernel
theorem dX5_init_1 : decode cX5_init 1 = .ok (.invokespecial 1, 3) := by decide +kernel
theorem dX5_init_4 : decode cX5_init 4 = .ok (.aload_n 0, 1) := by decide +kernel
theorem dX5_init_5 : decode cX5_init 5 = .ok (.bipush 6, 2) := by decide +kernel
theorem dX5_init_7 : decode cX5_init 7 = .ok (.newarray .int, 2) := by decide +kernel
theorem dX5_init_9 : decode cX5_init 9 = .ok (.putfield 7, 3) := by decide +kernel
theorem dX5_init_12 : decode cX5_init 12 = .ok (.aload_n 0, 1) := by decide +kernel
theorem dX5_init_13 : decode cX5_init 13 = .ok (.bipush 62, 2) := by decide +kernel
theorem dX5_init_15 : decode cX5_init 15 = .ok (.newarray .int, 2) := by decide +kernel
theorem dX5_init_17 : decode cX5_init 17 = .ok (.putfield 13, 3) := by decide +kernel
theorem dX5_init_20 : decode cX5_init 20 = .ok (.aload_n 0, 1) := by decide +kernel
theorem dX5_init_21 : decode cX5_init 21 = .ok (.bipush 24, 2) := by decide +kernel
theorem dX5_init_23 : decode cX5_init 23 = .ok (.newarray .int, 2) := by decide +kernel
theorem dX5_init_25 : decode cX5_init 25 = .ok (.putfield 16, 3) := by decide +kernel
theorem dX5_init_28 : decode cX5_init 28 = .ok (.aload_n 0, 1) := by decide +kernel
theorem dX5_init_29 : decode cX5_init 29 = .ok (.bipush 64, 2) := by decide +kernel
theorem dX5_init_31 : decode cX5_init 31 = .ok (.newarray .int, 2) := by decide +kernel
theorem dX5_init_33 : decode cX5_init 33 = .ok (.putfield 19, 3) := by decide +kernel
theorem dX5_init_36 : decode cX5_init 36 = .ok (.aload_n 0, 1) := by decide +kernel
theorem dX5_init_37 : decode cX5_init 37 = .ok (.bipush 6, 2) := by decide +kernel
theorem dX5_init_39 : decode cX5_init 39 = .ok (.newarray .int, 2) := by decide +kernel
theorem dX5_init_41 : decode cX5_init 41 = .ok (.putfield 22, 3) := by decide +kernel
theorem dX5_init_44 : decode cX5_init 44 = .ok (.aload_n 0, 1) := by decide +kernel
theorem dX5_init_45 : decode cX5_init 45 = .ok (.bipush 6, 2) := by decide +kernel
theorem dX5_init_47 : decode cX5_init 47 = .ok (.newarray .int, 2) := by decide +kernel
theorem dX5_init_49 : decode cX5_init 49 = .ok (.putfield 25, 3) := by decide +kernel
theorem dX5_init_52 : decode cX5_init 52 = .ok (.aload_n 0, 1) := by decide +kernel
theorem dX5_init_53 : decode cX5_init 53 = .ok (.sipush 434, 3) := by decide +kernel
theorem dX5_init_56 : decode cX5_init 56 = .ok (.newarray .int, 2) := by decide +kernel
theorem dX5_init_58 : decode cX5_init 58 = .ok (.putfield 28, 3) := by decide +kernel
theorem dX5_init_61 : decode cX5_init 61 = .ok (.aload_n 0, 1) := by decide +kernel
theorem dX5_init_62 : decode cX5_init 62 = .ok (.bipush 6, 2) := by decide +kernel
theorem dX5_init_64 : decode cX5_init 64 = .ok (.newarray .int, 2) := by decide +kernel
theorem dX5_init_66 : decode cX5_init 66 = .ok (.putfield 31, 3) := by decide +kernel
theorem dX5_init_69 : decode cX5_init 69 = .ok (.aload_n 0, 1) := by decide +kernel
theorem dX5_init_70 : decode cX5_init 70 = .ok (.bipush 6, 2) := by decide +kernel
theorem dX5_init_72 : decode cX5_init 72 = .ok (.newarray .int, 2) := by decide +kernel
theorem dX5_init_74 : decode cX5_init 74 = .ok (.putfield 34, 3) := by decide +kernel
theorem dX5_init_77 : decode cX5_init 77 = .ok (.aload_n 0, 1) := by decide +kernel
theorem dX5_init_78 : decode cX5_init 78 = .ok (.bipush 6, 2) := by decide +kernel
theorem dX5_init_80 : decode cX5_init 80 = .ok (.newarray .int, 2) := by decide +kernel
theorem dX5_init_82 : decode cX5_init 82 = .ok (.putfield 37, 3) := by decide +kernel
theorem dX5_init_85 : decode cX5_init 85 = .ok (.aload_n 0, 1) := by decide +kernel
theorem dX5_init_86 : decode cX5_init 86 = .ok (.iconst 2, 1) := by decide +kernel
theorem dX5_init_87 : decode cX5_init 87 = .ok (.newarray .boolean, 2) := by decide +kernel
theorem dX5_init_89 : decode cX5_init 89 = .ok (.putfield 40, 3) := by decide +kernel
theorem dX5_init_92 : decode cX5_init 92 = .ok (.aload_n 0, 1) := by decide +kernel
theorem dX5_init_93 : decode cX5_init 93 = .ok (.bipush 62, 2) := by decide +kernel
theorem dX5_init_95 : decode cX5_init 95 = .ok (.newarray .int, 2) := by decide +kernel
theorem dX5_init_97 : decode cX5_init 97 = .ok (.putfield 44, 3) := by decide +kernel
theorem dX5_init_100 : decode cX5_init 100 = .ok (.return_, 1) := by decide +kernel
theorem dX5_in_0 : decode cX5_in 0 = .ok (.lload_n 0, 1) := by decide +kernel
theorem dX5_in_1 : decode cX5_in 1 = .ok (.lload_n 2, 1) := by decide +kernel
theorem dX5_in_2 : decode cX5_in 2 = .ok (.lcmp, 1) := by decide +kernel
theorem dX5_in_3 : decode cX5_in 3 = .ok (.ifCond .lt 14, 3) := by decide +kernel
theorem dX5_in_6 : decode cX5_in 6 = .ok (.lload_n 0, 1) := by decide +kernel
theorem dX5_in_7 : decode cX5_in 7 = .ok (.lload 4, 2) := by decide +kernel
theorem dX5_in_9 : decode cX5_in 9 = .ok (.lcmp, 1) := by decide +kernel
theorem dX5_in_10 : decode cX5_in 10 = .ok (.ifCond .gt 7, 3) := by decide +kernel
theorem dX5_in_13 : decode cX5_in 13 = .ok (.iconst 1, 1) := by decide +kernel
theorem dX5_in_14 : decode cX5_in 14 = .ok (.goto 4, 3) := by decide +kernel
theorem dX5_in_17 : decode cX5_in 17 = .ok (.iconst 0, 1) := by decide +kernel
theorem dX5_in_18 : decode cX5_in 18 = .ok (.ireturn, 1) := by decide +kernel
theorem dX5_has_0 : decode cX5_has 0 = .ok (.iload_n 0, 1) := by decide +kernel
theorem dX5_has_1 : decode cX5_has 1 = .ok (.iload_n 1, 1) := by decide +kernel
theorem dX5_has_2 : decode cX5_has 2 = .ok (.ishr, 1) := by decide +kernel
theorem dX5_has_3 : decode cX5_has 3 = .ok (.iconst 1, 1) := by decide +kernel
theorem dX5_has_4 : decode cX5_has 4 = .ok (.iand, 1) := by decide +kernel
theorem dX5_has_5 : decode cX5_has 5 = .ok (.iconst 1, 1) := by decide +kernel
theorem dX5_has_6 : decode cX5_has 6 = .ok (.if_icmp .ne 7, 3) := by decide +kernel
theorem dX5_has_9 : decode cX5_has 9 = .ok (.iconst 1, 1) := by decide +kernel
theorem dX5_has_10 : decode cX5_has 10 = .ok (.goto 4, 3) := by decide +kernel
theorem dX5_has_13 : decode cX5_has 13 = .ok (.iconst 0, 1) := by decide +kernel
theorem dX5_has_14 : decode cX5_has 14 = .ok (.ireturn, 1) := by decide +kernel
theorem dX5_ones_0 : decode cX5_ones 0 = .ok (.iconst 0, 1) := by decide +kernel
theorem dX5_ones_1 : decode cX5_ones 1 = .ok (.istore_n 1, 1) := by decide +kernel
theorem dX5_ones_2 : decode cX5_ones 2 = .ok (.iconst 0, 1) := by decide +kernel
theorem dX5_ones_3 : decode cX5_ones 3 = .ok (.istore_n 2, 1) := by decide +kernel
theorem dX5_ones_4 : decode cX5_ones 4 = .ok (.iload_n 2, 1) := by decide +kernel
theorem dX5_ones_5 : decode cX5_ones 5 = .ok (.bipush 8, 2) := by decide +kernel
theorem dX5_ones_7 : decode cX5_ones 7 = .ok (.if_icmp .ge 17, 3) := by decide +kernel
theorem dX5_ones_10 : decode cX5_ones 10 = .ok (.iload_n 1, 1) := by decide +kernel
theorem dX5_ones_11 : decode cX5_ones 11 = .ok (.iload_n 0, 1) := by decide +kernel
theorem dX5_ones_12 : decode cX5_ones 12 = .ok (.iload_n 2, 1) := by decide +kernel
theorem dX5_ones_13 : decode cX5_ones 13 = .ok (.ishr, 1) := by decide +kernel
theorem dX5_ones_14 : decode cX5_ones 14 = .ok (.iconst 1, 1) := by decide +kernel
theorem dX5_ones_15 : decode cX5_ones 15 = .ok (.iand, 1) := by decide +kernel
theorem dX5_ones_16 : decode cX5_ones 16 = .ok (.iadd, 1) := by decide +kernel
theorem dX5_ones_17 : decode cX5_ones 17 = .ok (.istore_n 1, 1) := by decide +kernel
theorem dX5_ones_18 : decode cX5_ones 18 = .ok (.iinc 2 1, 3) := by decide +kernel
theorem dX5_ones_21 : decode cX5_ones 21 = .ok (.goto (-17), 3) := by decide +kernel
theorem dX5_ones_24 : decode cX5_ones 24 = .ok (.iload_n 1, 1) := by decide +kernel
theorem dX5_ones_25 : decode cX5_ones 25 = .ok (.ireturn, 1) := by decide +kernel
theorem dX5_write_0 : decode cX5_write 0 = .ok (.iload_n 1, 1) := by decide +kernel
theorem dX5_write_1 : decode cX5_write 1 = .ok (.i2l, 1) := by decide +kernel
theorem dX5_write_2 : decode cX5_write 2 = .ok (.lconst 0, 1) := by decide +kernel
theorem dX5_write_3 : decode cX5_write 3 = .ok (.ldc2_w 47, 3) := by decide +kernel
theorem dX5_write_6 : decode cX5_write 6 = .ok (.invokestatic 49, 3) := by decide +kernel
theorem dX5_write_9 : decode cX5_write 9 = .ok (.ifCond .ne 6, 3) := by decide +kernel
theorem dX5_write_12 : decode cX5_write 12 = .ok (.bipush (-2), 2) := by decide +kernel
theorem dX5_write_14 : decode cX5_write 14 = .ok (.ireturn, 1) := by decide +kernel
theorem dX5_write_15 : decode cX5_write 15 = .ok (.aload_n 0, 1) := by decide +kernel
theorem dX5_write_16 : decode cX5_write 16 = .ok (.getfield 53, 3) := by decide +kernel
theorem dX5_write_19 : decode cX5_write 19 = .ok (.bipush 64, 2) := by decide +kernel
theorem dX5_write_21 : decode cX5_write 21 = .ok (.if_icmp .ne 6, 3) := by decide +kernel
theorem dX5_write_24 : decode cX5_write 24 = .ok (.bipush (-4), 2) := by decide +kernel
theorem dX5_write_26 : decode cX5_write 26 = .ok (.ireturn, 1) := by decide +kernel
theorem dX5_write_27 : decode cX5_write 27 = .ok (.aload_n 0, 1) := by decide +kernel
theorem dX5_write_28 : decode cX5_write 28 = .ok (.getfield 19, 3) := by decide +kernel
theorem dX5_write_31 : decode cX5_write 31 = .ok (.aload_n 0, 1) := by decide +kernel
theorem dX5_write_32 : decode cX5_write 32 = .ok (.getfield 53, 3) := by decide +kernel
theorem dX5_write_35 : decode cX5_write 35 = .ok (.iload_n 1, 1) := by decide +kernel
theorem dX5_write_36 : decode cX5_write 36 = .ok (.iastore, 1) := by decide +kernel
theorem dX5_write_37 : decode cX5_write 37 = .ok (.aload_n 0, 1) := by decide +kernel
theorem dX5_write_38 : decode cX5_write 38 = .ok (.dup, 1) := by decide +kernel
theorem dX5_write_39 : decode cX5_write 39 = .ok (.getfield 53, 3) := by decide +kernel
theorem dX5_write_42 : decode cX5_write 42 = .ok (.iconst 1, 1) := by decide +kernel
theorem dX5_write_43 : decode cX5_write 43 = .ok (.iadd, 1) := by decide +kernel
theorem dX5_write_44 : decode cX5_write 44 = .ok (.putfield 53, 3) := by decide +kernel
theorem dX5_write_47 : decode cX5_write 47 = .ok (.aload_n 0, 1) := by decide +kernel
theorem dX5_write_48 : decode cX5_write 48 = .ok (.getfield 53, 3) := by decide +kernel
theorem dX5_write_51 : decode cX5_write 51 = .ok (.ireturn, 1) := by decide +kernel
theorem dX5_wipe_0 : decode cX5_wipe 0 = .ok (.aload_n 0, 1) := by decide +kernel
theorem dX5_wipe_1 : decode cX5_wipe 1 = .ok (.getfield 53, 3) := by decide +kernel
theorem dX5_wipe_4 : decode cX5_wipe 4 = .ok (.istore_n 1, 1) := by decide +kernel
theorem dX5_wipe_5 : decode cX5_wipe 5 = .ok (.aload_n 0, 1) := by decide +kernel
theorem dX5_wipe_6 : decode cX5_wipe 6 = .ok (.iconst 0, 1) := by decide +kernel
theorem dX5_wipe_7 : decode cX5_wipe 7 = .ok (.putfield 53, 3) := by decide +kernel
theorem dX5_wipe_10 : decode cX5_wipe 10 = .ok (.iload_n 1, 1) := by decide +kernel
theorem dX5_wipe_11 : decode cX5_wipe 11 = .ok (.ireturn, 1) := by decide +kernel
theorem dX5_deedOf_0 : decode cX5_deedOf 0 = .ok (.iload_n 0, 1) := by decide +kernel
theorem dX5_deedOf_1 : decode cX5_deedOf 1 = .ok (.bipush 108, 2) := by decide +kernel
theorem dX5_deedOf_3 : decode cX5_deedOf 3 = .ok (.if_icmp .ne 7, 3) := by decide +kernel
theorem dX5_deedOf_6 : decode cX5_deedOf 6 = .ok (.iconst 0, 1) := by decide +kernel
theorem dX5_deedOf_7 : decode cX5_deedOf 7 = .ok (.goto 25, 3) := by decide +kernel
theorem dX5_deedOf_10 : decode cX5_deedOf 10 = .ok (.iload_n 0, 1) := by decide +kernel
theorem dX5_deedOf_11 : decode cX5_deedOf 11 = .ok (.bipush 114, 2) := by decide +kernel
theorem dX5_deedOf_13 : decode cX5_deedOf 13 = .ok (.if_icmp .ne 7, 3) := by decide +kernel
theorem dX5_deedOf_16 : decode cX5_deedOf 16 = .ok (.iconst 1, 1) := by decide +kernel
theorem dX5_deedOf_17 : decode cX5_deedOf 17 = .ok (.goto 15, 3) := by decide +kernel
theorem dX5_deedOf_20 : decode cX5_deedOf 20 = .ok (.iload_n 0, 1) := by decide +kernel
theorem dX5_deedOf_21 : decode cX5_deedOf 21 = .ok (.bipush 109, 2) := by decide +kernel
theorem dX5_deedOf_23 : decode cX5_deedOf 23 = .ok (.if_icmp .ne 7, 3) := by decide +kernel
theorem dX5_deedOf_26 : decode cX5_deedOf 26 = .ok (.iconst 2, 1) := by decide +kernel
theorem dX5_deedOf_27 : decode cX5_deedOf 27 = .ok (.goto 5, 3) := by decide +kernel
theorem dX5_deedOf_30 : decode cX5_deedOf 30 = .ok (.bipush (-9), 2) := by decide +kernel
theorem dX5_deedOf_32 : decode cX5_deedOf 32 = .ok (.ireturn, 1) := by decide +kernel
theorem dX5_readText_0 : decode cX5_readText 0 = .ok (.aload_n 0, 1) := by decide +kernel
theorem dX5_readText_1 : decode cX5_readText 1 = .ok (.iconst 0, 1) := by decide +kernel
theorem dX5_readText_2 : decode cX5_readText 2 = .ok (.putfield 57, 3) := by decide +kernel
theorem dX5_readText_5 : decode cX5_readText 5 = .ok (.aload_n 0, 1) := by decide +kernel
theorem dX5_readText_6 : decode cX5_readText 6 = .ok (.getfield 53, 3) := by decide +kernel
theorem dX5_readText_9 : decode cX5_readText 9 = .ok (.ifCond .eq 14, 3) := by decide +kernel
theorem dX5_readText_12 : decode cX5_readText 12 = .ok (.aload_n 0, 1) := by decide +kernel
theorem dX5_readText_13 : decode cX5_readText 13 = .ok (.getfield 19, 3) := by decide +kernel
theorem dX5_readText_16 : decode cX5_readText 16 = .ok (.iconst 0, 1) := by decide +kernel
theorem dX5_readText_17 : decode cX5_readText 17 = .ok (.iaload, 1) := by decide +kernel
theorem dX5_readText_18 : decode cX5_readText 18 = .ok (.bipush 65, 2) := by decide +kernel
theorem dX5_readText_20 : decode cX5_readText 20 = .ok (.if_icmp .eq 5, 3) := by decide +kernel
theorem dX5_readText_23 : decode cX5_readText 23 = .ok (.iconst 0, 1) := by decide +kernel
theorem dX5_readText_24 : decode cX5_readText 24 = .ok (.ireturn, 1) := by decide +kernel
theorem dX5_readText_25 : decode cX5_readText 25 = .ok (.iconst 1, 1) := by decide +kernel
theorem dX5_readText_26 : decode cX5_readText 26 = .ok (.istore_n 1, 1) := by decide +kernel
theorem dX5_readText_27 : decode cX5_readText 27 = .ok (.iload_n 1, 1) := by decide +kernel
theorem dX5_readText_28 : decode cX5_readText 28 = .ok (.aload_n 0, 1) := by decide +kernel
theorem dX5_readText_29 : decode cX5_readText 29 = .ok (.getfield 53, 3) := by decide +kernel
theorem dX5_readText_32 : decode cX5_readText 32 = .ok (.if_icmp .ge 164, 3) := by decide +kernel
theorem dX5_readText_35 : decode cX5_readText 35 = .ok (.iload_n 1, 1) := by decide +kernel
theorem dX5_readText_36 : decode cX5_readText 36 = .ok (.iconst 1, 1) := by decide +kernel
theorem dX5_readText_37 : decode cX5_readText 37 = .ok (.isub, 1) := by decide +kernel
theorem dX5_readText_38 : decode cX5_readText 38 = .ok (.iconst 5, 1) := by decide +kernel
theorem dX5_readText_39 : decode cX5_readText 39 = .ok (.irem, 1) := by decide +kernel
theorem dX5_readText_40 : decode cX5_readText 40 = .ok (.istore_n 2, 1) := by decide +kernel
theorem dX5_readText_41 : decode cX5_readText 41 = .ok (.aload_n 0, 1) := by decide +kernel
theorem dX5_readText_42 : decode cX5_readText 42 = .ok (.getfield 19, 3) := by decide +kernel
theorem dX5_readText_45 : decode cX5_readText 45 = .ok (.iload_n 1, 1) := by decide +kernel
theorem dX5_readText_46 : decode cX5_readText 46 = .ok (.iaload, 1) := by decide +kernel
theorem dX5_readText_47 : decode cX5_readText 47 = .ok (.istore_n 3, 1) := by decide +kernel
theorem dX5_readText_48 : decode cX5_readText 48 = .ok (.iload_n 2, 1) := by decide +kernel
theorem dX5_readText_49 : decode cX5_readText 49 = .ok (.ifCond .ne 26, 3) := by decide +kernel
theorem dX5_readText_52 : decode cX5_readText 52 = .ok (.iload_n 3, 1) := by decide +kernel
theorem dX5_readText_53 : decode cX5_readText 53 = .ok (.bipush 72, 2) := by decide +kernel
theorem dX5_readText_55 : decode cX5_readText 55 = .ok (.if_icmp .ne 16, 3) := by decide +kernel
theorem dX5_readText_58 : decode cX5_readText 58 = .ok (.aload_n 0, 1) := by decide +kernel
theorem dX5_readText_59 : decode cX5_readText 59 = .ok (.getfield 57, 3) := by decide +kernel
theorem dX5_readText_62 : decode cX5_readText 62 = .ok (.bipush 6, 2) := by decide +kernel
theorem dX5_readText_64 : decode cX5_readText 64 = .ok (.if_icmp .ge 7, 3) := by decide +kernel
theorem dX5_readText_67 : decode cX5_readText 67 = .ok (.iconst 1, 1) := by decide +kernel
theorem dX5_readText_68 : decode cX5_readText 68 = .ok (.goto 59, 3) := by decide +kernel
theorem dX5_readText_71 : decode cX5_readText 71 = .ok (.iconst 0, 1) := by decide +kernel
theorem dX5_readText_72 : decode cX5_readText 72 = .ok (.goto 55, 3) := by decide +kernel
theorem dX5_readText_75 : decode cX5_readText 75 = .ok (.iload_n 2, 1) := by decide +kernel
theorem dX5_readText_76 : decode cX5_readText 76 = .ok (.iconst 1, 1) := by decide +kernel
theorem dX5_readText_77 : decode cX5_readText 77 = .ok (.if_icmp .ne 17, 3) := by decide +kernel
theorem dX5_readText_80 : decode cX5_readText 80 = .ok (.iload_n 3, 1) := by decide +kernel
theorem dX5_readText_81 : decode cX5_readText 81 = .ok (.i2l, 1) := by decide +kernel
theorem dX5_readText_82 : decode cX5_readText 82 = .ok (.ldc2_w 60, 3) := by decide +kernel
theorem dX5_readText_85 : decode cX5_readText 85 = .ok (.ldc2_w 62, 3) := by decide +kernel
theorem dX5_readText_88 : decode cX5_readText 88 = .ok (.invokestatic 49, 3) := by decide +kernel
theorem dX5_readText_91 : decode cX5_readText 91 = .ok (.goto 36, 3) := by decide +kernel
theorem dX5_readText_94 : decode cX5_readText 94 = .ok (.iload_n 2, 1) := by decide +kernel
theorem dX5_readText_95 : decode cX5_readText 95 = .ok (.iconst 4, 1) := by decide +kernel
theorem dX5_readText_96 : decode cX5_readText 96 = .ok (.if_icmp .ge 17, 3) := by decide +kernel
theorem dX5_readText_99 : decode cX5_readText 99 = .ok (.iload_n 3, 1) := by decide +kernel
theorem dX5_readText_100 : decode cX5_readText 100 = .ok (.i2l, 1) := by decide +kernel
theorem dX5_readText_101 : decode cX5_readText 101 = .ok (.ldc2_w 60, 3) := by decide +kernel
theorem dX5_readText_104 : decode cX5_readText 104 = .ok (.ldc2_w 64, 3) := by decide +kernel
theorem dX5_readText_107 : decode cX5_readText 107 = .ok (.invokestatic 49, 3) := by decide +kernel
theorem dX5_readText_110 : decode cX5_readText 110 = .ok (.goto 17, 3) := by decide +kernel
theorem dX5_readText_113 : decode cX5_readText 113 = .ok (.iload_n 3, 1) := by decide +kernel
theorem dX5_readText_114 : decode cX5_readText 114 = .ok (.invokestatic 66, 3) := by decide +kernel
theorem dX5_readText_117 : decode cX5_readText 117 = .ok (.bipush (-9), 2) := by decide +kernel
theorem dX5_readText_119 : decode cX5_readText 119 = .ok (.if_icmp .eq 7, 3) := by decide +kernel
theorem dX5_readText_122 : decode cX5_readText 122 = .ok (.iconst 1, 1) := by decide +kernel
theorem dX5_readText_123 : decode cX5_readText 123 = .ok (.goto 4, 3) := by decide +kernel
theorem dX5_readText_126 : decode cX5_readText 126 = .ok (.iconst 0, 1) := by decide +kernel
theorem dX5_readText_127 : decode cX5_readText 127 = .ok (.istore 4, 2) := by decide +kernel
theorem dX5_readText_129 : decode cX5_readText 129 = .ok (.iload 4, 2) := by decide +kernel
theorem dX5_readText_131 : decode cX5_readText 131 = .ok (.ifCond .ne 5, 3) := by decide +kernel
theorem dX5_readText_134 : decode cX5_readText 134 = .ok (.iload_n 1, 1) := by decide +kernel
theorem dX5_readText_135 : decode cX5_readText 135 = .ok (.ireturn, 1) := by decide +kernel
theorem dX5_readText_136 : decode cX5_readText 136 = .ok (.iload_n 2, 1) := by decide +kernel
theorem dX5_readText_137 : decode cX5_readText 137 = .ok (.ifCond .le 34, 3) := by decide +kernel
theorem dX5_readText_140 : decode cX5_readText 140 = .ok (.aload_n 0, 1) := by decide +kernel
theorem dX5_readText_141 : decode cX5_readText 141 = .ok (.getfield 16, 3) := by decide +kernel
theorem dX5_readText_144 : decode cX5_readText 144 = .ok (.iconst 4, 1) := by decide +kernel
theorem dX5_readText_145 : decode cX5_readText 145 = .ok (.aload_n 0, 1) := by decide +kernel
theorem dX5_readText_146 : decode cX5_readText 146 = .ok (.getfield 57, 3) := by decide +kernel
theorem dX5_readText_149 : decode cX5_readText 149 = .ok (.imul, 1) := by decide +kernel
theorem dX5_readText_150 : decode cX5_readText 150 = .ok (.iload_n 2, 1) := by decide +kernel
theorem dX5_readText_151 : decode cX5_readText 151 = .ok (.iadd, 1) := by decide +kernel
theorem dX5_readText_152 : decode cX5_readText 152 = .ok (.iconst 1, 1) := by decide +kernel
theorem dX5_readText_153 : decode cX5_readText 153 = .ok (.isub, 1) := by decide +kernel
theorem dX5_readText_154 : decode cX5_readText 154 = .ok (.iload_n 2, 1) := by decide +kernel
theorem dX5_readText_155 : decode cX5_readText 155 = .ok (.iconst 4, 1) := by decide +kernel
theorem dX5_readText_156 : decode cX5_readText 156 = .ok (.if_icmp .ne 10, 3) := by decide +kernel
theorem dX5_readText_159 : decode cX5_readText 159 = .ok (.iload_n 3, 1) := by decide +kernel
theorem dX5_readText_160 : decode cX5_readText 160 = .ok (.invokestatic 66, 3) := by decide +kernel
theorem dX5_readText_163 : decode cX5_readText 163 = .ok (.goto 7, 3) := by decide +kernel
theorem dX5_readText_166 : decode cX5_readText 166 = .ok (.iload_n 3, 1) := by decide +kernel
theorem dX5_readText_167 : decode cX5_readText 167 = .ok (.bipush 48, 2) := by decide +kernel
theorem dX5_readText_169 : decode cX5_readText 169 = .ok (.isub, 1) := by decide +kernel
theorem dX5_readText_170 : decode cX5_readText 170 = .ok (.iastore, 1) := by decide +kernel
theorem dX5_readText_171 : decode cX5_readText 171 = .ok (.aload_n 0, 1) := by decide +kernel
theorem dX5_readText_172 : decode cX5_readText 172 = .ok (.dup, 1) := by decide +kernel
theorem dX5_readText_173 : decode cX5_readText 173 = .ok (.getfield 57, 3) := by decide +kernel
theorem dX5_readText_176 : decode cX5_readText 176 = .ok (.iload_n 2, 1) := by decide +kernel
theorem dX5_readText_177 : decode cX5_readText 177 = .ok (.iconst 4, 1) := by decide +kernel
theorem dX5_readText_178 : decode cX5_readText 178 = .ok (.if_icmp .ne 7, 3) := by decide +kernel
theorem dX5_readText_181 : decode cX5_readText 181 = .ok (.iconst 1, 1) := by decide +kernel
theorem dX5_readText_182 : decode cX5_readText 182 = .ok (.goto 4, 3) := by decide +kernel
theorem dX5_readText_185 : decode cX5_readText 185 = .ok (.iconst 0, 1) := by decide +kernel
theorem dX5_readText_186 : decode cX5_readText 186 = .ok (.iadd, 1) := by decide +kernel
theorem dX5_readText_187 : decode cX5_readText 187 = .ok (.putfield 57, 3) := by decide +kernel
theorem dX5_readText_190 : decode cX5_readText 190 = .ok (.iinc 1 1, 3) := by decide +kernel
theorem dX5_readText_193 : decode cX5_readText 193 = .ok (.goto (-166), 3) := by decide +kernel
theorem dX5_readText_196 : decode cX5_readText 196 = .ok (.aload_n 0, 1) := by decide +kernel
theorem dX5_readText_197 : decode cX5_readText 197 = .ok (.getfield 53, 3) := by decide +kernel
theorem dX5_readText_200 : decode cX5_readText 200 = .ok (.iconst 1, 1) := by decide +kernel
theorem dX5_readText_201 : decode cX5_readText 201 = .ok (.isub, 1) := by decide +kernel
theorem dX5_readText_202 : decode cX5_readText 202 = .ok (.iconst 5, 1) := by decide +kernel
theorem dX5_readText_203 : decode cX5_readText 203 = .ok (.irem, 1) := by decide +kernel
theorem dX5_readText_204 : decode cX5_readText 204 = .ok (.ifCond .ne 8, 3) := by decide +kernel
theorem dX5_readText_207 : decode cX5_readText 207 = .ok (.bipush (-9), 2) := by decide +kernel
theorem dX5_readText_209 : decode cX5_readText 209 = .ok (.goto 7, 3) := by decide +kernel
theorem dX5_readText_212 : decode cX5_readText 212 = .ok (.aload_n 0, 1) := by decide +kernel
theorem dX5_readText_213 : decode cX5_readText 213 = .ok (.getfield 53, 3) := by decide +kernel
theorem dX5_readText_216 : decode cX5_readText 216 = .ok (.ireturn, 1) := by decide +kernel
theorem dX5_fault_0 : decode cX5_fault 0 = .ok (.aload_n 0, 1) := by decide +kernel
theorem dX5_fault_1 : decode cX5_fault 1 = .ok (.invokevirtual 70, 3) := by decide +kernel
theorem dX5_fault_4 : decode cX5_fault 4 = .ok (.ireturn, 1) := by decide +kernel
theorem dX5_lane_0 : decode cX5_lane 0 = .ok (.aload_n 0, 1) := by decide +kernel
theorem dX5_lane_1 : decode cX5_lane 1 = .ok (.invokevirtual 70, 3) := by decide +kernel
theorem dX5_lane_4 : decode cX5_lane 4 = .ok (.bipush (-9), 2) := by decide +kernel
theorem dX5_lane_6 : decode cX5_lane 6 = .ok (.if_icmp .eq 6, 3) := by decide +kernel
theorem dX5_lane_9 : decode cX5_lane 9 = .ok (.bipush (-3), 2) := by decide +kernel
theorem dX5_lane_11 : decode cX5_lane 11 = .ok (.ireturn, 1) := by decide +kernel
theorem dX5_lane_12 : decode cX5_lane 12 = .ok (.aload_n 0, 1) := by decide +kernel
theorem dX5_lane_13 : decode cX5_lane 13 = .ok (.aload_n 0, 1) := by decide +kernel
theorem dX5_lane_14 : decode cX5_lane 14 = .ok (.getfield 57, 3) := by decide +kernel
theorem dX5_lane_17 : decode cX5_lane 17 = .ok (.putfield 74, 3) := by decide +kernel
theorem dX5_lane_20 : decode cX5_lane 20 = .ok (.iconst 0, 1) := by decide +kernel
theorem dX5_lane_21 : decode cX5_lane 21 = .ok (.istore_n 1, 1) := by decide +kernel
theorem dX5_lane_22 : decode cX5_lane 22 = .ok (.iload_n 1, 1) := by decide +kernel
theorem dX5_lane_23 : decode cX5_lane 23 = .ok (.bipush 31, 2) := by decide +kernel
theorem dX5_lane_25 : decode cX5_lane 25 = .ok (.if_icmp .ge 16, 3) := by decide +kernel
theorem dX5_lane_28 : decode cX5_lane 28 = .ok (.aload_n 0, 1) := by decide +kernel
theorem dX5_lane_29 : decode cX5_lane 29 = .ok (.getfield 13, 3) := by decide +kernel
theorem dX5_lane_32 : decode cX5_lane 32 = .ok (.iload_n 1, 1) := by decide +kernel
theorem dX5_lane_33 : decode cX5_lane 33 = .ok (.iconst 0, 1) := by decide +kernel
theorem dX5_lane_34 : decode cX5_lane 34 = .ok (.iastore, 1) := by decide +kernel
theorem dX5_lane_35 : decode cX5_lane 35 = .ok (.iinc 1 1, 3) := by decide +kernel
theorem dX5_lane_38 : decode cX5_lane 38 = .ok (.goto (-16), 3) := by decide +kernel
theorem dX5_lane_41 : decode cX5_lane 41 = .ok (.iconst 0, 1) := by decide +kernel
theorem dX5_lane_42 : decode cX5_lane 42 = .ok (.istore_n 1, 1) := by decide +kernel
theorem dX5_lane_43 : decode cX5_lane 43 = .ok (.iload_n 1, 1) := by decide +kernel
theorem dX5_lane_44 : decode cX5_lane 44 = .ok (.aload_n 0, 1) := by decide +kernel
theorem dX5_lane_45 : decode cX5_lane 45 = .ok (.getfield 74, 3) := by decide +kernel
theorem dX5_lane_48 : decode cX5_lane 48 = .ok (.if_icmp .ge 140, 3) := by decide +kernel
theorem dX5_lane_51 : decode cX5_lane 51 = .ok (.aload_n 0, 1) := by decide +kernel
theorem dX5_lane_52 : decode cX5_lane 52 = .ok (.getfield 13, 3) := by decide +kernel
theorem dX5_lane_55 : decode cX5_lane 55 = .ok (.iconst 0, 1) := by decide +kernel
theorem dX5_lane_56 : decode cX5_lane 56 = .ok (.iload_n 1, 1) := by decide +kernel
theorem dX5_lane_57 : decode cX5_lane 57 = .ok (.iadd, 1) := by decide +kernel
theorem dX5_lane_58 : decode cX5_lane 58 = .ok (.aload_n 0, 1) := by decide +kernel
theorem dX5_lane_59 : decode cX5_lane 59 = .ok (.getfield 16, 3) := by decide +kernel
theorem dX5_lane_62 : decode cX5_lane 62 = .ok (.iconst 4, 1) := by decide +kernel
theorem dX5_lane_63 : decode cX5_lane 63 = .ok (.iload_n 1, 1) := by decide +kernel
theorem dX5_lane_64 : decode cX5_lane 64 = .ok (.imul, 1) := by decide +kernel
theorem dX5_lane_65 : decode cX5_lane 65 = .ok (.iaload, 1) := by decide +kernel
theorem dX5_lane_66 : decode cX5_lane 66 = .ok (.iastore, 1) := by decide +kernel
theorem dX5_lane_67 : decode cX5_lane 67 = .ok (.aload_n 0, 1) := by decide +kernel
theorem dX5_lane_68 : decode cX5_lane 68 = .ok (.getfield 13, 3) := by decide +kernel
theorem dX5_lane_71 : decode cX5_lane 71 = .ok (.bipush 6, 2) := by decide +kernel
theorem dX5_lane_73 : decode cX5_lane 73 = .ok (.iload_n 1, 1) := by decide +kernel
theorem dX5_lane_74 : decode cX5_lane 74 = .ok (.iadd, 1) := by decide +kernel
theorem dX5_lane_75 : decode cX5_lane 75 = .ok (.aload_n 0, 1) := by decide +kernel
theorem dX5_lane_76 : decode cX5_lane 76 = .ok (.getfield 16, 3) := by decide +kernel
theorem dX5_lane_79 : decode cX5_lane 79 = .ok (.iconst 4, 1) := by decide +kernel
theorem dX5_lane_80 : decode cX5_lane 80 = .ok (.iload_n 1, 1) := by decide +kernel
theorem dX5_lane_81 : decode cX5_lane 81 = .ok (.imul, 1) := by decide +kernel
theorem dX5_lane_82 : decode cX5_lane 82 = .ok (.iconst 1, 1) := by decide +kernel
theorem dX5_lane_83 : decode cX5_lane 83 = .ok (.iadd, 1) := by decide +kernel
theorem dX5_lane_84 : decode cX5_lane 84 = .ok (.iaload, 1) := by decide +kernel
theorem dX5_lane_85 : decode cX5_lane 85 = .ok (.iastore, 1) := by decide +kernel
theorem dX5_lane_86 : decode cX5_lane 86 = .ok (.aload_n 0, 1) := by decide +kernel
theorem dX5_lane_87 : decode cX5_lane 87 = .ok (.getfield 7, 3) := by decide +kernel
theorem dX5_lane_90 : decode cX5_lane 90 = .ok (.iload_n 1, 1) := by decide +kernel
theorem dX5_lane_91 : decode cX5_lane 91 = .ok (.aload_n 0, 1) := by decide +kernel
theorem dX5_lane_92 : decode cX5_lane 92 = .ok (.getfield 16, 3) := by decide +kernel
theorem dX5_lane_95 : decode cX5_lane 95 = .ok (.iconst 4, 1) := by decide +kernel
theorem dX5_lane_96 : decode cX5_lane 96 = .ok (.iload_n 1, 1) := by decide +kernel
theorem dX5_lane_97 : decode cX5_lane 97 = .ok (.imul, 1) := by decide +kernel
theorem dX5_lane_98 : decode cX5_lane 98 = .ok (.iconst 2, 1) := by decide +kernel
theorem dX5_lane_99 : decode cX5_lane 99 = .ok (.iadd, 1) := by decide +kernel
theorem dX5_lane_100 : decode cX5_lane 100 = .ok (.iaload, 1) := by decide +kernel
theorem dX5_lane_101 : decode cX5_lane 101 = .ok (.iastore, 1) := by decide +kernel
theorem dX5_lane_102 : decode cX5_lane 102 = .ok (.aload_n 0, 1) := by decide +kernel
theorem dX5_lane_103 : decode cX5_lane 103 = .ok (.getfield 13, 3) := by decide +kernel
theorem dX5_lane_106 : decode cX5_lane 106 = .ok (.bipush 12, 2) := by decide +kernel
theorem dX5_lane_108 : decode cX5_lane 108 = .ok (.iload_n 1, 1) := by decide +kernel
theorem dX5_lane_109 : decode cX5_lane 109 = .ok (.iadd, 1) := by decide +kernel
theorem dX5_lane_110 : decode cX5_lane 110 = .ok (.aload_n 0, 1) := by decide +kernel
theorem dX5_lane_111 : decode cX5_lane 111 = .ok (.getfield 16, 3) := by decide +kernel
theorem dX5_lane_114 : decode cX5_lane 114 = .ok (.iconst 4, 1) := by decide +kernel
theorem dX5_lane_115 : decode cX5_lane 115 = .ok (.iload_n 1, 1) := by decide +kernel
theorem dX5_lane_116 : decode cX5_lane 116 = .ok (.imul, 1) := by decide +kernel
theorem dX5_lane_117 : decode cX5_lane 117 = .ok (.iconst 3, 1) := by decide +kernel
theorem dX5_lane_118 : decode cX5_lane 118 = .ok (.iadd, 1) := by decide +kernel
theorem dX5_lane_119 : decode cX5_lane 119 = .ok (.iaload, 1) := by decide +kernel
theorem dX5_lane_120 : decode cX5_lane 120 = .ok (.iastore, 1) := by decide +kernel
theorem dX5_lane_121 : decode cX5_lane 121 = .ok (.aload_n 0, 1) := by decide +kernel
theorem dX5_lane_122 : decode cX5_lane 122 = .ok (.getfield 13, 3) := by decide +kernel
theorem dX5_lane_125 : decode cX5_lane 125 = .ok (.bipush 18, 2) := by decide +kernel
theorem dX5_lane_127 : decode cX5_lane 127 = .ok (.iload_n 1, 1) := by decide +kernel
theorem dX5_lane_128 : decode cX5_lane 128 = .ok (.iadd, 1) := by decide +kernel
theorem dX5_lane_129 : decode cX5_lane 129 = .ok (.aload_n 0, 1) := by decide +kernel
theorem dX5_lane_130 : decode cX5_lane 130 = .ok (.getfield 16, 3) := by decide +kernel
theorem dX5_lane_133 : decode cX5_lane 133 = .ok (.iconst 4, 1) := by decide +kernel
theorem dX5_lane_134 : decode cX5_lane 134 = .ok (.iload_n 1, 1) := by decide +kernel
theorem dX5_lane_135 : decode cX5_lane 135 = .ok (.imul, 1) := by decide +kernel
theorem dX5_lane_136 : decode cX5_lane 136 = .ok (.iaload, 1) := by decide +kernel
theorem dX5_lane_137 : decode cX5_lane 137 = .ok (.iconst 4, 1) := by decide +kernel
theorem dX5_lane_138 : decode cX5_lane 138 = .ok (.if_icmp .ne 7, 3) := by decide +kernel
theorem dX5_lane_141 : decode cX5_lane 141 = .ok (.iconst 0, 1) := by decide +kernel
theorem dX5_lane_142 : decode cX5_lane 142 = .ok (.goto 4, 3) := by decide +kernel
theorem dX5_lane_145 : decode cX5_lane 145 = .ok (.iconst 1, 1) := by decide +kernel
theorem dX5_lane_146 : decode cX5_lane 146 = .ok (.iastore, 1) := by decide +kernel
theorem dX5_lane_147 : decode cX5_lane 147 = .ok (.aload_n 0, 1) := by decide +kernel
theorem dX5_lane_148 : decode cX5_lane 148 = .ok (.getfield 13, 3) := by decide +kernel
theorem dX5_lane_151 : decode cX5_lane 151 = .ok (.bipush 24, 2) := by decide +kernel
theorem dX5_lane_153 : decode cX5_lane 153 = .ok (.iload_n 1, 1) := by decide +kernel
theorem dX5_lane_154 : decode cX5_lane 154 = .ok (.iadd, 1) := by decide +kernel
theorem dX5_lane_155 : decode cX5_lane 155 = .ok (.aload_n 0, 1) := by decide +kernel
theorem dX5_lane_156 : decode cX5_lane 156 = .ok (.getfield 16, 3) := by decide +kernel
theorem dX5_lane_159 : decode cX5_lane 159 = .ok (.iconst 4, 1) := by decide +kernel
theorem dX5_lane_160 : decode cX5_lane 160 = .ok (.iload_n 1, 1) := by decide +kernel
theorem dX5_lane_161 : decode cX5_lane 161 = .ok (.imul, 1) := by decide +kernel
theorem dX5_lane_162 : decode cX5_lane 162 = .ok (.iaload, 1) := by decide +kernel
theorem dX5_lane_163 : decode cX5_lane 163 = .ok (.iconst 4, 1) := by decide +kernel
theorem dX5_lane_164 : decode cX5_lane 164 = .ok (.if_icmp .ne 7, 3) := by decide +kernel
theorem dX5_lane_167 : decode cX5_lane 167 = .ok (.iconst 0, 1) := by decide +kernel
theorem dX5_lane_168 : decode cX5_lane 168 = .ok (.goto 13, 3) := by decide +kernel
theorem dX5_lane_171 : decode cX5_lane 171 = .ok (.aload_n 0, 1) := by decide +kernel
theorem dX5_lane_172 : decode cX5_lane 172 = .ok (.getfield 16, 3) := by decide +kernel
theorem dX5_lane_175 : decode cX5_lane 175 = .ok (.iconst 4, 1) := by decide +kernel
theorem dX5_lane_176 : decode cX5_lane 176 = .ok (.iload_n 1, 1) := by decide +kernel
theorem dX5_lane_177 : decode cX5_lane 177 = .ok (.imul, 1) := by decide +kernel
theorem dX5_lane_178 : decode cX5_lane 178 = .ok (.iconst 1, 1) := by decide +kernel
theorem dX5_lane_179 : decode cX5_lane 179 = .ok (.iadd, 1) := by decide +kernel
theorem dX5_lane_180 : decode cX5_lane 180 = .ok (.iaload, 1) := by decide +kernel
theorem dX5_lane_181 : decode cX5_lane 181 = .ok (.iastore, 1) := by decide +kernel
theorem dX5_lane_182 : decode cX5_lane 182 = .ok (.iinc 1 1, 3) := by decide +kernel
theorem dX5_lane_185 : decode cX5_lane 185 = .ok (.goto (-142), 3) := by decide +kernel
theorem dX5_lane_188 : decode cX5_lane 188 = .ok (.aload_n 0, 1) := by decide +kernel
theorem dX5_lane_189 : decode cX5_lane 189 = .ok (.iconst 0, 1) := by decide +kernel
theorem dX5_lane_190 : decode cX5_lane 190 = .ok (.putfield 77, 3) := by decide +kernel
theorem dX5_lane_193 : decode cX5_lane 193 = .ok (.aload_n 0, 1) := by decide +kernel
theorem dX5_lane_194 : decode cX5_lane 194 = .ok (.getfield 40, 3) := by decide +kernel
theorem dX5_lane_197 : decode cX5_lane 197 = .ok (.iconst 0, 1) := by decide +kernel
theorem dX5_lane_198 : decode cX5_lane 198 = .ok (.iconst 0, 1) := by decide +kernel
theorem dX5_lane_199 : decode cX5_lane 199 = .ok (.bastore, 1) := by decide +kernel
theorem dX5_lane_200 : decode cX5_lane 200 = .ok (.aload_n 0, 1) := by decide +kernel
theorem dX5_lane_201 : decode cX5_lane 201 = .ok (.getfield 40, 3) := by decide +kernel
theorem dX5_lane_204 : decode cX5_lane 204 = .ok (.iconst 1, 1) := by decide +kernel
theorem dX5_lane_205 : decode cX5_lane 205 = .ok (.iconst 0, 1) := by decide +kernel
theorem dX5_lane_206 : decode cX5_lane 206 = .ok (.bastore, 1) := by decide +kernel
theorem dX5_lane_207 : decode cX5_lane 207 = .ok (.aload_n 0, 1) := by decide +kernel
theorem dX5_lane_208 : decode cX5_lane 208 = .ok (.getfield 74, 3) := by decide +kernel
theorem dX5_lane_211 : decode cX5_lane 211 = .ok (.ireturn, 1) := by decide +kernel
theorem dX5_isHouse_0 : decode cX5_isHouse 0 = .ok (.iload_n 1, 1) := by decide +kernel
theorem dX5_isHouse_1 : decode cX5_isHouse 1 = .ok (.i2l, 1) := by decide +kernel
theorem dX5_isHouse_2 : decode cX5_isHouse 2 = .ok (.lconst 0, 1) := by decide +kernel
theorem dX5_isHouse_3 : decode cX5_isHouse 3 = .ok (.aload_n 0, 1) := by decide +kernel
theorem dX5_isHouse_4 : decode cX5_isHouse 4 = .ok (.getfield 74, 3) := by decide +kernel
theorem dX5_isHouse_7 : decode cX5_isHouse 7 = .ok (.iconst 1, 1) := by decide +kernel
theorem dX5_isHouse_8 : decode cX5_isHouse 8 = .ok (.isub, 1) := by decide +kernel
theorem dX5_isHouse_9 : decode cX5_isHouse 9 = .ok (.i2l, 1) := by decide +kernel
theorem dX5_isHouse_10 : decode cX5_isHouse 10 = .ok (.invokestatic 49, 3) := by decide +kernel
theorem dX5_isHouse_13 : decode cX5_isHouse 13 = .ok (.ireturn, 1) := by decide +kernel
theorem dX5_at_0 : decode cX5_at 0 = .ok (.aload_n 0, 1) := by decide +kernel
theorem dX5_at_1 : decode cX5_at 1 = .ok (.getfield 13, 3) := by decide +kernel
theorem dX5_at_4 : decode cX5_at 4 = .ok (.bipush 31, 2) := by decide +kernel
theorem dX5_at_6 : decode cX5_at 6 = .ok (.iload_n 1, 1) := by decide +kernel
theorem dX5_at_7 : decode cX5_at 7 = .ok (.imul, 1) := by decide +kernel
theorem dX5_at_8 : decode cX5_at 8 = .ok (.iload_n 2, 1) := by decide +kernel
theorem dX5_at_9 : decode cX5_at 9 = .ok (.iadd, 1) := by decide +kernel
theorem dX5_at_10 : decode cX5_at 10 = .ok (.iload_n 3, 1) := by decide +kernel
theorem dX5_at_11 : decode cX5_at 11 = .ok (.iadd, 1) := by decide +kernel
theorem dX5_at_12 : decode cX5_at 12 = .ok (.iaload, 1) := by decide +kernel
theorem dX5_at_13 : decode cX5_at 13 = .ok (.ireturn, 1) := by decide +kernel
theorem dX5_givesOf_0 : decode cX5_givesOf 0 = .ok (.aload_n 0, 1) := by decide +kernel
theorem dX5_givesOf_1 : decode cX5_givesOf 1 = .ok (.iload_n 1, 1) := by decide +kernel
theorem dX5_givesOf_2 : decode cX5_givesOf 2 = .ok (.bipush 24, 2) := by decide +kernel
theorem dX5_givesOf_4 : decode cX5_givesOf 4 = .ok (.iload_n 2, 1) := by decide +kernel
theorem dX5_givesOf_5 : decode cX5_givesOf 5 = .ok (.invokevirtual 80, 3) := by decide +kernel
theorem dX5_givesOf_8 : decode cX5_givesOf 8 = .ok (.istore_n 3, 1) := by decide +kernel
theorem dX5_givesOf_9 : decode cX5_givesOf 9 = .ok (.aload_n 0, 1) := by decide +kernel
theorem dX5_givesOf_10 : decode cX5_givesOf 10 = .ok (.iload_n 1, 1) := by decide +kernel
theorem dX5_givesOf_11 : decode cX5_givesOf 11 = .ok (.iconst 0, 1) := by decide +kernel
theorem dX5_givesOf_12 : decode cX5_givesOf 12 = .ok (.iload_n 2, 1) := by decide +kernel
theorem dX5_givesOf_13 : decode cX5_givesOf 13 = .ok (.invokevirtual 80, 3) := by decide +kernel
theorem dX5_givesOf_16 : decode cX5_givesOf 16 = .ok (.istore 4, 2) := by decide +kernel
theorem dX5_givesOf_18 : decode cX5_givesOf 18 = .ok (.aload_n 0, 1) := by decide +kernel
theorem dX5_givesOf_19 : decode cX5_givesOf 19 = .ok (.iload_n 1, 1) := by decide +kernel
theorem dX5_givesOf_20 : decode cX5_givesOf 20 = .ok (.bipush 18, 2) := by decide +kernel
theorem dX5_givesOf_22 : decode cX5_givesOf 22 = .ok (.iload_n 2, 1) := by decide +kernel
theorem dX5_givesOf_23 : decode cX5_givesOf 23 = .ok (.invokevirtual 80, 3) := by decide +kernel
theorem dX5_givesOf_26 : decode cX5_givesOf 26 = .ok (.ifCond .eq 9, 3) := by decide +kernel
theorem dX5_givesOf_29 : decode cX5_givesOf 29 = .ok (.iload 4, 2) := by decide +kernel
theorem dX5_givesOf_31 : decode cX5_givesOf 31 = .ok (.iconst 2, 1) := by decide +kernel
theorem dX5_givesOf_32 : decode cX5_givesOf 32 = .ok (.if_icmp .ne 5, 3) := by decide +kernel
theorem dX5_givesOf_35 : decode cX5_givesOf 35 = .ok (.iconst 0, 1) := by decide +kernel
theorem dX5_givesOf_36 : decode cX5_givesOf 36 = .ok (.ireturn, 1) := by decide +kernel
theorem dX5_givesOf_37 : decode cX5_givesOf 37 = .ok (.iload 4, 2) := by decide +kernel
theorem dX5_givesOf_39 : decode cX5_givesOf 39 = .ok (.iconst 1, 1) := by decide +kernel
theorem dX5_givesOf_40 : decode cX5_givesOf 40 = .ok (.if_icmp .ne 16, 3) := by decide +kernel
theorem dX5_givesOf_43 : decode cX5_givesOf 43 = .ok (.iload_n 3, 1) := by decide +kernel
theorem dX5_givesOf_44 : decode cX5_givesOf 44 = .ok (.iconst 3, 1) := by decide +kernel
theorem dX5_givesOf_45 : decode cX5_givesOf 45 = .ok (.if_icmp .ge 7, 3) := by decide +kernel
theorem dX5_givesOf_48 : decode cX5_givesOf 48 = .ok (.iconst 0, 1) := by decide +kernel
theorem dX5_givesOf_49 : decode cX5_givesOf 49 = .ok (.goto 6, 3) := by decide +kernel
theorem dX5_givesOf_52 : decode cX5_givesOf 52 = .ok (.iload_n 3, 1) := by decide +kernel
theorem dX5_givesOf_53 : decode cX5_givesOf 53 = .ok (.iconst 3, 1) := by decide +kernel
theorem dX5_givesOf_54 : decode cX5_givesOf 54 = .ok (.isub, 1) := by decide +kernel
theorem dX5_givesOf_55 : decode cX5_givesOf 55 = .ok (.ireturn, 1) := by decide +kernel
theorem dX5_givesOf_56 : decode cX5_givesOf 56 = .ok (.iload 4, 2) := by decide +kernel
theorem dX5_givesOf_58 : decode cX5_givesOf 58 = .ok (.iconst 3, 1) := by decide +kernel
theorem dX5_givesOf_59 : decode cX5_givesOf 59 = .ok (.if_icmp .ne 11, 3) := by decide +kernel
theorem dX5_givesOf_62 : decode cX5_givesOf 62 = .ok (.iload_n 3, 1) := by decide +kernel
theorem dX5_givesOf_63 : decode cX5_givesOf 63 = .ok (.iconst 1, 1) := by decide +kernel
theorem dX5_givesOf_64 : decode cX5_givesOf 64 = .ok (.iadd, 1) := by decide +kernel
theorem dX5_givesOf_65 : decode cX5_givesOf 65 = .ok (.iconst 2, 1) := by decide +kernel
theorem dX5_givesOf_66 : decode cX5_givesOf 66 = .ok (.idiv, 1) := by decide +kernel
theorem dX5_givesOf_67 : decode cX5_givesOf 67 = .ok (.goto 6, 3) := by decide +kernel
theorem dX5_givesOf_70 : decode cX5_givesOf 70 = .ok (.iload_n 3, 1) := by decide +kernel
theorem dX5_givesOf_71 : decode cX5_givesOf 71 = .ok (.iconst 2, 1) := by decide +kernel
theorem dX5_givesOf_72 : decode cX5_givesOf 72 = .ok (.idiv, 1) := by decide +kernel
theorem dX5_givesOf_73 : decode cX5_givesOf 73 = .ok (.ireturn, 1) := by decide +kernel
theorem dX5_groundOf_0 : decode cX5_groundOf 0 = .ok (.aload_n 0, 1) := by decide +kernel
theorem dX5_groundOf_1 : decode cX5_groundOf 1 = .ok (.iload_n 1, 1) := by decide +kernel
theorem dX5_groundOf_2 : decode cX5_groundOf 2 = .ok (.bipush 18, 2) := by decide +kernel
theorem dX5_groundOf_4 : decode cX5_groundOf 4 = .ok (.iload_n 2, 1) := by decide +kernel
theorem dX5_groundOf_5 : decode cX5_groundOf 5 = .ok (.invokevirtual 80, 3) := by decide +kernel
theorem dX5_groundOf_8 : decode cX5_groundOf 8 = .ok (.ifCond .ne 7, 3) := by decide +kernel
theorem dX5_groundOf_11 : decode cX5_groundOf 11 = .ok (.iconst 0, 1) := by decide +kernel
theorem dX5_groundOf_12 : decode cX5_groundOf 12 = .ok (.goto 18, 3) := by decide +kernel
theorem dX5_groundOf_15 : decode cX5_groundOf 15 = .ok (.aload_n 0, 1) := by decide +kernel
theorem dX5_groundOf_16 : decode cX5_groundOf 16 = .ok (.iload_n 1, 1) := by decide +kernel
theorem dX5_groundOf_17 : decode cX5_groundOf 17 = .ok (.bipush 24, 2) := by decide +kernel
theorem dX5_groundOf_19 : decode cX5_groundOf 19 = .ok (.iload_n 2, 1) := by decide +kernel
theorem dX5_groundOf_20 : decode cX5_groundOf 20 = .ok (.invokevirtual 80, 3) := by decide +kernel
theorem dX5_groundOf_23 : decode cX5_groundOf 23 = .ok (.aload_n 0, 1) := by decide +kernel
theorem dX5_groundOf_24 : decode cX5_groundOf 24 = .ok (.iload_n 1, 1) := by decide +kernel
theorem dX5_groundOf_25 : decode cX5_groundOf 25 = .ok (.iload_n 2, 1) := by decide +kernel
theorem dX5_groundOf_26 : decode cX5_groundOf 26 = .ok (.invokevirtual 84, 3) := by decide +kernel
theorem dX5_groundOf_29 : decode cX5_groundOf 29 = .ok (.isub, 1) := by decide +kernel
theorem dX5_groundOf_30 : decode cX5_groundOf 30 = .ok (.ireturn, 1) := by decide +kernel
theorem dX5_leansOn_0 : decode cX5_leansOn 0 = .ok (.aload_n 0, 1) := by decide +kernel
theorem dX5_leansOn_1 : decode cX5_leansOn 1 = .ok (.iload_n 1, 1) := by decide +kernel
theorem dX5_leansOn_2 : decode cX5_leansOn 2 = .ok (.bipush 12, 2) := by decide +kernel
theorem dX5_leansOn_4 : decode cX5_leansOn 4 = .ok (.iload_n 2, 1) := by decide +kernel
theorem dX5_leansOn_5 : decode cX5_leansOn 5 = .ok (.invokevirtual 80, 3) := by decide +kernel
theorem dX5_leansOn_8 : decode cX5_leansOn 8 = .ok (.istore_n 3, 1) := by decide +kernel
theorem dX5_leansOn_9 : decode cX5_leansOn 9 = .ok (.iload_n 3, 1) := by decide +kernel
theorem dX5_leansOn_10 : decode cX5_leansOn 10 = .ok (.ifCond .ne 9, 3) := by decide +kernel
theorem dX5_leansOn_13 : decode cX5_leansOn 13 = .ok (.iload_n 2, 1) := by decide +kernel
theorem dX5_leansOn_14 : decode cX5_leansOn 14 = .ok (.iconst 1, 1) := by decide +kernel
theorem dX5_leansOn_15 : decode cX5_leansOn 15 = .ok (.isub, 1) := by decide +kernel
theorem dX5_leansOn_16 : decode cX5_leansOn 16 = .ok (.goto 16, 3) := by decide +kernel
theorem dX5_leansOn_19 : decode cX5_leansOn 19 = .ok (.iload_n 3, 1) := by decide +kernel
theorem dX5_leansOn_20 : decode cX5_leansOn 20 = .ok (.iconst 1, 1) := by decide +kernel
theorem dX5_leansOn_21 : decode cX5_leansOn 21 = .ok (.if_icmp .ne 9, 3) := by decide +kernel
theorem dX5_leansOn_24 : decode cX5_leansOn 24 = .ok (.iload_n 2, 1) := by decide +kernel
theorem dX5_leansOn_25 : decode cX5_leansOn 25 = .ok (.iconst 1, 1) := by decide +kernel
theorem dX5_leansOn_26 : decode cX5_leansOn 26 = .ok (.iadd, 1) := by decide +kernel
theorem dX5_leansOn_27 : decode cX5_leansOn 27 = .ok (.goto 5, 3) := by decide +kernel
theorem dX5_leansOn_30 : decode cX5_leansOn 30 = .ok (.bipush (-9), 2) := by decide +kernel
theorem dX5_leansOn_32 : decode cX5_leansOn 32 = .ok (.ireturn, 1) := by decide +kernel
theorem dX5_isHeld_0 : decode cX5_isHeld 0 = .ok (.aload_n 0, 1) := by decide +kernel
theorem dX5_isHeld_1 : decode cX5_isHeld 1 = .ok (.iload_n 1, 1) := by decide +kernel
theorem dX5_isHeld_2 : decode cX5_isHeld 2 = .ok (.bipush 12, 2) := by decide +kernel
theorem dX5_isHeld_4 : decode cX5_isHeld 4 = .ok (.iload_n 2, 1) := by decide +kernel
theorem dX5_isHeld_5 : decode cX5_isHeld 5 = .ok (.invokevirtual 80, 3) := by decide +kernel
theorem dX5_isHeld_8 : decode cX5_isHeld 8 = .ok (.iconst 2, 1) := by decide +kernel
theorem dX5_isHeld_9 : decode cX5_isHeld 9 = .ok (.if_icmp .ne 5, 3) := by decide +kernel
theorem dX5_isHeld_12 : decode cX5_isHeld 12 = .ok (.iconst 1, 1) := by decide +kernel
theorem dX5_isHeld_13 : decode cX5_isHeld 13 = .ok (.ireturn, 1) := by decide +kernel
theorem dX5_isHeld_14 : decode cX5_isHeld 14 = .ok (.aload_n 0, 1) := by decide +kernel
theorem dX5_isHeld_15 : decode cX5_isHeld 15 = .ok (.iload_n 1, 1) := by decide +kernel
theorem dX5_isHeld_16 : decode cX5_isHeld 16 = .ok (.iload_n 2, 1) := by decide +kernel
theorem dX5_isHeld_17 : decode cX5_isHeld 17 = .ok (.invokevirtual 88, 3) := by decide +kernel
theorem dX5_isHeld_20 : decode cX5_isHeld 20 = .ok (.istore_n 3, 1) := by decide +kernel
theorem dX5_isHeld_21 : decode cX5_isHeld 21 = .ok (.aload_n 0, 1) := by decide +kernel
theorem dX5_isHeld_22 : decode cX5_isHeld 22 = .ok (.iload_n 3, 1) := by decide +kernel
theorem dX5_isHeld_23 : decode cX5_isHeld 23 = .ok (.invokevirtual 91, 3) := by decide +kernel
theorem dX5_isHeld_26 : decode cX5_isHeld 26 = .ok (.ifCond .eq 19, 3) := by decide +kernel
theorem dX5_isHeld_29 : decode cX5_isHeld 29 = .ok (.aload_n 0, 1) := by decide +kernel
theorem dX5_isHeld_30 : decode cX5_isHeld 30 = .ok (.iload_n 1, 1) := by decide +kernel
theorem dX5_isHeld_31 : decode cX5_isHeld 31 = .ok (.bipush 18, 2) := by decide +kernel
theorem dX5_isHeld_33 : decode cX5_isHeld 33 = .ok (.iload_n 3, 1) := by decide +kernel
theorem dX5_isHeld_34 : decode cX5_isHeld 34 = .ok (.invokevirtual 80, 3) := by decide +kernel
theorem dX5_isHeld_37 : decode cX5_isHeld 37 = .ok (.iconst 1, 1) := by decide +kernel
theorem dX5_isHeld_38 : decode cX5_isHeld 38 = .ok (.if_icmp .ne 7, 3) := by decide +kernel
theorem dX5_isHeld_41 : decode cX5_isHeld 41 = .ok (.iconst 1, 1) := by decide +kernel
theorem dX5_isHeld_42 : decode cX5_isHeld 42 = .ok (.goto 4, 3) := by decide +kernel
theorem dX5_isHeld_45 : decode cX5_isHeld 45 = .ok (.iconst 0, 1) := by decide +kernel
theorem dX5_isHeld_46 : decode cX5_isHeld 46 = .ok (.ireturn, 1) := by decide +kernel
theorem dX5_hourOn_0 : decode cX5_hourOn 0 = .ok (.bipush 31, 2) := by decide +kernel
theorem dX5_hourOn_2 : decode cX5_hourOn 2 = .ok (.iload_n 1, 1) := by decide +kernel
theorem dX5_hourOn_3 : decode cX5_hourOn 3 = .ok (.imul, 1) := by decide +kernel
theorem dX5_hourOn_4 : decode cX5_hourOn 4 = .ok (.istore_n 2, 1) := by decide +kernel
theorem dX5_hourOn_5 : decode cX5_hourOn 5 = .ok (.iconst 0, 1) := by decide +kernel
theorem dX5_hourOn_6 : decode cX5_hourOn 6 = .ok (.istore_n 3, 1) := by decide +kernel
theorem dX5_hourOn_7 : decode cX5_hourOn 7 = .ok (.iload_n 3, 1) := by decide +kernel
theorem dX5_hourOn_8 : decode cX5_hourOn 8 = .ok (.aload_n 0, 1) := by decide +kernel
theorem dX5_hourOn_9 : decode cX5_hourOn 9 = .ok (.getfield 74, 3) := by decide +kernel
theorem dX5_hourOn_12 : decode cX5_hourOn 12 = .ok (.if_icmp .ge 78, 3) := by decide +kernel
theorem dX5_hourOn_15 : decode cX5_hourOn 15 = .ok (.aload_n 0, 1) := by decide +kernel
theorem dX5_hourOn_16 : decode cX5_hourOn 16 = .ok (.getfield 22, 3) := by decide +kernel
theorem dX5_hourOn_19 : decode cX5_hourOn 19 = .ok (.iload_n 3, 1) := by decide +kernel
theorem dX5_hourOn_20 : decode cX5_hourOn 20 = .ok (.aload_n 0, 1) := by decide +kernel
theorem dX5_hourOn_21 : decode cX5_hourOn 21 = .ok (.iload_n 1, 1) := by decide +kernel
theorem dX5_hourOn_22 : decode cX5_hourOn 22 = .ok (.bipush 6, 2) := by decide +kernel
theorem dX5_hourOn_24 : decode cX5_hourOn 24 = .ok (.iload_n 3, 1) := by decide +kernel
theorem dX5_hourOn_25 : decode cX5_hourOn 25 = .ok (.invokevirtual 80, 3) := by decide +kernel
theorem dX5_hourOn_28 : decode cX5_hourOn 28 = .ok (.iastore, 1) := by decide +kernel
theorem dX5_hourOn_29 : decode cX5_hourOn 29 = .ok (.iconst 0, 1) := by decide +kernel
theorem dX5_hourOn_30 : decode cX5_hourOn 30 = .ok (.istore 4, 2) := by decide +kernel
theorem dX5_hourOn_32 : decode cX5_hourOn 32 = .ok (.iload 4, 2) := by decide +kernel
theorem dX5_hourOn_34 : decode cX5_hourOn 34 = .ok (.aload_n 0, 1) := by decide +kernel
theorem dX5_hourOn_35 : decode cX5_hourOn 35 = .ok (.getfield 74, 3) := by decide +kernel
theorem dX5_hourOn_38 : decode cX5_hourOn 38 = .ok (.if_icmp .ge 46, 3) := by decide +kernel
theorem dX5_hourOn_41 : decode cX5_hourOn 41 = .ok (.aload_n 0, 1) := by decide +kernel
theorem dX5_hourOn_42 : decode cX5_hourOn 42 = .ok (.getfield 22, 3) := by decide +kernel
theorem dX5_hourOn_45 : decode cX5_hourOn 45 = .ok (.iload_n 3, 1) := by decide +kernel
theorem dX5_hourOn_46 : decode cX5_hourOn 46 = .ok (.dup2, 1) := by decide +kernel
theorem dX5_hourOn_47 : decode cX5_hourOn 47 = .ok (.iaload, 1) := by decide +kernel
theorem dX5_hourOn_48 : decode cX5_hourOn 48 = .ok (.iload 4, 2) := by decide +kernel
theorem dX5_hourOn_50 : decode cX5_hourOn 50 = .ok (.iload_n 3, 1) := by decide +kernel
theorem dX5_hourOn_51 : decode cX5_hourOn 51 = .ok (.if_icmp .eq 24, 3) := by decide +kernel
theorem dX5_hourOn_54 : decode cX5_hourOn 54 = .ok (.aload_n 0, 1) := by decide +kernel
theorem dX5_hourOn_55 : decode cX5_hourOn 55 = .ok (.iload_n 1, 1) := by decide +kernel
theorem dX5_hourOn_56 : decode cX5_hourOn 56 = .ok (.iload 4, 2) := by decide +kernel
theorem dX5_hourOn_58 : decode cX5_hourOn 58 = .ok (.invokevirtual 88, 3) := by decide +kernel
theorem dX5_hourOn_61 : decode cX5_hourOn 61 = .ok (.iload_n 3, 1) := by decide +kernel
theorem dX5_hourOn_62 : decode cX5_hourOn 62 = .ok (.if_icmp .ne 13, 3) := by decide +kernel
theorem dX5_hourOn_65 : decode cX5_hourOn 65 = .ok (.aload_n 0, 1) := by decide +kernel
theorem dX5_hourOn_66 : decode cX5_hourOn 66 = .ok (.iload_n 1, 1) := by decide +kernel
theorem dX5_hourOn_67 : decode cX5_hourOn 67 = .ok (.iload 4, 2) := by decide +kernel
theorem dX5_hourOn_69 : decode cX5_hourOn 69 = .ok (.invokevirtual 84, 3) := by decide +kernel
theorem dX5_hourOn_72 : decode cX5_hourOn 72 = .ok (.goto 4, 3) := by decide +kernel
theorem dX5_hourOn_75 : decode cX5_hourOn 75 = .ok (.iconst 0, 1) := by decide +kernel
theorem dX5_hourOn_76 : decode cX5_hourOn 76 = .ok (.iadd, 1) := by decide +kernel
theorem dX5_hourOn_77 : decode cX5_hourOn 77 = .ok (.iastore, 1) := by decide +kernel
theorem dX5_hourOn_78 : decode cX5_hourOn 78 = .ok (.iinc 4 1, 3) := by decide +kernel
theorem dX5_hourOn_81 : decode cX5_hourOn 81 = .ok (.goto (-49), 3) := by decide +kernel
theorem dX5_hourOn_84 : decode cX5_hourOn 84 = .ok (.iinc 3 1, 3) := by decide +kernel
theorem dX5_hourOn_87 : decode cX5_hourOn 87 = .ok (.goto (-80), 3) := by decide +kernel
theorem dX5_hourOn_90 : decode cX5_hourOn 90 = .ok (.iconst 0, 1) := by decide +kernel
theorem dX5_hourOn_91 : decode cX5_hourOn 91 = .ok (.istore_n 3, 1) := by decide +kernel
theorem dX5_hourOn_92 : decode cX5_hourOn 92 = .ok (.iload_n 3, 1) := by decide +kernel
theorem dX5_hourOn_93 : decode cX5_hourOn 93 = .ok (.aload_n 0, 1) := by decide +kernel
theorem dX5_hourOn_94 : decode cX5_hourOn 94 = .ok (.getfield 74, 3) := by decide +kernel
theorem dX5_hourOn_97 : decode cX5_hourOn 97 = .ok (.if_icmp .ge 42, 3) := by decide +kernel
theorem dX5_hourOn_100 : decode cX5_hourOn 100 = .ok (.aload_n 0, 1) := by decide +kernel
theorem dX5_hourOn_101 : decode cX5_hourOn 101 = .ok (.getfield 13, 3) := by decide +kernel
theorem dX5_hourOn_104 : decode cX5_hourOn 104 = .ok (.iload_n 2, 1) := by decide +kernel
theorem dX5_hourOn_105 : decode cX5_hourOn 105 = .ok (.bipush 24, 2) := by decide +kernel
theorem dX5_hourOn_107 : decode cX5_hourOn 107 = .ok (.iadd, 1) := by decide +kernel
theorem dX5_hourOn_108 : decode cX5_hourOn 108 = .ok (.iload_n 3, 1) := by decide +kernel
theorem dX5_hourOn_109 : decode cX5_hourOn 109 = .ok (.iadd, 1) := by decide +kernel
theorem dX5_hourOn_110 : decode cX5_hourOn 110 = .ok (.aload_n 0, 1) := by decide +kernel
theorem dX5_hourOn_111 : decode cX5_hourOn 111 = .ok (.iload_n 1, 1) := by decide +kernel
theorem dX5_hourOn_112 : decode cX5_hourOn 112 = .ok (.bipush 18, 2) := by decide +kernel
theorem dX5_hourOn_114 : decode cX5_hourOn 114 = .ok (.iload_n 3, 1) := by decide +kernel
theorem dX5_hourOn_115 : decode cX5_hourOn 115 = .ok (.invokevirtual 80, 3) := by decide +kernel
theorem dX5_hourOn_118 : decode cX5_hourOn 118 = .ok (.iconst 1, 1) := by decide +kernel
theorem dX5_hourOn_119 : decode cX5_hourOn 119 = .ok (.if_icmp .ne 12, 3) := by decide +kernel
theorem dX5_hourOn_122 : decode cX5_hourOn 122 = .ok (.aload_n 0, 1) := by decide +kernel
theorem dX5_hourOn_123 : decode cX5_hourOn 123 = .ok (.getfield 22, 3) := by decide +kernel
theorem dX5_hourOn_126 : decode cX5_hourOn 126 = .ok (.iload_n 3, 1) := by decide +kernel
theorem dX5_hourOn_127 : decode cX5_hourOn 127 = .ok (.iaload, 1) := by decide +kernel
theorem dX5_hourOn_128 : decode cX5_hourOn 128 = .ok (.goto 4, 3) := by decide +kernel
theorem dX5_hourOn_131 : decode cX5_hourOn 131 = .ok (.iconst 0, 1) := by decide +kernel
theorem dX5_hourOn_132 : decode cX5_hourOn 132 = .ok (.iastore, 1) := by decide +kernel
theorem dX5_hourOn_133 : decode cX5_hourOn 133 = .ok (.iinc 3 1, 3) := by decide +kernel
theorem dX5_hourOn_136 : decode cX5_hourOn 136 = .ok (.goto (-44), 3) := by decide +kernel
theorem dX5_hourOn_139 : decode cX5_hourOn 139 = .ok (.iconst 0, 1) := by decide +kernel
theorem dX5_hourOn_140 : decode cX5_hourOn 140 = .ok (.istore_n 3, 1) := by decide +kernel
theorem dX5_hourOn_141 : decode cX5_hourOn 141 = .ok (.iconst 0, 1) := by decide +kernel
theorem dX5_hourOn_142 : decode cX5_hourOn 142 = .ok (.istore 4, 2) := by decide +kernel
theorem dX5_hourOn_144 : decode cX5_hourOn 144 = .ok (.iload 4, 2) := by decide +kernel
theorem dX5_hourOn_146 : decode cX5_hourOn 146 = .ok (.aload_n 0, 1) := by decide +kernel
theorem dX5_hourOn_147 : decode cX5_hourOn 147 = .ok (.getfield 74, 3) := by decide +kernel
theorem dX5_hourOn_150 : decode cX5_hourOn 150 = .ok (.if_icmp .ge 98, 3) := by decide +kernel
theorem dX5_hourOn_153 : decode cX5_hourOn 153 = .ok (.aload_n 0, 1) := by decide +kernel
theorem dX5_hourOn_154 : decode cX5_hourOn 154 = .ok (.iload_n 1, 1) := by decide +kernel
theorem dX5_hourOn_155 : decode cX5_hourOn 155 = .ok (.iconst 0, 1) := by decide +kernel
theorem dX5_hourOn_156 : decode cX5_hourOn 156 = .ok (.iload 4, 2) := by decide +kernel
theorem dX5_hourOn_158 : decode cX5_hourOn 158 = .ok (.invokevirtual 80, 3) := by decide +kernel
theorem dX5_hourOn_161 : decode cX5_hourOn 161 = .ok (.iconst 2, 1) := by decide +kernel
theorem dX5_hourOn_162 : decode cX5_hourOn 162 = .ok (.if_icmp .eq 17, 3) := by decide +kernel
theorem dX5_hourOn_165 : decode cX5_hourOn 165 = .ok (.aload_n 0, 1) := by decide +kernel
theorem dX5_hourOn_166 : decode cX5_hourOn 166 = .ok (.iload_n 1, 1) := by decide +kernel
theorem dX5_hourOn_167 : decode cX5_hourOn 167 = .ok (.iload 4, 2) := by decide +kernel
theorem dX5_hourOn_169 : decode cX5_hourOn 169 = .ok (.invokevirtual 95, 3) := by decide +kernel
theorem dX5_hourOn_172 : decode cX5_hourOn 172 = .ok (.ifCond .ne 7, 3) := by decide +kernel
theorem dX5_hourOn_175 : decode cX5_hourOn 175 = .ok (.iconst 1, 1) := by decide +kernel
theorem dX5_hourOn_176 : decode cX5_hourOn 176 = .ok (.goto 4, 3) := by decide +kernel
theorem dX5_hourOn_179 : decode cX5_hourOn 179 = .ok (.iconst 0, 1) := by decide +kernel
theorem dX5_hourOn_180 : decode cX5_hourOn 180 = .ok (.istore 5, 2) := by decide +kernel
theorem dX5_hourOn_182 : decode cX5_hourOn 182 = .ok (.aload_n 0, 1) := by decide +kernel
theorem dX5_hourOn_183 : decode cX5_hourOn 183 = .ok (.iload_n 1, 1) := by decide +kernel
theorem dX5_hourOn_184 : decode cX5_hourOn 184 = .ok (.iload 4, 2) := by decide +kernel
theorem dX5_hourOn_186 : decode cX5_hourOn 186 = .ok (.invokevirtual 99, 3) := by decide +kernel
theorem dX5_hourOn_189 : decode cX5_hourOn 189 = .ok (.iconst 3, 1) := by decide +kernel
theorem dX5_hourOn_190 : decode cX5_hourOn 190 = .ok (.aload_n 0, 1) := by decide +kernel
theorem dX5_hourOn_191 : decode cX5_hourOn 191 = .ok (.getfield 7, 3) := by decide +kernel
theorem dX5_hourOn_194 : decode cX5_hourOn 194 = .ok (.iload 4, 2) := by decide +kernel
theorem dX5_hourOn_196 : decode cX5_hourOn 196 = .ok (.iaload, 1) := by decide +kernel
theorem dX5_hourOn_197 : decode cX5_hourOn 197 = .ok (.imul, 1) := by decide +kernel
theorem dX5_hourOn_198 : decode cX5_hourOn 198 = .ok (.if_icmp .le 7, 3) := by decide +kernel
theorem dX5_hourOn_201 : decode cX5_hourOn 201 = .ok (.iconst 1, 1) := by decide +kernel
theorem dX5_hourOn_202 : decode cX5_hourOn 202 = .ok (.goto 4, 3) := by decide +kernel
theorem dX5_hourOn_205 : decode cX5_hourOn 205 = .ok (.iconst 0, 1) := by decide +kernel
theorem dX5_hourOn_206 : decode cX5_hourOn 206 = .ok (.istore 6, 2) := by decide +kernel
theorem dX5_hourOn_208 : decode cX5_hourOn 208 = .ok (.iload_n 3, 1) := by decide +kernel
theorem dX5_hourOn_209 : decode cX5_hourOn 209 = .ok (.aload_n 0, 1) := by decide +kernel
theorem dX5_hourOn_210 : decode cX5_hourOn 210 = .ok (.iload_n 1, 1) := by decide +kernel
theorem dX5_hourOn_211 : decode cX5_hourOn 211 = .ok (.bipush 18, 2) := by decide +kernel
theorem dX5_hourOn_213 : decode cX5_hourOn 213 = .ok (.iload 4, 2) := by decide +kernel
theorem dX5_hourOn_215 : decode cX5_hourOn 215 = .ok (.invokevirtual 80, 3) := by decide +kernel
theorem dX5_hourOn_218 : decode cX5_hourOn 218 = .ok (.iconst 1, 1) := by decide +kernel
theorem dX5_hourOn_219 : decode cX5_hourOn 219 = .ok (.if_icmp .ne 20, 3) := by decide +kernel
theorem dX5_hourOn_222 : decode cX5_hourOn 222 = .ok (.iload 5, 2) := by decide +kernel
theorem dX5_hourOn_224 : decode cX5_hourOn 224 = .ok (.ifCond .ne 8, 3) := by decide +kernel
theorem dX5_hourOn_227 : decode cX5_hourOn 227 = .ok (.iload 6, 2) := by decide +kernel
theorem dX5_hourOn_229 : decode cX5_hourOn 229 = .ok (.ifCond .eq 10, 3) := by decide +kernel
theorem dX5_hourOn_232 : decode cX5_hourOn 232 = .ok (.iconst 1, 1) := by decide +kernel
theorem dX5_hourOn_233 : decode cX5_hourOn 233 = .ok (.iload 4, 2) := by decide +kernel
theorem dX5_hourOn_235 : decode cX5_hourOn 235 = .ok (.ishl, 1) := by decide +kernel
theorem dX5_hourOn_236 : decode cX5_hourOn 236 = .ok (.goto 4, 3) := by decide +kernel
theorem dX5_hourOn_239 : decode cX5_hourOn 239 = .ok (.iconst 0, 1) := by decide +kernel
theorem dX5_hourOn_240 : decode cX5_hourOn 240 = .ok (.ior, 1) := by decide +kernel
theorem dX5_hourOn_241 : decode cX5_hourOn 241 = .ok (.istore_n 3, 1) := by decide +kernel
theorem dX5_hourOn_242 : decode cX5_hourOn 242 = .ok (.iinc 4 1, 3) := by decide +kernel
theorem dX5_hourOn_245 : decode cX5_hourOn 245 = .ok (.goto (-101), 3) := by decide +kernel
theorem dX5_hourOn_248 : decode cX5_hourOn 248 = .ok (.iconst 0, 1) := by decide +kernel
theorem dX5_hourOn_249 : decode cX5_hourOn 249 = .ok (.istore 4, 2) := by decide +kernel
theorem dX5_hourOn_251 : decode cX5_hourOn 251 = .ok (.iload 4, 2) := by decide +kernel
theorem dX5_hourOn_253 : decode cX5_hourOn 253 = .ok (.aload_n 0, 1) := by decide +kernel
theorem dX5_hourOn_254 : decode cX5_hourOn 254 = .ok (.getfield 74, 3) := by decide +kernel
theorem dX5_hourOn_257 : decode cX5_hourOn 257 = .ok (.if_icmp .ge 89, 3) := by decide +kernel
theorem dX5_hourOn_260 : decode cX5_hourOn 260 = .ok (.aload_n 0, 1) := by decide +kernel
theorem dX5_hourOn_261 : decode cX5_hourOn 261 = .ok (.getfield 25, 3) := by decide +kernel
theorem dX5_hourOn_264 : decode cX5_hourOn 264 = .ok (.iload 4, 2) := by decide +kernel
theorem dX5_hourOn_266 : decode cX5_hourOn 266 = .ok (.iload_n 3, 1) := by decide +kernel
theorem dX5_hourOn_267 : decode cX5_hourOn 267 = .ok (.iload 4, 2) := by decide +kernel
theorem dX5_hourOn_269 : decode cX5_hourOn 269 = .ok (.invokestatic 102, 3) := by decide +kernel
theorem dX5_hourOn_272 : decode cX5_hourOn 272 = .ok (.ifCond .eq 7, 3) := by decide +kernel
theorem dX5_hourOn_275 : decode cX5_hourOn 275 = .ok (.iconst 1, 1) := by decide +kernel
theorem dX5_hourOn_276 : decode cX5_hourOn 276 = .ok (.goto 4, 3) := by decide +kernel
theorem dX5_hourOn_279 : decode cX5_hourOn 279 = .ok (.iconst 0, 1) := by decide +kernel
theorem dX5_hourOn_280 : decode cX5_hourOn 280 = .ok (.iastore, 1) := by decide +kernel
theorem dX5_hourOn_281 : decode cX5_hourOn 281 = .ok (.aload_n 0, 1) := by decide +kernel
theorem dX5_hourOn_282 : decode cX5_hourOn 282 = .ok (.getfield 13, 3) := by decide +kernel
theorem dX5_hourOn_285 : decode cX5_hourOn 285 = .ok (.iload_n 2, 1) := by decide +kernel
theorem dX5_hourOn_286 : decode cX5_hourOn 286 = .ok (.bipush 18, 2) := by decide +kernel
theorem dX5_hourOn_288 : decode cX5_hourOn 288 = .ok (.iadd, 1) := by decide +kernel
theorem dX5_hourOn_289 : decode cX5_hourOn 289 = .ok (.iload 4, 2) := by decide +kernel
theorem dX5_hourOn_291 : decode cX5_hourOn 291 = .ok (.iadd, 1) := by decide +kernel
theorem dX5_hourOn_292 : decode cX5_hourOn 292 = .ok (.dup2, 1) := by decide +kernel
theorem dX5_hourOn_293 : decode cX5_hourOn 293 = .ok (.iaload, 1) := by decide +kernel
theorem dX5_hourOn_294 : decode cX5_hourOn 294 = .ok (.aload_n 0, 1) := by decide +kernel
theorem dX5_hourOn_295 : decode cX5_hourOn 295 = .ok (.getfield 25, 3) := by decide +kernel
theorem dX5_hourOn_298 : decode cX5_hourOn 298 = .ok (.iload 4, 2) := by decide +kernel
theorem dX5_hourOn_300 : decode cX5_hourOn 300 = .ok (.iaload, 1) := by decide +kernel
theorem dX5_hourOn_301 : decode cX5_hourOn 301 = .ok (.isub, 1) := by decide +kernel
theorem dX5_hourOn_302 : decode cX5_hourOn 302 = .ok (.iastore, 1) := by decide +kernel
theorem dX5_hourOn_303 : decode cX5_hourOn 303 = .ok (.aload_n 0, 1) := by decide +kernel
theorem dX5_hourOn_304 : decode cX5_hourOn 304 = .ok (.getfield 13, 3) := by decide +kernel
theorem dX5_hourOn_307 : decode cX5_hourOn 307 = .ok (.iload_n 2, 1) := by decide +kernel
theorem dX5_hourOn_308 : decode cX5_hourOn 308 = .ok (.bipush 24, 2) := by decide +kernel
theorem dX5_hourOn_310 : decode cX5_hourOn 310 = .ok (.iadd, 1) := by decide +kernel
theorem dX5_hourOn_311 : decode cX5_hourOn 311 = .ok (.iload 4, 2) := by decide +kernel
theorem dX5_hourOn_313 : decode cX5_hourOn 313 = .ok (.iadd, 1) := by decide +kernel
theorem dX5_hourOn_314 : decode cX5_hourOn 314 = .ok (.iload_n 3, 1) := by decide +kernel
theorem dX5_hourOn_315 : decode cX5_hourOn 315 = .ok (.iload 4, 2) := by decide +kernel
theorem dX5_hourOn_317 : decode cX5_hourOn 317 = .ok (.invokestatic 102, 3) := by decide +kernel
theorem dX5_hourOn_320 : decode cX5_hourOn 320 = .ok (.ifCond .eq 7, 3) := by decide +kernel
theorem dX5_hourOn_323 : decode cX5_hourOn 323 = .ok (.iconst 0, 1) := by decide +kernel
theorem dX5_hourOn_324 : decode cX5_hourOn 324 = .ok (.goto 15, 3) := by decide +kernel
theorem dX5_hourOn_327 : decode cX5_hourOn 327 = .ok (.aload_n 0, 1) := by decide +kernel
theorem dX5_hourOn_328 : decode cX5_hourOn 328 = .ok (.getfield 13, 3) := by decide +kernel
theorem dX5_hourOn_331 : decode cX5_hourOn 331 = .ok (.iload_n 2, 1) := by decide +kernel
theorem dX5_hourOn_332 : decode cX5_hourOn 332 = .ok (.bipush 24, 2) := by decide +kernel
theorem dX5_hourOn_334 : decode cX5_hourOn 334 = .ok (.iadd, 1) := by decide +kernel
theorem dX5_hourOn_335 : decode cX5_hourOn 335 = .ok (.iload 4, 2) := by decide +kernel
theorem dX5_hourOn_337 : decode cX5_hourOn 337 = .ok (.iadd, 1) := by decide +kernel
theorem dX5_hourOn_338 : decode cX5_hourOn 338 = .ok (.iaload, 1) := by decide +kernel
theorem dX5_hourOn_339 : decode cX5_hourOn 339 = .ok (.iastore, 1) := by decide +kernel
theorem dX5_hourOn_340 : decode cX5_hourOn 340 = .ok (.iinc 4 1, 3) := by decide +kernel
theorem dX5_hourOn_343 : decode cX5_hourOn 343 = .ok (.goto (-92), 3) := by decide +kernel
theorem dX5_hourOn_346 : decode cX5_hourOn 346 = .ok (.aload_n 0, 1) := by decide +kernel
theorem dX5_hourOn_347 : decode cX5_hourOn 347 = .ok (.getfield 13, 3) := by decide +kernel
theorem dX5_hourOn_350 : decode cX5_hourOn 350 = .ok (.iload_n 2, 1) := by decide +kernel
theorem dX5_hourOn_351 : decode cX5_hourOn 351 = .ok (.bipush 30, 2) := by decide +kernel
theorem dX5_hourOn_353 : decode cX5_hourOn 353 = .ok (.iadd, 1) := by decide +kernel
theorem dX5_hourOn_354 : decode cX5_hourOn 354 = .ok (.dup2, 1) := by decide +kernel
theorem dX5_hourOn_355 : decode cX5_hourOn 355 = .ok (.iaload, 1) := by decide +kernel
theorem dX5_hourOn_356 : decode cX5_hourOn 356 = .ok (.iconst 1, 1) := by decide +kernel
theorem dX5_hourOn_357 : decode cX5_hourOn 357 = .ok (.iadd, 1) := by decide +kernel
theorem dX5_hourOn_358 : decode cX5_hourOn 358 = .ok (.iastore, 1) := by decide +kernel
theorem dX5_hourOn_359 : decode cX5_hourOn 359 = .ok (.iload_n 3, 1) := by decide +kernel
theorem dX5_hourOn_360 : decode cX5_hourOn 360 = .ok (.ireturn, 1) := by decide +kernel
theorem dX5_standingOn_0 : decode cX5_standingOn 0 = .ok (.iconst 0, 1) := by decide +kernel
theorem dX5_standingOn_1 : decode cX5_standingOn 1 = .ok (.istore_n 2, 1) := by decide +kernel
theorem dX5_standingOn_2 : decode cX5_standingOn 2 = .ok (.iconst 0, 1) := by decide +kernel
theorem dX5_standingOn_3 : decode cX5_standingOn 3 = .ok (.istore_n 3, 1) := by decide +kernel
theorem dX5_standingOn_4 : decode cX5_standingOn 4 = .ok (.iload_n 3, 1) := by decide +kernel
theorem dX5_standingOn_5 : decode cX5_standingOn 5 = .ok (.aload_n 0, 1) := by decide +kernel
theorem dX5_standingOn_6 : decode cX5_standingOn 6 = .ok (.getfield 74, 3) := by decide +kernel
theorem dX5_standingOn_9 : decode cX5_standingOn 9 = .ok (.if_icmp .ge 22, 3) := by decide +kernel
theorem dX5_standingOn_12 : decode cX5_standingOn 12 = .ok (.iload_n 2, 1) := by decide +kernel
theorem dX5_standingOn_13 : decode cX5_standingOn 13 = .ok (.aload_n 0, 1) := by decide +kernel
theorem dX5_standingOn_14 : decode cX5_standingOn 14 = .ok (.iload_n 1, 1) := by decide +kernel
theorem dX5_standingOn_15 : decode cX5_standingOn 15 = .ok (.bipush 18, 2) := by decide +kernel
theorem dX5_standingOn_17 : decode cX5_standingOn 17 = .ok (.iload_n 3, 1) := by decide +kernel
theorem dX5_standingOn_18 : decode cX5_standingOn 18 = .ok (.invokevirtual 80, 3) := by decide +kernel
theorem dX5_standingOn_21 : decode cX5_standingOn 21 = .ok (.iload_n 3, 1) := by decide +kernel
theorem dX5_standingOn_22 : decode cX5_standingOn 22 = .ok (.ishl, 1) := by decide +kernel
theorem dX5_standingOn_23 : decode cX5_standingOn 23 = .ok (.ior, 1) := by decide +kernel
theorem dX5_standingOn_24 : decode cX5_standingOn 24 = .ok (.istore_n 2, 1) := by decide +kernel
theorem dX5_standingOn_25 : decode cX5_standingOn 25 = .ok (.iinc 3 1, 3) := by decide +kernel
theorem dX5_standingOn_28 : decode cX5_standingOn 28 = .ok (.goto (-24), 3) := by decide +kernel
theorem dX5_standingOn_31 : decode cX5_standingOn 31 = .ok (.iload_n 2, 1) := by decide +kernel
theorem dX5_standingOn_32 : decode cX5_standingOn 32 = .ok (.ireturn, 1) := by decide +kernel
theorem dX5_house_0 : decode cX5_house 0 = .ok (.aload_n 0, 1) := by decide +kernel
theorem dX5_house_1 : decode cX5_house 1 = .ok (.iload_n 1, 1) := by decide +kernel
theorem dX5_house_2 : decode cX5_house 2 = .ok (.invokevirtual 91, 3) := by decide +kernel
theorem dX5_house_5 : decode cX5_house 5 = .ok (.ifCond .ne 5, 3) := by decide +kernel
theorem dX5_house_8 : decode cX5_house 8 = .ok (.iconst (-1), 1) := by decide +kernel
theorem dX5_house_9 : decode cX5_house 9 = .ok (.ireturn, 1) := by decide +kernel
theorem dX5_house_10 : decode cX5_house 10 = .ok (.iload_n 2, 1) := by decide +kernel
theorem dX5_house_11 : decode cX5_house 11 = .ok (.tableswitch 115 0 7 #[45, 54, 64, 71, 81, 91, 101, 108], 45) := by decide +kernel
theorem dX5_house_56 : decode cX5_house 56 = .ok (.aload_n 0, 1) := by decide +kernel
theorem dX5_house_57 : decode cX5_house 57 = .ok (.getfield 13, 3) := by decide +kernel
theorem dX5_house_60 : decode cX5_house 60 = .ok (.iconst 0, 1) := by decide +kernel
theorem dX5_house_61 : decode cX5_house 61 = .ok (.iload_n 1, 1) := by decide +kernel
theorem dX5_house_62 : decode cX5_house 62 = .ok (.iadd, 1) := by decide +kernel
theorem dX5_house_63 : decode cX5_house 63 = .ok (.iaload, 1) := by decide +kernel
theorem dX5_house_64 : decode cX5_house 64 = .ok (.ireturn, 1) := by decide +kernel
theorem dX5_house_65 : decode cX5_house 65 = .ok (.aload_n 0, 1) := by decide +kernel
theorem dX5_house_66 : decode cX5_house 66 = .ok (.getfield 13, 3) := by decide +kernel
theorem dX5_house_69 : decode cX5_house 69 = .ok (.bipush 6, 2) := by decide +kernel
theorem dX5_house_71 : decode cX5_house 71 = .ok (.iload_n 1, 1) := by decide +kernel
theorem dX5_house_72 : decode cX5_house 72 = .ok (.iadd, 1) := by decide +kernel
theorem dX5_house_73 : decode cX5_house 73 = .ok (.iaload, 1) := by decide +kernel
theorem dX5_house_74 : decode cX5_house 74 = .ok (.ireturn, 1) := by decide +kernel
theorem dX5_house_75 : decode cX5_house 75 = .ok (.aload_n 0, 1) := by decide +kernel
theorem dX5_house_76 : decode cX5_house 76 = .ok (.getfield 7, 3) := by decide +kernel
theorem dX5_house_79 : decode cX5_house 79 = .ok (.iload_n 1, 1) := by decide +kernel
theorem dX5_house_80 : decode cX5_house 80 = .ok (.iaload, 1) := by decide +kernel
theorem dX5_house_81 : decode cX5_house 81 = .ok (.ireturn, 1) := by decide +kernel
theorem dX5_house_82 : decode cX5_house 82 = .ok (.aload_n 0, 1) := by decide +kernel
theorem dX5_house_83 : decode cX5_house 83 = .ok (.getfield 13, 3) := by decide +kernel
theorem dX5_house_86 : decode cX5_house 86 = .ok (.bipush 12, 2) := by decide +kernel
theorem dX5_house_88 : decode cX5_house 88 = .ok (.iload_n 1, 1) := by decide +kernel
theorem dX5_house_89 : decode cX5_house 89 = .ok (.iadd, 1) := by decide +kernel
theorem dX5_house_90 : decode cX5_house 90 = .ok (.iaload, 1) := by decide +kernel
theorem dX5_house_91 : decode cX5_house 91 = .ok (.ireturn, 1) := by decide +kernel
theorem dX5_house_92 : decode cX5_house 92 = .ok (.aload_n 0, 1) := by decide +kernel
theorem dX5_house_93 : decode cX5_house 93 = .ok (.getfield 13, 3) := by decide +kernel
theorem dX5_house_96 : decode cX5_house 96 = .ok (.bipush 18, 2) := by decide +kernel
theorem dX5_house_98 : decode cX5_house 98 = .ok (.iload_n 1, 1) := by decide +kernel
theorem dX5_house_99 : decode cX5_house 99 = .ok (.iadd, 1) := by decide +kernel
theorem dX5_house_100 : decode cX5_house 100 = .ok (.iaload, 1) := by decide +kernel
theorem dX5_house_101 : decode cX5_house 101 = .ok (.ireturn, 1) := by decide +kernel
theorem dX5_house_102 : decode cX5_house 102 = .ok (.aload_n 0, 1) := by decide +kernel
theorem dX5_house_103 : decode cX5_house 103 = .ok (.getfield 13, 3) := by decide +kernel
theorem dX5_house_106 : decode cX5_house 106 = .ok (.bipush 24, 2) := by decide +kernel
theorem dX5_house_108 : decode cX5_house 108 = .ok (.iload_n 1, 1) := by decide +kernel
theorem dX5_house_109 : decode cX5_house 109 = .ok (.iadd, 1) := by decide +kernel
theorem dX5_house_110 : decode cX5_house 110 = .ok (.iaload, 1) := by decide +kernel
theorem dX5_house_111 : decode cX5_house 111 = .ok (.ireturn, 1) := by decide +kernel
theorem dX5_house_112 : decode cX5_house 112 = .ok (.aload_n 0, 1) := by decide +kernel
theorem dX5_house_113 : decode cX5_house 113 = .ok (.iconst 0, 1) := by decide +kernel
theorem dX5_house_114 : decode cX5_house 114 = .ok (.iload_n 1, 1) := by decide +kernel
theorem dX5_house_115 : decode cX5_house 115 = .ok (.invokevirtual 84, 3) := by decide +kernel
theorem dX5_house_118 : decode cX5_house 118 = .ok (.ireturn, 1) := by decide +kernel
theorem dX5_house_119 : decode cX5_house 119 = .ok (.aload_n 0, 1) := by decide +kernel
theorem dX5_house_120 : decode cX5_house 120 = .ok (.iconst 0, 1) := by decide +kernel
theorem dX5_house_121 : decode cX5_house 121 = .ok (.iload_n 1, 1) := by decide +kernel
theorem dX5_house_122 : decode cX5_house 122 = .ok (.invokevirtual 99, 3) := by decide +kernel
theorem dX5_house_125 : decode cX5_house 125 = .ok (.ireturn, 1) := by decide +kernel
theorem dX5_house_126 : decode cX5_house 126 = .ok (.bipush (-2), 2) := by decide +kernel
theorem dX5_house_128 : decode cX5_house 128 = .ok (.ireturn, 1) := by decide +kernel
theorem dX5_keepAct_0 : decode cX5_keepAct 0 = .ok (.iconst 0, 1) := by decide +kernel
theorem dX5_keepAct_1 : decode cX5_keepAct 1 = .ok (.istore_n 1, 1) := by decide +kernel
theorem dX5_keepAct_2 : decode cX5_keepAct 2 = .ok (.iload_n 1, 1) := by decide +kernel
theorem dX5_keepAct_3 : decode cX5_keepAct 3 = .ok (.bipush 31, 2) := by decide +kernel
theorem dX5_keepAct_5 : decode cX5_keepAct 5 = .ok (.if_icmp .ge 29, 3) := by decide +kernel
theorem dX5_keepAct_8 : decode cX5_keepAct 8 = .ok (.aload_n 0, 1) := by decide +kernel
theorem dX5_keepAct_9 : decode cX5_keepAct 9 = .ok (.getfield 28, 3) := by decide +kernel
theorem dX5_keepAct_12 : decode cX5_keepAct 12 = .ok (.bipush 31, 2) := by decide +kernel
theorem dX5_keepAct_14 : decode cX5_keepAct 14 = .ok (.aload_n 0, 1) := by decide +kernel
theorem dX5_keepAct_15 : decode cX5_keepAct 15 = .ok (.getfield 105, 3) := by decide +kernel
theorem dX5_keepAct_18 : decode cX5_keepAct 18 = .ok (.imul, 1) := by decide +kernel
theorem dX5_keepAct_19 : decode cX5_keepAct 19 = .ok (.iload_n 1, 1) := by decide +kernel
theorem dX5_keepAct_20 : decode cX5_keepAct 20 = .ok (.iadd, 1) := by decide +kernel
theorem dX5_keepAct_21 : decode cX5_keepAct 21 = .ok (.aload_n 0, 1) := by decide +kernel
theorem dX5_keepAct_22 : decode cX5_keepAct 22 = .ok (.getfield 13, 3) := by decide +kernel
theorem dX5_keepAct_25 : decode cX5_keepAct 25 = .ok (.iload_n 1, 1) := by decide +kernel
theorem dX5_keepAct_26 : decode cX5_keepAct 26 = .ok (.iaload, 1) := by decide +kernel
theorem dX5_keepAct_27 : decode cX5_keepAct 27 = .ok (.iastore, 1) := by decide +kernel
theorem dX5_keepAct_28 : decode cX5_keepAct 28 = .ok (.iinc 1 1, 3) := by decide +kernel
theorem dX5_keepAct_31 : decode cX5_keepAct 31 = .ok (.goto (-29), 3) := by decide +kernel
theorem dX5_keepAct_34 : decode cX5_keepAct 34 = .ok (.aload_n 0, 1) := by decide +kernel
theorem dX5_keepAct_35 : decode cX5_keepAct 35 = .ok (.aload_n 0, 1) := by decide +kernel
theorem dX5_keepAct_36 : decode cX5_keepAct 36 = .ok (.getfield 105, 3) := by decide +kernel
theorem dX5_keepAct_39 : decode cX5_keepAct 39 = .ok (.iconst 1, 1) := by decide +kernel
theorem dX5_keepAct_40 : decode cX5_keepAct 40 = .ok (.iadd, 1) := by decide +kernel
theorem dX5_keepAct_41 : decode cX5_keepAct 41 = .ok (.bipush 14, 2) := by decide +kernel
theorem dX5_keepAct_43 : decode cX5_keepAct 43 = .ok (.irem, 1) := by decide +kernel
theorem dX5_keepAct_44 : decode cX5_keepAct 44 = .ok (.putfield 105, 3) := by decide +kernel
theorem dX5_keepAct_47 : decode cX5_keepAct 47 = .ok (.aload_n 0, 1) := by decide +kernel
theorem dX5_keepAct_48 : decode cX5_keepAct 48 = .ok (.aload_n 0, 1) := by decide +kernel
theorem dX5_keepAct_49 : decode cX5_keepAct 49 = .ok (.getfield 77, 3) := by decide +kernel
theorem dX5_keepAct_52 : decode cX5_keepAct 52 = .ok (.bipush 14, 2) := by decide +kernel
theorem dX5_keepAct_54 : decode cX5_keepAct 54 = .ok (.if_icmp .ge 12, 3) := by decide +kernel
theorem dX5_keepAct_57 : decode cX5_keepAct 57 = .ok (.aload_n 0, 1) := by decide +kernel
theorem dX5_keepAct_58 : decode cX5_keepAct 58 = .ok (.getfield 77, 3) := by decide +kernel
theorem dX5_keepAct_61 : decode cX5_keepAct 61 = .ok (.iconst 1, 1) := by decide +kernel
theorem dX5_keepAct_62 : decode cX5_keepAct 62 = .ok (.iadd, 1) := by decide +kernel
theorem dX5_keepAct_63 : decode cX5_keepAct 63 = .ok (.goto 5, 3) := by decide +kernel
theorem dX5_keepAct_66 : decode cX5_keepAct 66 = .ok (.bipush 14, 2) := by decide +kernel
theorem dX5_keepAct_68 : decode cX5_keepAct 68 = .ok (.putfield 77, 3) := by decide +kernel
theorem dX5_keepAct_71 : decode cX5_keepAct 71 = .ok (.return_, 1) := by decide +kernel
theorem dX5_hour_0 : decode cX5_hour 0 = .ok (.aload_n 0, 1) := by decide +kernel
theorem dX5_hour_1 : decode cX5_hour 1 = .ok (.invokevirtual 108, 3) := by decide +kernel
theorem dX5_hour_4 : decode cX5_hour 4 = .ok (.aload_n 0, 1) := by decide +kernel
theorem dX5_hour_5 : decode cX5_hour 5 = .ok (.iconst 0, 1) := by decide +kernel
theorem dX5_hour_6 : decode cX5_hour 6 = .ok (.invokevirtual 111, 3) := by decide +kernel
theorem dX5_hour_9 : decode cX5_hour 9 = .ok (.invokestatic 114, 3) := by decide +kernel
theorem dX5_hour_12 : decode cX5_hour 12 = .ok (.ireturn, 1) := by decide +kernel
theorem dX5_canBring_0 : decode cX5_canBring 0 = .ok (.aload_n 0, 1) := by decide +kernel
theorem dX5_canBring_1 : decode cX5_canBring 1 = .ok (.iload_n 2, 1) := by decide +kernel
theorem dX5_canBring_2 : decode cX5_canBring 2 = .ok (.invokevirtual 91, 3) := by decide +kernel
theorem dX5_canBring_5 : decode cX5_canBring 5 = .ok (.ifCond .eq 34, 3) := by decide +kernel
theorem dX5_canBring_8 : decode cX5_canBring 8 = .ok (.iload_n 3, 1) := by decide +kernel
theorem dX5_canBring_9 : decode cX5_canBring 9 = .ok (.i2l, 1) := by decide +kernel
theorem dX5_canBring_10 : decode cX5_canBring 10 = .ok (.lconst 1, 1) := by decide +kernel
theorem dX5_canBring_11 : decode cX5_canBring 11 = .ok (.ldc2_w 117, 3) := by decide +kernel
theorem dX5_canBring_14 : decode cX5_canBring 14 = .ok (.invokestatic 49, 3) := by decide +kernel
theorem dX5_canBring_17 : decode cX5_canBring 17 = .ok (.ifCond .eq 22, 3) := by decide +kernel
theorem dX5_canBring_20 : decode cX5_canBring 20 = .ok (.aload_n 0, 1) := by decide +kernel
theorem dX5_canBring_21 : decode cX5_canBring 21 = .ok (.iload_n 1, 1) := by decide +kernel
theorem dX5_canBring_22 : decode cX5_canBring 22 = .ok (.bipush 6, 2) := by decide +kernel
theorem dX5_canBring_24 : decode cX5_canBring 24 = .ok (.iload_n 2, 1) := by decide +kernel
theorem dX5_canBring_25 : decode cX5_canBring 25 = .ok (.invokevirtual 80, 3) := by decide +kernel
theorem dX5_canBring_28 : decode cX5_canBring 28 = .ok (.iload_n 3, 1) := by decide +kernel
theorem dX5_canBring_29 : decode cX5_canBring 29 = .ok (.iadd, 1) := by decide +kernel
theorem dX5_canBring_30 : decode cX5_canBring 30 = .ok (.bipush 99, 2) := by decide +kernel
theorem dX5_canBring_32 : decode cX5_canBring 32 = .ok (.if_icmp .gt 7, 3) := by decide +kernel
theorem dX5_canBring_35 : decode cX5_canBring 35 = .ok (.iconst 1, 1) := by decide +kernel
theorem dX5_canBring_36 : decode cX5_canBring 36 = .ok (.goto 4, 3) := by decide +kernel
theorem dX5_canBring_39 : decode cX5_canBring 39 = .ok (.iconst 0, 1) := by decide +kernel
theorem dX5_canBring_40 : decode cX5_canBring 40 = .ok (.ireturn, 1) := by decide +kernel
theorem dX5_canTake_0 : decode cX5_canTake 0 = .ok (.aload_n 0, 1) := by decide +kernel
theorem dX5_canTake_1 : decode cX5_canTake 1 = .ok (.iload_n 2, 1) := by decide +kernel
theorem dX5_canTake_2 : decode cX5_canTake 2 = .ok (.invokevirtual 91, 3) := by decide +kernel
theorem dX5_canTake_5 : decode cX5_canTake 5 = .ok (.ifCond .eq 31, 3) := by decide +kernel
theorem dX5_canTake_8 : decode cX5_canTake 8 = .ok (.iload_n 3, 1) := by decide +kernel
theorem dX5_canTake_9 : decode cX5_canTake 9 = .ok (.i2l, 1) := by decide +kernel
theorem dX5_canTake_10 : decode cX5_canTake 10 = .ok (.lconst 1, 1) := by decide +kernel
theorem dX5_canTake_11 : decode cX5_canTake 11 = .ok (.ldc2_w 117, 3) := by decide +kernel
theorem dX5_canTake_14 : decode cX5_canTake 14 = .ok (.invokestatic 49, 3) := by decide +kernel
theorem dX5_canTake_17 : decode cX5_canTake 17 = .ok (.ifCond .eq 19, 3) := by decide +kernel
theorem dX5_canTake_20 : decode cX5_canTake 20 = .ok (.aload_n 0, 1) := by decide +kernel
theorem dX5_canTake_21 : decode cX5_canTake 21 = .ok (.iload_n 1, 1) := by decide +kernel
theorem dX5_canTake_22 : decode cX5_canTake 22 = .ok (.bipush 6, 2) := by decide +kernel
theorem dX5_canTake_24 : decode cX5_canTake 24 = .ok (.iload_n 2, 1) := by decide +kernel
theorem dX5_canTake_25 : decode cX5_canTake 25 = .ok (.invokevirtual 80, 3) := by decide +kernel
theorem dX5_canTake_28 : decode cX5_canTake 28 = .ok (.iload_n 3, 1) := by decide +kernel
theorem dX5_canTake_29 : decode cX5_canTake 29 = .ok (.if_icmp .lt 7, 3) := by decide +kernel
theorem dX5_canTake_32 : decode cX5_canTake 32 = .ok (.iconst 1, 1) := by decide +kernel
theorem dX5_canTake_33 : decode cX5_canTake 33 = .ok (.goto 4, 3) := by decide +kernel
theorem dX5_canTake_36 : decode cX5_canTake 36 = .ok (.iconst 0, 1) := by decide +kernel
theorem dX5_canTake_37 : decode cX5_canTake 37 = .ok (.ireturn, 1) := by decide +kernel
theorem dX5_bring_0 : decode cX5_bring 0 = .ok (.aload_n 0, 1) := by decide +kernel
theorem dX5_bring_1 : decode cX5_bring 1 = .ok (.iload_n 1, 1) := by decide +kernel
theorem dX5_bring_2 : decode cX5_bring 2 = .ok (.invokevirtual 91, 3) := by decide +kernel
theorem dX5_bring_5 : decode cX5_bring 5 = .ok (.ifCond .ne 5, 3) := by decide +kernel
theorem dX5_bring_8 : decode cX5_bring 8 = .ok (.iconst (-1), 1) := by decide +kernel
theorem dX5_bring_9 : decode cX5_bring 9 = .ok (.ireturn, 1) := by decide +kernel
theorem dX5_bring_10 : decode cX5_bring 10 = .ok (.iload_n 2, 1) := by decide +kernel
theorem dX5_bring_11 : decode cX5_bring 11 = .ok (.i2l, 1) := by decide +kernel
theorem dX5_bring_12 : decode cX5_bring 12 = .ok (.lconst 1, 1) := by decide +kernel
theorem dX5_bring_13 : decode cX5_bring 13 = .ok (.ldc2_w 117, 3) := by decide +kernel
theorem dX5_bring_16 : decode cX5_bring 16 = .ok (.invokestatic 49, 3) := by decide +kernel
theorem dX5_bring_19 : decode cX5_bring 19 = .ok (.ifCond .ne 6, 3) := by decide +kernel
theorem dX5_bring_22 : decode cX5_bring 22 = .ok (.bipush (-2), 2) := by decide +kernel
theorem dX5_bring_24 : decode cX5_bring 24 = .ok (.ireturn, 1) := by decide +kernel
theorem dX5_bring_25 : decode cX5_bring 25 = .ok (.aload_n 0, 1) := by decide +kernel
theorem dX5_bring_26 : decode cX5_bring 26 = .ok (.iconst 0, 1) := by decide +kernel
theorem dX5_bring_27 : decode cX5_bring 27 = .ok (.iload_n 1, 1) := by decide +kernel
theorem dX5_bring_28 : decode cX5_bring 28 = .ok (.iload_n 2, 1) := by decide +kernel
theorem dX5_bring_29 : decode cX5_bring 29 = .ok (.invokevirtual 119, 3) := by decide +kernel
theorem dX5_bring_32 : decode cX5_bring 32 = .ok (.ifCond .ne 6, 3) := by decide +kernel
theorem dX5_bring_35 : decode cX5_bring 35 = .ok (.bipush (-4), 2) := by decide +kernel
theorem dX5_bring_37 : decode cX5_bring 37 = .ok (.ireturn, 1) := by decide +kernel
theorem dX5_bring_38 : decode cX5_bring 38 = .ok (.aload_n 0, 1) := by decide +kernel
theorem dX5_bring_39 : decode cX5_bring 39 = .ok (.invokevirtual 108, 3) := by decide +kernel
theorem dX5_bring_42 : decode cX5_bring 42 = .ok (.aload_n 0, 1) := by decide +kernel
theorem dX5_bring_43 : decode cX5_bring 43 = .ok (.getfield 13, 3) := by decide +kernel
theorem dX5_bring_46 : decode cX5_bring 46 = .ok (.bipush 6, 2) := by decide +kernel
theorem dX5_bring_48 : decode cX5_bring 48 = .ok (.iload_n 1, 1) := by decide +kernel
theorem dX5_bring_49 : decode cX5_bring 49 = .ok (.iadd, 1) := by decide +kernel
theorem dX5_bring_50 : decode cX5_bring 50 = .ok (.dup2, 1) := by decide +kernel
theorem dX5_bring_51 : decode cX5_bring 51 = .ok (.iaload, 1) := by decide +kernel
theorem dX5_bring_52 : decode cX5_bring 52 = .ok (.iload_n 2, 1) := by decide +kernel
theorem dX5_bring_53 : decode cX5_bring 53 = .ok (.iadd, 1) := by decide +kernel
theorem dX5_bring_54 : decode cX5_bring 54 = .ok (.iastore, 1) := by decide +kernel
theorem dX5_bring_55 : decode cX5_bring 55 = .ok (.aload_n 0, 1) := by decide +kernel
theorem dX5_bring_56 : decode cX5_bring 56 = .ok (.getfield 13, 3) := by decide +kernel
theorem dX5_bring_59 : decode cX5_bring 59 = .ok (.bipush 6, 2) := by decide +kernel
theorem dX5_bring_61 : decode cX5_bring 61 = .ok (.iload_n 1, 1) := by decide +kernel
theorem dX5_bring_62 : decode cX5_bring 62 = .ok (.iadd, 1) := by decide +kernel
theorem dX5_bring_63 : decode cX5_bring 63 = .ok (.iaload, 1) := by decide +kernel
theorem dX5_bring_64 : decode cX5_bring 64 = .ok (.ireturn, 1) := by decide +kernel
theorem dX5_take_0 : decode cX5_take 0 = .ok (.aload_n 0, 1) := by decide +kernel
theorem dX5_take_1 : decode cX5_take 1 = .ok (.iload_n 1, 1) := by decide +kernel
theorem dX5_take_2 : decode cX5_take 2 = .ok (.invokevirtual 91, 3) := by decide +kernel
theorem dX5_take_5 : decode cX5_take 5 = .ok (.ifCond .ne 5, 3) := by decide +kernel
theorem dX5_take_8 : decode cX5_take 8 = .ok (.iconst (-1), 1) := by decide +kernel
theorem dX5_take_9 : decode cX5_take 9 = .ok (.ireturn, 1) := by decide +kernel
theorem dX5_take_10 : decode cX5_take 10 = .ok (.iload_n 2, 1) := by decide +kernel
theorem dX5_take_11 : decode cX5_take 11 = .ok (.i2l, 1) := by decide +kernel
theorem dX5_take_12 : decode cX5_take 12 = .ok (.lconst 1, 1) := by decide +kernel
theorem dX5_take_13 : decode cX5_take 13 = .ok (.ldc2_w 117, 3) := by decide +kernel
theorem dX5_take_16 : decode cX5_take 16 = .ok (.invokestatic 49, 3) := by decide +kernel
theorem dX5_take_19 : decode cX5_take 19 = .ok (.ifCond .ne 6, 3) := by decide +kernel
theorem dX5_take_22 : decode cX5_take 22 = .ok (.bipush (-2), 2) := by decide +kernel
theorem dX5_take_24 : decode cX5_take 24 = .ok (.ireturn, 1) := by decide +kernel
theorem dX5_take_25 : decode cX5_take 25 = .ok (.aload_n 0, 1) := by decide +kernel
theorem dX5_take_26 : decode cX5_take 26 = .ok (.iconst 0, 1) := by decide +kernel
theorem dX5_take_27 : decode cX5_take 27 = .ok (.iload_n 1, 1) := by decide +kernel
theorem dX5_take_28 : decode cX5_take 28 = .ok (.iload_n 2, 1) := by decide +kernel
theorem dX5_take_29 : decode cX5_take 29 = .ok (.invokevirtual 123, 3) := by decide +kernel
theorem dX5_take_32 : decode cX5_take 32 = .ok (.ifCond .ne 6, 3) := by decide +kernel
theorem dX5_take_35 : decode cX5_take 35 = .ok (.bipush (-3), 2) := by decide +kernel
theorem dX5_take_37 : decode cX5_take 37 = .ok (.ireturn, 1) := by decide +kernel
theorem dX5_take_38 : decode cX5_take 38 = .ok (.aload_n 0, 1) := by decide +kernel
theorem dX5_take_39 : decode cX5_take 39 = .ok (.invokevirtual 108, 3) := by decide +kernel
theorem dX5_take_42 : decode cX5_take 42 = .ok (.aload_n 0, 1) := by decide +kernel
theorem dX5_take_43 : decode cX5_take 43 = .ok (.getfield 13, 3) := by decide +kernel
theorem dX5_take_46 : decode cX5_take 46 = .ok (.bipush 6, 2) := by decide +kernel
theorem dX5_take_48 : decode cX5_take 48 = .ok (.iload_n 1, 1) := by decide +kernel
theorem dX5_take_49 : decode cX5_take 49 = .ok (.iadd, 1) := by decide +kernel
theorem dX5_take_50 : decode cX5_take 50 = .ok (.dup2, 1) := by decide +kernel
theorem dX5_take_51 : decode cX5_take 51 = .ok (.iaload, 1) := by decide +kernel
theorem dX5_take_52 : decode cX5_take 52 = .ok (.iload_n 2, 1) := by decide +kernel
theorem dX5_take_53 : decode cX5_take 53 = .ok (.isub, 1) := by decide +kernel
theorem dX5_take_54 : decode cX5_take 54 = .ok (.iastore, 1) := by decide +kernel
theorem dX5_take_55 : decode cX5_take 55 = .ok (.aload_n 0, 1) := by decide +kernel
theorem dX5_take_56 : decode cX5_take 56 = .ok (.getfield 13, 3) := by decide +kernel
theorem dX5_take_59 : decode cX5_take 59 = .ok (.bipush 6, 2) := by decide +kernel
theorem dX5_take_61 : decode cX5_take 61 = .ok (.iload_n 1, 1) := by decide +kernel
theorem dX5_take_62 : decode cX5_take 62 = .ok (.iadd, 1) := by decide +kernel
theorem dX5_take_63 : decode cX5_take 63 = .ok (.iaload, 1) := by decide +kernel
theorem dX5_take_64 : decode cX5_take 64 = .ok (.ireturn, 1) := by decide +kernel
theorem dX5_deed_0 : decode cX5_deed 0 = .ok (.aload_n 0, 1) := by decide +kernel
theorem dX5_deed_1 : decode cX5_deed 1 = .ok (.iload_n 1, 1) := by decide +kernel
theorem dX5_deed_2 : decode cX5_deed 2 = .ok (.invokevirtual 91, 3) := by decide +kernel
theorem dX5_deed_5 : decode cX5_deed 5 = .ok (.ifCond .ne 5, 3) := by decide +kernel
theorem dX5_deed_8 : decode cX5_deed 8 = .ok (.iconst (-1), 1) := by decide +kernel
theorem dX5_deed_9 : decode cX5_deed 9 = .ok (.ireturn, 1) := by decide +kernel
theorem dX5_deed_10 : decode cX5_deed 10 = .ok (.iload_n 2, 1) := by decide +kernel
theorem dX5_deed_11 : decode cX5_deed 11 = .ok (.i2l, 1) := by decide +kernel
theorem dX5_deed_12 : decode cX5_deed 12 = .ok (.lconst 0, 1) := by decide +kernel
theorem dX5_deed_13 : decode cX5_deed 13 = .ok (.ldc2_w 126, 3) := by decide +kernel
theorem dX5_deed_16 : decode cX5_deed 16 = .ok (.invokestatic 49, 3) := by decide +kernel
theorem dX5_deed_19 : decode cX5_deed 19 = .ok (.ifCond .ne 6, 3) := by decide +kernel
theorem dX5_deed_22 : decode cX5_deed 22 = .ok (.bipush (-2), 2) := by decide +kernel
theorem dX5_deed_24 : decode cX5_deed 24 = .ok (.ireturn, 1) := by decide +kernel
theorem dX5_deed_25 : decode cX5_deed 25 = .ok (.aload_n 0, 1) := by decide +kernel
theorem dX5_deed_26 : decode cX5_deed 26 = .ok (.getfield 13, 3) := by decide +kernel
theorem dX5_deed_29 : decode cX5_deed 29 = .ok (.bipush 12, 2) := by decide +kernel
theorem dX5_deed_31 : decode cX5_deed 31 = .ok (.iload_n 1, 1) := by decide +kernel
theorem dX5_deed_32 : decode cX5_deed 32 = .ok (.iadd, 1) := by decide +kernel
theorem dX5_deed_33 : decode cX5_deed 33 = .ok (.iaload, 1) := by decide +kernel
theorem dX5_deed_34 : decode cX5_deed 34 = .ok (.iload_n 2, 1) := by decide +kernel
theorem dX5_deed_35 : decode cX5_deed 35 = .ok (.if_icmp .ne 6, 3) := by decide +kernel
theorem dX5_deed_38 : decode cX5_deed 38 = .ok (.bipush (-3), 2) := by decide +kernel
theorem dX5_deed_40 : decode cX5_deed 40 = .ok (.ireturn, 1) := by decide +kernel
theorem dX5_deed_41 : decode cX5_deed 41 = .ok (.aload_n 0, 1) := by decide +kernel
theorem dX5_deed_42 : decode cX5_deed 42 = .ok (.invokevirtual 108, 3) := by decide +kernel
theorem dX5_deed_45 : decode cX5_deed 45 = .ok (.aload_n 0, 1) := by decide +kernel
theorem dX5_deed_46 : decode cX5_deed 46 = .ok (.getfield 13, 3) := by decide +kernel
theorem dX5_deed_49 : decode cX5_deed 49 = .ok (.bipush 12, 2) := by decide +kernel
theorem dX5_deed_51 : decode cX5_deed 51 = .ok (.iload_n 1, 1) := by decide +kernel
theorem dX5_deed_52 : decode cX5_deed 52 = .ok (.iadd, 1) := by decide +kernel
theorem dX5_deed_53 : decode cX5_deed 53 = .ok (.iaload, 1) := by decide +kernel
theorem dX5_deed_54 : decode cX5_deed 54 = .ok (.istore_n 3, 1) := by decide +kernel
theorem dX5_deed_55 : decode cX5_deed 55 = .ok (.aload_n 0, 1) := by decide +kernel
theorem dX5_deed_56 : decode cX5_deed 56 = .ok (.getfield 13, 3) := by decide +kernel
theorem dX5_deed_59 : decode cX5_deed 59 = .ok (.bipush 12, 2) := by decide +kernel
theorem dX5_deed_61 : decode cX5_deed 61 = .ok (.iload_n 1, 1) := by decide +kernel
theorem dX5_deed_62 : decode cX5_deed 62 = .ok (.iadd, 1) := by decide +kernel
theorem dX5_deed_63 : decode cX5_deed 63 = .ok (.iload_n 2, 1) := by decide +kernel
theorem dX5_deed_64 : decode cX5_deed 64 = .ok (.iastore, 1) := by decide +kernel
theorem dX5_deed_65 : decode cX5_deed 65 = .ok (.iload_n 3, 1) := by decide +kernel
theorem dX5_deed_66 : decode cX5_deed 66 = .ok (.ireturn, 1) := by decide +kernel
theorem dX5_buildOn_0 : decode cX5_buildOn 0 = .ok (.bipush 31, 2) := by decide +kernel
theorem dX5_buildOn_2 : decode cX5_buildOn 2 = .ok (.iload_n 1, 1) := by decide +kernel
theorem dX5_buildOn_3 : decode cX5_buildOn 3 = .ok (.imul, 1) := by decide +kernel
theorem dX5_buildOn_4 : decode cX5_buildOn 4 = .ok (.istore_n 3, 1) := by decide +kernel
theorem dX5_buildOn_5 : decode cX5_buildOn 5 = .ok (.aload_n 0, 1) := by decide +kernel
theorem dX5_buildOn_6 : decode cX5_buildOn 6 = .ok (.getfield 13, 3) := by decide +kernel
theorem dX5_buildOn_9 : decode cX5_buildOn 9 = .ok (.iload_n 3, 1) := by decide +kernel
theorem dX5_buildOn_10 : decode cX5_buildOn 10 = .ok (.iconst 0, 1) := by decide +kernel
theorem dX5_buildOn_11 : decode cX5_buildOn 11 = .ok (.iadd, 1) := by decide +kernel
theorem dX5_buildOn_12 : decode cX5_buildOn 12 = .ok (.iload_n 2, 1) := by decide +kernel
theorem dX5_buildOn_13 : decode cX5_buildOn 13 = .ok (.iadd, 1) := by decide +kernel
theorem dX5_buildOn_14 : decode cX5_buildOn 14 = .ok (.aload_n 0, 1) := by decide +kernel
theorem dX5_buildOn_15 : decode cX5_buildOn 15 = .ok (.getfield 13, 3) := by decide +kernel
theorem dX5_buildOn_18 : decode cX5_buildOn 18 = .ok (.iload_n 3, 1) := by decide +kernel
theorem dX5_buildOn_19 : decode cX5_buildOn 19 = .ok (.iconst 0, 1) := by decide +kernel
theorem dX5_buildOn_20 : decode cX5_buildOn 20 = .ok (.iadd, 1) := by decide +kernel
theorem dX5_buildOn_21 : decode cX5_buildOn 21 = .ok (.iload_n 2, 1) := by decide +kernel
theorem dX5_buildOn_22 : decode cX5_buildOn 22 = .ok (.iadd, 1) := by decide +kernel
theorem dX5_buildOn_23 : decode cX5_buildOn 23 = .ok (.iaload, 1) := by decide +kernel
theorem dX5_buildOn_24 : decode cX5_buildOn 24 = .ok (.iconst 4, 1) := by decide +kernel
theorem dX5_buildOn_25 : decode cX5_buildOn 25 = .ok (.if_icmp .ne 7, 3) := by decide +kernel
theorem dX5_buildOn_28 : decode cX5_buildOn 28 = .ok (.iconst 0, 1) := by decide +kernel
theorem dX5_buildOn_29 : decode cX5_buildOn 29 = .ok (.goto 13, 3) := by decide +kernel
theorem dX5_buildOn_32 : decode cX5_buildOn 32 = .ok (.aload_n 0, 1) := by decide +kernel
theorem dX5_buildOn_33 : decode cX5_buildOn 33 = .ok (.getfield 13, 3) := by decide +kernel
theorem dX5_buildOn_36 : decode cX5_buildOn 36 = .ok (.iload_n 3, 1) := by decide +kernel
theorem dX5_buildOn_37 : decode cX5_buildOn 37 = .ok (.iconst 0, 1) := by decide +kernel
theorem dX5_buildOn_38 : decode cX5_buildOn 38 = .ok (.iadd, 1) := by decide +kernel
theorem dX5_buildOn_39 : decode cX5_buildOn 39 = .ok (.iload_n 2, 1) := by decide +kernel
theorem dX5_buildOn_40 : decode cX5_buildOn 40 = .ok (.iadd, 1) := by decide +kernel
theorem dX5_buildOn_41 : decode cX5_buildOn 41 = .ok (.iaload, 1) := by decide +kernel
theorem dX5_buildOn_42 : decode cX5_buildOn 42 = .ok (.iastore, 1) := by decide +kernel
theorem dX5_buildOn_43 : decode cX5_buildOn 43 = .ok (.aload_n 0, 1) := by decide +kernel
theorem dX5_buildOn_44 : decode cX5_buildOn 44 = .ok (.getfield 13, 3) := by decide +kernel
theorem dX5_buildOn_47 : decode cX5_buildOn 47 = .ok (.iload_n 3, 1) := by decide +kernel
theorem dX5_buildOn_48 : decode cX5_buildOn 48 = .ok (.bipush 18, 2) := by decide +kernel
theorem dX5_buildOn_50 : decode cX5_buildOn 50 = .ok (.iadd, 1) := by decide +kernel
theorem dX5_buildOn_51 : decode cX5_buildOn 51 = .ok (.iload_n 2, 1) := by decide +kernel
theorem dX5_buildOn_52 : decode cX5_buildOn 52 = .ok (.iadd, 1) := by decide +kernel
theorem dX5_buildOn_53 : decode cX5_buildOn 53 = .ok (.iconst 1, 1) := by decide +kernel
theorem dX5_buildOn_54 : decode cX5_buildOn 54 = .ok (.iastore, 1) := by decide +kernel
theorem dX5_buildOn_55 : decode cX5_buildOn 55 = .ok (.aload_n 0, 1) := by decide +kernel
theorem dX5_buildOn_56 : decode cX5_buildOn 56 = .ok (.getfield 13, 3) := by decide +kernel
theorem dX5_buildOn_59 : decode cX5_buildOn 59 = .ok (.iload_n 3, 1) := by decide +kernel
theorem dX5_buildOn_60 : decode cX5_buildOn 60 = .ok (.bipush 24, 2) := by decide +kernel
theorem dX5_buildOn_62 : decode cX5_buildOn 62 = .ok (.iadd, 1) := by decide +kernel
theorem dX5_buildOn_63 : decode cX5_buildOn 63 = .ok (.iload_n 2, 1) := by decide +kernel
theorem dX5_buildOn_64 : decode cX5_buildOn 64 = .ok (.iadd, 1) := by decide +kernel
theorem dX5_buildOn_65 : decode cX5_buildOn 65 = .ok (.aload_n 0, 1) := by decide +kernel
theorem dX5_buildOn_66 : decode cX5_buildOn 66 = .ok (.getfield 13, 3) := by decide +kernel
theorem dX5_buildOn_69 : decode cX5_buildOn 69 = .ok (.iload_n 3, 1) := by decide +kernel
theorem dX5_buildOn_70 : decode cX5_buildOn 70 = .ok (.bipush 6, 2) := by decide +kernel
theorem dX5_buildOn_72 : decode cX5_buildOn 72 = .ok (.iadd, 1) := by decide +kernel
theorem dX5_buildOn_73 : decode cX5_buildOn 73 = .ok (.iload_n 2, 1) := by decide +kernel
theorem dX5_buildOn_74 : decode cX5_buildOn 74 = .ok (.iadd, 1) := by decide +kernel
theorem dX5_buildOn_75 : decode cX5_buildOn 75 = .ok (.iaload, 1) := by decide +kernel
theorem dX5_buildOn_76 : decode cX5_buildOn 76 = .ok (.iastore, 1) := by decide +kernel
theorem dX5_buildOn_77 : decode cX5_buildOn 77 = .ok (.return_, 1) := by decide +kernel
theorem dX5_build_0 : decode cX5_build 0 = .ok (.aload_n 0, 1) := by decide +kernel
theorem dX5_build_1 : decode cX5_build 1 = .ok (.iload_n 1, 1) := by decide +kernel
theorem dX5_build_2 : decode cX5_build 2 = .ok (.invokevirtual 91, 3) := by decide +kernel
theorem dX5_build_5 : decode cX5_build 5 = .ok (.ifCond .ne 5, 3) := by decide +kernel
theorem dX5_build_8 : decode cX5_build 8 = .ok (.iconst (-1), 1) := by decide +kernel
theorem dX5_build_9 : decode cX5_build 9 = .ok (.ireturn, 1) := by decide +kernel
theorem dX5_build_10 : decode cX5_build 10 = .ok (.aload_n 0, 1) := by decide +kernel
theorem dX5_build_11 : decode cX5_build 11 = .ok (.getfield 13, 3) := by decide +kernel
theorem dX5_build_14 : decode cX5_build 14 = .ok (.bipush 18, 2) := by decide +kernel
theorem dX5_build_16 : decode cX5_build 16 = .ok (.iload_n 1, 1) := by decide +kernel
theorem dX5_build_17 : decode cX5_build 17 = .ok (.iadd, 1) := by decide +kernel
theorem dX5_build_18 : decode cX5_build 18 = .ok (.iaload, 1) := by decide +kernel
theorem dX5_build_19 : decode cX5_build 19 = .ok (.iconst 1, 1) := by decide +kernel
theorem dX5_build_20 : decode cX5_build 20 = .ok (.if_icmp .ne 6, 3) := by decide +kernel
theorem dX5_build_23 : decode cX5_build 23 = .ok (.bipush (-3), 2) := by decide +kernel
theorem dX5_build_25 : decode cX5_build 25 = .ok (.ireturn, 1) := by decide +kernel
theorem dX5_build_26 : decode cX5_build 26 = .ok (.aload_n 0, 1) := by decide +kernel
theorem dX5_build_27 : decode cX5_build 27 = .ok (.invokevirtual 108, 3) := by decide +kernel
theorem dX5_build_30 : decode cX5_build 30 = .ok (.aload_n 0, 1) := by decide +kernel
theorem dX5_build_31 : decode cX5_build 31 = .ok (.iconst 0, 1) := by decide +kernel
theorem dX5_build_32 : decode cX5_build 32 = .ok (.iload_n 1, 1) := by decide +kernel
theorem dX5_build_33 : decode cX5_build 33 = .ok (.invokevirtual 128, 3) := by decide +kernel
theorem dX5_build_36 : decode cX5_build 36 = .ok (.aload_n 0, 1) := by decide +kernel
theorem dX5_build_37 : decode cX5_build 37 = .ok (.getfield 13, 3) := by decide +kernel
theorem dX5_build_40 : decode cX5_build 40 = .ok (.bipush 6, 2) := by decide +kernel
theorem dX5_build_42 : decode cX5_build 42 = .ok (.iload_n 1, 1) := by decide +kernel
theorem dX5_build_43 : decode cX5_build 43 = .ok (.iadd, 1) := by decide +kernel
theorem dX5_build_44 : decode cX5_build 44 = .ok (.iaload, 1) := by decide +kernel
theorem dX5_build_45 : decode cX5_build 45 = .ok (.ireturn, 1) := by decide +kernel
theorem dX5_undo_0 : decode cX5_undo 0 = .ok (.aload_n 0, 1) := by decide +kernel
theorem dX5_undo_1 : decode cX5_undo 1 = .ok (.getfield 77, 3) := by decide +kernel
theorem dX5_undo_4 : decode cX5_undo 4 = .ok (.ifCond .ne 6, 3) := by decide +kernel
theorem dX5_undo_7 : decode cX5_undo 7 = .ok (.bipush (-3), 2) := by decide +kernel
theorem dX5_undo_9 : decode cX5_undo 9 = .ok (.ireturn, 1) := by decide +kernel
theorem dX5_undo_10 : decode cX5_undo 10 = .ok (.aload_n 0, 1) := by decide +kernel
theorem dX5_undo_11 : decode cX5_undo 11 = .ok (.dup, 1) := by decide +kernel
theorem dX5_undo_12 : decode cX5_undo 12 = .ok (.getfield 77, 3) := by decide +kernel
theorem dX5_undo_15 : decode cX5_undo 15 = .ok (.iconst 1, 1) := by decide +kernel
theorem dX5_undo_16 : decode cX5_undo 16 = .ok (.isub, 1) := by decide +kernel
theorem dX5_undo_17 : decode cX5_undo 17 = .ok (.putfield 77, 3) := by decide +kernel
theorem dX5_undo_20 : decode cX5_undo 20 = .ok (.aload_n 0, 1) := by decide +kernel
theorem dX5_undo_21 : decode cX5_undo 21 = .ok (.aload_n 0, 1) := by decide +kernel
theorem dX5_undo_22 : decode cX5_undo 22 = .ok (.getfield 105, 3) := by decide +kernel
theorem dX5_undo_25 : decode cX5_undo 25 = .ok (.bipush 13, 2) := by decide +kernel
theorem dX5_undo_27 : decode cX5_undo 27 = .ok (.iadd, 1) := by decide +kernel
theorem dX5_undo_28 : decode cX5_undo 28 = .ok (.bipush 14, 2) := by decide +kernel
theorem dX5_undo_30 : decode cX5_undo 30 = .ok (.irem, 1) := by decide +kernel
theorem dX5_undo_31 : decode cX5_undo 31 = .ok (.putfield 105, 3) := by decide +kernel
theorem dX5_undo_34 : decode cX5_undo 34 = .ok (.iconst 0, 1) := by decide +kernel
theorem dX5_undo_35 : decode cX5_undo 35 = .ok (.istore_n 1, 1) := by decide +kernel
theorem dX5_undo_36 : decode cX5_undo 36 = .ok (.iload_n 1, 1) := by decide +kernel
theorem dX5_undo_37 : decode cX5_undo 37 = .ok (.bipush 31, 2) := by decide +kernel
theorem dX5_undo_39 : decode cX5_undo 39 = .ok (.if_icmp .ge 29, 3) := by decide +kernel
theorem dX5_undo_42 : decode cX5_undo 42 = .ok (.aload_n 0, 1) := by decide +kernel
theorem dX5_undo_43 : decode cX5_undo 43 = .ok (.getfield 13, 3) := by decide +kernel
theorem dX5_undo_46 : decode cX5_undo 46 = .ok (.iload_n 1, 1) := by decide +kernel
theorem dX5_undo_47 : decode cX5_undo 47 = .ok (.aload_n 0, 1) := by decide +kernel
theorem dX5_undo_48 : decode cX5_undo 48 = .ok (.getfield 28, 3) := by decide +kernel
theorem dX5_undo_51 : decode cX5_undo 51 = .ok (.bipush 31, 2) := by decide +kernel
theorem dX5_undo_53 : decode cX5_undo 53 = .ok (.aload_n 0, 1) := by decide +kernel
theorem dX5_undo_54 : decode cX5_undo 54 = .ok (.getfield 105, 3) := by decide +kernel
theorem dX5_undo_57 : decode cX5_undo 57 = .ok (.imul, 1) := by decide +kernel
theorem dX5_undo_58 : decode cX5_undo 58 = .ok (.iload_n 1, 1) := by decide +kernel
theorem dX5_undo_59 : decode cX5_undo 59 = .ok (.iadd, 1) := by decide +kernel
theorem dX5_undo_60 : decode cX5_undo 60 = .ok (.iaload, 1) := by decide +kernel
theorem dX5_undo_61 : decode cX5_undo 61 = .ok (.iastore, 1) := by decide +kernel
theorem dX5_undo_62 : decode cX5_undo 62 = .ok (.iinc 1 1, 3) := by decide +kernel
theorem dX5_undo_65 : decode cX5_undo 65 = .ok (.goto (-29), 3) := by decide +kernel
theorem dX5_undo_68 : decode cX5_undo 68 = .ok (.aload_n 0, 1) := by decide +kernel
theorem dX5_undo_69 : decode cX5_undo 69 = .ok (.getfield 77, 3) := by decide +kernel
theorem dX5_undo_72 : decode cX5_undo 72 = .ok (.ireturn, 1) := by decide +kernel
theorem dX5_layTrial_0 : decode cX5_layTrial 0 = .ok (.iconst 0, 1) := by decide +kernel
theorem dX5_layTrial_1 : decode cX5_layTrial 1 = .ok (.istore_n 1, 1) := by decide +kernel
theorem dX5_layTrial_2 : decode cX5_layTrial 2 = .ok (.iload_n 1, 1) := by decide +kernel
theorem dX5_layTrial_3 : decode cX5_layTrial 3 = .ok (.bipush 31, 2) := by decide +kernel
theorem dX5_layTrial_5 : decode cX5_layTrial 5 = .ok (.if_icmp .ge 24, 3) := by decide +kernel
theorem dX5_layTrial_8 : decode cX5_layTrial 8 = .ok (.aload_n 0, 1) := by decide +kernel
theorem dX5_layTrial_9 : decode cX5_layTrial 9 = .ok (.getfield 13, 3) := by decide +kernel
theorem dX5_layTrial_12 : decode cX5_layTrial 12 = .ok (.bipush 31, 2) := by decide +kernel
theorem dX5_layTrial_14 : decode cX5_layTrial 14 = .ok (.iload_n 1, 1) := by decide +kernel
theorem dX5_layTrial_15 : decode cX5_layTrial 15 = .ok (.iadd, 1) := by decide +kernel
theorem dX5_layTrial_16 : decode cX5_layTrial 16 = .ok (.aload_n 0, 1) := by decide +kernel
theorem dX5_layTrial_17 : decode cX5_layTrial 17 = .ok (.getfield 13, 3) := by decide +kernel
theorem dX5_layTrial_20 : decode cX5_layTrial 20 = .ok (.iload_n 1, 1) := by decide +kernel
theorem dX5_layTrial_21 : decode cX5_layTrial 21 = .ok (.iaload, 1) := by decide +kernel
theorem dX5_layTrial_22 : decode cX5_layTrial 22 = .ok (.iastore, 1) := by decide +kernel
theorem dX5_layTrial_23 : decode cX5_layTrial 23 = .ok (.iinc 1 1, 3) := by decide +kernel
theorem dX5_layTrial_26 : decode cX5_layTrial 26 = .ok (.goto (-24), 3) := by decide +kernel
theorem dX5_layTrial_29 : decode cX5_layTrial 29 = .ok (.return_, 1) := by decide +kernel
theorem dX5_goOn_0 : decode cX5_goOn 0 = .ok (.iconst 0, 1) := by decide +kernel
theorem dX5_goOn_1 : decode cX5_goOn 1 = .ok (.istore_n 2, 1) := by decide +kernel
theorem dX5_goOn_2 : decode cX5_goOn 2 = .ok (.iconst 0, 1) := by decide +kernel
theorem dX5_goOn_3 : decode cX5_goOn 3 = .ok (.istore_n 3, 1) := by decide +kernel
theorem dX5_goOn_4 : decode cX5_goOn 4 = .ok (.iload_n 3, 1) := by decide +kernel
theorem dX5_goOn_5 : decode cX5_goOn 5 = .ok (.iload_n 1, 1) := by decide +kernel
theorem dX5_goOn_6 : decode cX5_goOn 6 = .ok (.if_icmp .ge 17, 3) := by decide +kernel
theorem dX5_goOn_9 : decode cX5_goOn 9 = .ok (.iload_n 2, 1) := by decide +kernel
theorem dX5_goOn_10 : decode cX5_goOn 10 = .ok (.aload_n 0, 1) := by decide +kernel
theorem dX5_goOn_11 : decode cX5_goOn 11 = .ok (.iconst 1, 1) := by decide +kernel
theorem dX5_goOn_12 : decode cX5_goOn 12 = .ok (.invokevirtual 111, 3) := by decide +kernel
theorem dX5_goOn_15 : decode cX5_goOn 15 = .ok (.ior, 1) := by decide +kernel
theorem dX5_goOn_16 : decode cX5_goOn 16 = .ok (.istore_n 2, 1) := by decide +kernel
theorem dX5_goOn_17 : decode cX5_goOn 17 = .ok (.iinc 3 1, 3) := by decide +kernel
theorem dX5_goOn_20 : decode cX5_goOn 20 = .ok (.goto (-16), 3) := by decide +kernel
theorem dX5_goOn_23 : decode cX5_goOn 23 = .ok (.iload_n 2, 1) := by decide +kernel
theorem dX5_goOn_24 : decode cX5_goOn 24 = .ok (.ireturn, 1) := by decide +kernel
theorem dX5_later_0 : decode cX5_later 0 = .ok (.aload_n 0, 1) := by decide +kernel
theorem dX5_later_1 : decode cX5_later 1 = .ok (.iload_n 1, 1) := by decide +kernel
theorem dX5_later_2 : decode cX5_later 2 = .ok (.invokevirtual 91, 3) := by decide +kernel
theorem dX5_later_5 : decode cX5_later 5 = .ok (.ifCond .ne 5, 3) := by decide +kernel
theorem dX5_later_8 : decode cX5_later 8 = .ok (.iconst (-1), 1) := by decide +kernel
theorem dX5_later_9 : decode cX5_later 9 = .ok (.ireturn, 1) := by decide +kernel
theorem dX5_later_10 : decode cX5_later 10 = .ok (.iload_n 2, 1) := by decide +kernel
theorem dX5_later_11 : decode cX5_later 11 = .ok (.i2l, 1) := by decide +kernel
theorem dX5_later_12 : decode cX5_later 12 = .ok (.lconst 0, 1) := by decide +kernel
theorem dX5_later_13 : decode cX5_later 13 = .ok (.ldc2_w 132, 3) := by decide +kernel
theorem dX5_later_16 : decode cX5_later 16 = .ok (.invokestatic 49, 3) := by decide +kernel
theorem dX5_later_19 : decode cX5_later 19 = .ok (.ifCond .eq 13, 3) := by decide +kernel
theorem dX5_later_22 : decode cX5_later 22 = .ok (.iload_n 3, 1) := by decide +kernel
theorem dX5_later_23 : decode cX5_later 23 = .ok (.i2l, 1) := by decide +kernel
theorem dX5_later_24 : decode cX5_later 24 = .ok (.lconst 0, 1) := by decide +kernel
theorem dX5_later_25 : decode cX5_later 25 = .ok (.lconst 1, 1) := by decide +kernel
theorem dX5_later_26 : decode cX5_later 26 = .ok (.invokestatic 49, 3) := by decide +kernel
theorem dX5_later_29 : decode cX5_later 29 = .ok (.ifCond .ne 6, 3) := by decide +kernel
theorem dX5_later_32 : decode cX5_later 32 = .ok (.bipush (-2), 2) := by decide +kernel
theorem dX5_later_34 : decode cX5_later 34 = .ok (.ireturn, 1) := by decide +kernel
theorem dX5_later_35 : decode cX5_later 35 = .ok (.aload_n 0, 1) := by decide +kernel
theorem dX5_later_36 : decode cX5_later 36 = .ok (.invokevirtual 134, 3) := by decide +kernel
theorem dX5_later_39 : decode cX5_later 39 = .ok (.aload_n 0, 1) := by decide +kernel
theorem dX5_later_40 : decode cX5_later 40 = .ok (.iload_n 2, 1) := by decide +kernel
theorem dX5_later_41 : decode cX5_later 41 = .ok (.invokevirtual 137, 3) := by decide +kernel
theorem dX5_later_44 : decode cX5_later 44 = .ok (.pop, 1) := by decide +kernel
theorem dX5_later_45 : decode cX5_later 45 = .ok (.iload_n 3, 1) := by decide +kernel
theorem dX5_later_46 : decode cX5_later 46 = .ok (.ifCond .ne 14, 3) := by decide +kernel
theorem dX5_later_49 : decode cX5_later 49 = .ok (.aload_n 0, 1) := by decide +kernel
theorem dX5_later_50 : decode cX5_later 50 = .ok (.iconst 1, 1) := by decide +kernel
theorem dX5_later_51 : decode cX5_later 51 = .ok (.bipush 24, 2) := by decide +kernel
theorem dX5_later_53 : decode cX5_later 53 = .ok (.iload_n 1, 1) := by decide +kernel
theorem dX5_later_54 : decode cX5_later 54 = .ok (.invokevirtual 80, 3) := by decide +kernel
theorem dX5_later_57 : decode cX5_later 57 = .ok (.goto 9, 3) := by decide +kernel
theorem dX5_later_60 : decode cX5_later 60 = .ok (.aload_n 0, 1) := by decide +kernel
theorem dX5_later_61 : decode cX5_later 61 = .ok (.iconst 1, 1) := by decide +kernel
theorem dX5_later_62 : decode cX5_later 62 = .ok (.iload_n 1, 1) := by decide +kernel
theorem dX5_later_63 : decode cX5_later 63 = .ok (.invokevirtual 99, 3) := by decide +kernel
theorem dX5_later_66 : decode cX5_later 66 = .ok (.ireturn, 1) := by decide +kernel
theorem dX5_standing_0 : decode cX5_standing 0 = .ok (.iload_n 1, 1) := by decide +kernel
theorem dX5_standing_1 : decode cX5_standing 1 = .ok (.i2l, 1) := by decide +kernel
theorem dX5_standing_2 : decode cX5_standing 2 = .ok (.lconst 0, 1) := by decide +kernel
theorem dX5_standing_3 : decode cX5_standing 3 = .ok (.ldc2_w 132, 3) := by decide +kernel
theorem dX5_standing_6 : decode cX5_standing 6 = .ok (.invokestatic 49, 3) := by decide +kernel
theorem dX5_standing_9 : decode cX5_standing 9 = .ok (.ifCond .ne 6, 3) := by decide +kernel
theorem dX5_standing_12 : decode cX5_standing 12 = .ok (.bipush (-2), 2) := by decide +kernel
theorem dX5_standing_14 : decode cX5_standing 14 = .ok (.ireturn, 1) := by decide +kernel
theorem dX5_standing_15 : decode cX5_standing 15 = .ok (.aload_n 0, 1) := by decide +kernel
theorem dX5_standing_16 : decode cX5_standing 16 = .ok (.invokevirtual 134, 3) := by decide +kernel
theorem dX5_standing_19 : decode cX5_standing 19 = .ok (.aload_n 0, 1) := by decide +kernel
theorem dX5_standing_20 : decode cX5_standing 20 = .ok (.iload_n 1, 1) := by decide +kernel
theorem dX5_standing_21 : decode cX5_standing 21 = .ok (.invokevirtual 137, 3) := by decide +kernel
theorem dX5_standing_24 : decode cX5_standing 24 = .ok (.pop, 1) := by decide +kernel
theorem dX5_standing_25 : decode cX5_standing 25 = .ok (.aload_n 0, 1) := by decide +kernel
theorem dX5_standing_26 : decode cX5_standing 26 = .ok (.iconst 1, 1) := by decide +kernel
theorem dX5_standing_27 : decode cX5_standing 27 = .ok (.invokevirtual 140, 3) := by decide +kernel
theorem dX5_standing_30 : decode cX5_standing 30 = .ok (.ireturn, 1) := by decide +kernel
theorem dX5_falls_0 : decode cX5_falls 0 = .ok (.aload_n 0, 1) := by decide +kernel
theorem dX5_falls_1 : decode cX5_falls 1 = .ok (.iload_n 1, 1) := by decide +kernel
theorem dX5_falls_2 : decode cX5_falls 2 = .ok (.invokevirtual 91, 3) := by decide +kernel
theorem dX5_falls_5 : decode cX5_falls 5 = .ok (.ifCond .ne 5, 3) := by decide +kernel
theorem dX5_falls_8 : decode cX5_falls 8 = .ok (.iconst (-1), 1) := by decide +kernel
theorem dX5_falls_9 : decode cX5_falls 9 = .ok (.ireturn, 1) := by decide +kernel
theorem dX5_falls_10 : decode cX5_falls 10 = .ok (.aload_n 0, 1) := by decide +kernel
theorem dX5_falls_11 : decode cX5_falls 11 = .ok (.getfield 13, 3) := by decide +kernel
theorem dX5_falls_14 : decode cX5_falls 14 = .ok (.bipush 18, 2) := by decide +kernel
theorem dX5_falls_16 : decode cX5_falls 16 = .ok (.iload_n 1, 1) := by decide +kernel
theorem dX5_falls_17 : decode cX5_falls 17 = .ok (.iadd, 1) := by decide +kernel
theorem dX5_falls_18 : decode cX5_falls 18 = .ok (.iaload, 1) := by decide +kernel
theorem dX5_falls_19 : decode cX5_falls 19 = .ok (.ifCond .ne 6, 3) := by decide +kernel
theorem dX5_falls_22 : decode cX5_falls 22 = .ok (.bipush (-3), 2) := by decide +kernel
theorem dX5_falls_24 : decode cX5_falls 24 = .ok (.ireturn, 1) := by decide +kernel
theorem dX5_falls_25 : decode cX5_falls 25 = .ok (.aload_n 0, 1) := by decide +kernel
theorem dX5_falls_26 : decode cX5_falls 26 = .ok (.invokevirtual 134, 3) := by decide +kernel
theorem dX5_falls_29 : decode cX5_falls 29 = .ok (.iconst 1, 1) := by decide +kernel
theorem dX5_falls_30 : decode cX5_falls 30 = .ok (.istore_n 2, 1) := by decide +kernel
theorem dX5_falls_31 : decode cX5_falls 31 = .ok (.iload_n 2, 1) := by decide +kernel
theorem dX5_falls_32 : decode cX5_falls 32 = .ok (.bipush 30, 2) := by decide +kernel
theorem dX5_falls_34 : decode cX5_falls 34 = .ok (.if_icmp .gt 23, 3) := by decide +kernel
theorem dX5_falls_37 : decode cX5_falls 37 = .ok (.aload_n 0, 1) := by decide +kernel
theorem dX5_falls_38 : decode cX5_falls 38 = .ok (.iconst 1, 1) := by decide +kernel
theorem dX5_falls_39 : decode cX5_falls 39 = .ok (.invokevirtual 137, 3) := by decide +kernel
theorem dX5_falls_42 : decode cX5_falls 42 = .ok (.iload_n 1, 1) := by decide +kernel
theorem dX5_falls_43 : decode cX5_falls 43 = .ok (.invokestatic 102, 3) := by decide +kernel
theorem dX5_falls_46 : decode cX5_falls 46 = .ok (.ifCond .eq 5, 3) := by decide +kernel
theorem dX5_falls_49 : decode cX5_falls 49 = .ok (.iload_n 2, 1) := by decide +kernel
theorem dX5_falls_50 : decode cX5_falls 50 = .ok (.ireturn, 1) := by decide +kernel
theorem dX5_falls_51 : decode cX5_falls 51 = .ok (.iinc 2 1, 3) := by decide +kernel
theorem dX5_falls_54 : decode cX5_falls 54 = .ok (.goto (-23), 3) := by decide +kernel
theorem dX5_falls_57 : decode cX5_falls 57 = .ok (.bipush (-9), 2) := by decide +kernel
theorem dX5_falls_59 : decode cX5_falls 59 = .ok (.ireturn, 1) := by decide +kernel
theorem dX5_rings_0 : decode cX5_rings 0 = .ok (.iconst 0, 1) := by decide +kernel
theorem dX5_rings_1 : decode cX5_rings 1 = .ok (.istore_n 1, 1) := by decide +kernel
theorem dX5_rings_2 : decode cX5_rings 2 = .ok (.iconst 0, 1) := by decide +kernel
theorem dX5_rings_3 : decode cX5_rings 3 = .ok (.istore_n 2, 1) := by decide +kernel
theorem dX5_rings_4 : decode cX5_rings 4 = .ok (.iload_n 2, 1) := by decide +kernel
theorem dX5_rings_5 : decode cX5_rings 5 = .ok (.aload_n 0, 1) := by decide +kernel
theorem dX5_rings_6 : decode cX5_rings 6 = .ok (.getfield 74, 3) := by decide +kernel
theorem dX5_rings_9 : decode cX5_rings 9 = .ok (.if_icmp .ge 44, 3) := by decide +kernel
theorem dX5_rings_12 : decode cX5_rings 12 = .ok (.aload_n 0, 1) := by decide +kernel
theorem dX5_rings_13 : decode cX5_rings 13 = .ok (.iconst 0, 1) := by decide +kernel
theorem dX5_rings_14 : decode cX5_rings 14 = .ok (.iload_n 2, 1) := by decide +kernel
theorem dX5_rings_15 : decode cX5_rings 15 = .ok (.invokevirtual 88, 3) := by decide +kernel
theorem dX5_rings_18 : decode cX5_rings 18 = .ok (.istore_n 3, 1) := by decide +kernel
theorem dX5_rings_19 : decode cX5_rings 19 = .ok (.iload_n 1, 1) := by decide +kernel
theorem dX5_rings_20 : decode cX5_rings 20 = .ok (.aload_n 0, 1) := by decide +kernel
theorem dX5_rings_21 : decode cX5_rings 21 = .ok (.iload_n 3, 1) := by decide +kernel
theorem dX5_rings_22 : decode cX5_rings 22 = .ok (.invokevirtual 91, 3) := by decide +kernel
theorem dX5_rings_25 : decode cX5_rings 25 = .ok (.ifCond .eq 19, 3) := by decide +kernel
theorem dX5_rings_28 : decode cX5_rings 28 = .ok (.aload_n 0, 1) := by decide +kernel
theorem dX5_rings_29 : decode cX5_rings 29 = .ok (.iconst 0, 1) := by decide +kernel
theorem dX5_rings_30 : decode cX5_rings 30 = .ok (.iload_n 3, 1) := by decide +kernel
theorem dX5_rings_31 : decode cX5_rings 31 = .ok (.invokevirtual 88, 3) := by decide +kernel
theorem dX5_rings_34 : decode cX5_rings 34 = .ok (.iload_n 2, 1) := by decide +kernel
theorem dX5_rings_35 : decode cX5_rings 35 = .ok (.if_icmp .ne 9, 3) := by decide +kernel
theorem dX5_rings_38 : decode cX5_rings 38 = .ok (.iconst 1, 1) := by decide +kernel
theorem dX5_rings_39 : decode cX5_rings 39 = .ok (.iload_n 2, 1) := by decide +kernel
theorem dX5_rings_40 : decode cX5_rings 40 = .ok (.ishl, 1) := by decide +kernel
theorem dX5_rings_41 : decode cX5_rings 41 = .ok (.goto 4, 3) := by decide +kernel
theorem dX5_rings_44 : decode cX5_rings 44 = .ok (.iconst 0, 1) := by decide +kernel
theorem dX5_rings_45 : decode cX5_rings 45 = .ok (.ior, 1) := by decide +kernel
theorem dX5_rings_46 : decode cX5_rings 46 = .ok (.istore_n 1, 1) := by decide +kernel
theorem dX5_rings_47 : decode cX5_rings 47 = .ok (.iinc 2 1, 3) := by decide +kernel
theorem dX5_rings_50 : decode cX5_rings 50 = .ok (.goto (-46), 3) := by decide +kernel
theorem dX5_rings_53 : decode cX5_rings 53 = .ok (.iload_n 1, 1) := by decide +kernel
theorem dX5_rings_54 : decode cX5_rings 54 = .ok (.ireturn, 1) := by decide +kernel
theorem dX5_tenTo_0 : decode cX5_tenTo 0 = .ok (.lconst 1, 1) := by decide +kernel
theorem dX5_tenTo_1 : decode cX5_tenTo 1 = .ok (.lstore_n 1, 1) := by decide +kernel
theorem dX5_tenTo_2 : decode cX5_tenTo 2 = .ok (.iconst 0, 1) := by decide +kernel
theorem dX5_tenTo_3 : decode cX5_tenTo 3 = .ok (.istore_n 3, 1) := by decide +kernel
theorem dX5_tenTo_4 : decode cX5_tenTo 4 = .ok (.iload_n 3, 1) := by decide +kernel
theorem dX5_tenTo_5 : decode cX5_tenTo 5 = .ok (.iload_n 0, 1) := by decide +kernel
theorem dX5_tenTo_6 : decode cX5_tenTo 6 = .ok (.if_icmp .ge 15, 3) := by decide +kernel
theorem dX5_tenTo_9 : decode cX5_tenTo 9 = .ok (.lload_n 1, 1) := by decide +kernel
theorem dX5_tenTo_10 : decode cX5_tenTo 10 = .ok (.ldc2_w 143, 3) := by decide +kernel
theorem dX5_tenTo_13 : decode cX5_tenTo 13 = .ok (.lmul, 1) := by decide +kernel
theorem dX5_tenTo_14 : decode cX5_tenTo 14 = .ok (.lstore_n 1, 1) := by decide +kernel
theorem dX5_tenTo_15 : decode cX5_tenTo 15 = .ok (.iinc 3 1, 3) := by decide +kernel
theorem dX5_tenTo_18 : decode cX5_tenTo 18 = .ok (.goto (-14), 3) := by decide +kernel
theorem dX5_tenTo_21 : decode cX5_tenTo 21 = .ok (.lload_n 1, 1) := by decide +kernel
theorem dX5_tenTo_22 : decode cX5_tenTo 22 = .ok (.lreturn, 1) := by decide +kernel
theorem dX5_areMoves_0 : decode cX5_areMoves 0 = .ok (.iconst 1, 1) := by decide +kernel
theorem dX5_areMoves_1 : decode cX5_areMoves 1 = .ok (.istore 4, 2) := by decide +kernel
theorem dX5_areMoves_3 : decode cX5_areMoves 3 = .ok (.iconst 0, 1) := by decide +kernel
theorem dX5_areMoves_4 : decode cX5_areMoves 4 = .ok (.istore 5, 2) := by decide +kernel
theorem dX5_areMoves_6 : decode cX5_areMoves 6 = .ok (.iload 5, 2) := by decide +kernel
theorem dX5_areMoves_8 : decode cX5_areMoves 8 = .ok (.iload_n 1, 1) := by decide +kernel
theorem dX5_areMoves_9 : decode cX5_areMoves 9 = .ok (.if_icmp .ge 69, 3) := by decide +kernel
theorem dX5_areMoves_12 : decode cX5_areMoves 12 = .ok (.lload_n 2, 1) := by decide +kernel
theorem dX5_areMoves_13 : decode cX5_areMoves 13 = .ok (.iconst 3, 1) := by decide +kernel
theorem dX5_areMoves_14 : decode cX5_areMoves 14 = .ok (.iload 5, 2) := by decide +kernel
theorem dX5_areMoves_16 : decode cX5_areMoves 16 = .ok (.imul, 1) := by decide +kernel
theorem dX5_areMoves_17 : decode cX5_areMoves 17 = .ok (.invokestatic 145, 3) := by decide +kernel
theorem dX5_areMoves_20 : decode cX5_areMoves 20 = .ok (.ldiv, 1) := by decide +kernel
theorem dX5_areMoves_21 : decode cX5_areMoves 21 = .ok (.ldc2_w 149, 3) := by decide +kernel
theorem dX5_areMoves_24 : decode cX5_areMoves 24 = .ok (.lrem, 1) := by decide +kernel
theorem dX5_areMoves_25 : decode cX5_areMoves 25 = .ok (.l2i, 1) := by decide +kernel
theorem dX5_areMoves_26 : decode cX5_areMoves 26 = .ok (.istore 6, 2) := by decide +kernel
theorem dX5_areMoves_28 : decode cX5_areMoves 28 = .ok (.iload 4, 2) := by decide +kernel
theorem dX5_areMoves_30 : decode cX5_areMoves 30 = .ok (.ifCond .eq 39, 3) := by decide +kernel
theorem dX5_areMoves_33 : decode cX5_areMoves 33 = .ok (.aload_n 0, 1) := by decide +kernel
theorem dX5_areMoves_34 : decode cX5_areMoves 34 = .ok (.iload 6, 2) := by decide +kernel
theorem dX5_areMoves_36 : decode cX5_areMoves 36 = .ok (.bipush 100, 2) := by decide +kernel
theorem dX5_areMoves_38 : decode cX5_areMoves 38 = .ok (.idiv, 1) := by decide +kernel
theorem dX5_areMoves_39 : decode cX5_areMoves 39 = .ok (.invokevirtual 91, 3) := by decide +kernel
theorem dX5_areMoves_42 : decode cX5_areMoves 42 = .ok (.ifCond .eq 27, 3) := by decide +kernel
theorem dX5_areMoves_45 : decode cX5_areMoves 45 = .ok (.iload 6, 2) := by decide +kernel
theorem dX5_areMoves_47 : decode cX5_areMoves 47 = .ok (.bipush 10, 2) := by decide +kernel
theorem dX5_areMoves_49 : decode cX5_areMoves 49 = .ok (.idiv, 1) := by decide +kernel
theorem dX5_areMoves_50 : decode cX5_areMoves 50 = .ok (.bipush 10, 2) := by decide +kernel
theorem dX5_areMoves_52 : decode cX5_areMoves 52 = .ok (.irem, 1) := by decide +kernel
theorem dX5_areMoves_53 : decode cX5_areMoves 53 = .ok (.iconst 2, 1) := by decide +kernel
theorem dX5_areMoves_54 : decode cX5_areMoves 54 = .ok (.if_icmp .ge 15, 3) := by decide +kernel
theorem dX5_areMoves_57 : decode cX5_areMoves 57 = .ok (.iload 6, 2) := by decide +kernel
theorem dX5_areMoves_59 : decode cX5_areMoves 59 = .ok (.bipush 10, 2) := by decide +kernel
theorem dX5_areMoves_61 : decode cX5_areMoves 61 = .ok (.irem, 1) := by decide +kernel
theorem dX5_areMoves_62 : decode cX5_areMoves 62 = .ok (.ifCond .le 7, 3) := by decide +kernel
theorem dX5_areMoves_65 : decode cX5_areMoves 65 = .ok (.iconst 1, 1) := by decide +kernel
theorem dX5_areMoves_66 : decode cX5_areMoves 66 = .ok (.goto 4, 3) := by decide +kernel
theorem dX5_areMoves_69 : decode cX5_areMoves 69 = .ok (.iconst 0, 1) := by decide +kernel
theorem dX5_areMoves_70 : decode cX5_areMoves 70 = .ok (.istore 4, 2) := by decide +kernel
theorem dX5_areMoves_72 : decode cX5_areMoves 72 = .ok (.iinc 5 1, 3) := by decide +kernel
theorem dX5_areMoves_75 : decode cX5_areMoves 75 = .ok (.goto (-69), 3) := by decide +kernel
theorem dX5_areMoves_78 : decode cX5_areMoves 78 = .ok (.iload 4, 2) := by decide +kernel
theorem dX5_areMoves_80 : decode cX5_areMoves 80 = .ok (.ireturn, 1) := by decide +kernel
theorem dX5_canMove_0 : decode cX5_canMove 0 = .ok (.aload_n 0, 1) := by decide +kernel
theorem dX5_canMove_1 : decode cX5_canMove 1 = .ok (.invokevirtual 134, 3) := by decide +kernel
theorem dX5_canMove_4 : decode cX5_canMove 4 = .ok (.iconst 1, 1) := by decide +kernel
theorem dX5_canMove_5 : decode cX5_canMove 5 = .ok (.istore 5, 2) := by decide +kernel
theorem dX5_canMove_7 : decode cX5_canMove 7 = .ok (.iload_n 1, 1) := by decide +kernel
theorem dX5_canMove_8 : decode cX5_canMove 8 = .ok (.iconst 1, 1) := by decide +kernel
theorem dX5_canMove_9 : decode cX5_canMove 9 = .ok (.isub, 1) := by decide +kernel
theorem dX5_canMove_10 : decode cX5_canMove 10 = .ok (.istore 6, 2) := by decide +kernel
theorem dX5_canMove_12 : decode cX5_canMove 12 = .ok (.iload 6, 2) := by decide +kernel
theorem dX5_canMove_14 : decode cX5_canMove 14 = .ok (.ifCond .lt 163, 3) := by decide +kernel
theorem dX5_canMove_17 : decode cX5_canMove 17 = .ok (.iload 5, 2) := by decide +kernel
theorem dX5_canMove_19 : decode cX5_canMove 19 = .ok (.ifCond .eq 158, 3) := by decide +kernel
theorem dX5_canMove_22 : decode cX5_canMove 22 = .ok (.iload 4, 2) := by decide +kernel
theorem dX5_canMove_24 : decode cX5_canMove 24 = .ok (.i2l, 1) := by decide +kernel
theorem dX5_canMove_25 : decode cX5_canMove 25 = .ok (.iload 6, 2) := by decide +kernel
theorem dX5_canMove_27 : decode cX5_canMove 27 = .ok (.invokestatic 145, 3) := by decide +kernel
theorem dX5_canMove_30 : decode cX5_canMove 30 = .ok (.ldiv, 1) := by decide +kernel
theorem dX5_canMove_31 : decode cX5_canMove 31 = .ok (.ldc2_w 143, 3) := by decide +kernel
theorem dX5_canMove_34 : decode cX5_canMove 34 = .ok (.lrem, 1) := by decide +kernel
theorem dX5_canMove_35 : decode cX5_canMove 35 = .ok (.l2i, 1) := by decide +kernel
theorem dX5_canMove_36 : decode cX5_canMove 36 = .ok (.istore 7, 2) := by decide +kernel
theorem dX5_canMove_38 : decode cX5_canMove 38 = .ok (.lload_n 2, 1) := by decide +kernel
theorem dX5_canMove_39 : decode cX5_canMove 39 = .ok (.iconst 3, 1) := by decide +kernel
theorem dX5_canMove_40 : decode cX5_canMove 40 = .ok (.iload_n 1, 1) := by decide +kernel
theorem dX5_canMove_41 : decode cX5_canMove 41 = .ok (.iload 7, 2) := by decide +kernel
theorem dX5_canMove_43 : decode cX5_canMove 43 = .ok (.isub, 1) := by decide +kernel
theorem dX5_canMove_44 : decode cX5_canMove 44 = .ok (.imul, 1) := by decide +kernel
theorem dX5_canMove_45 : decode cX5_canMove 45 = .ok (.invokestatic 145, 3) := by decide +kernel
theorem dX5_canMove_48 : decode cX5_canMove 48 = .ok (.ldiv, 1) := by decide +kernel
theorem dX5_canMove_49 : decode cX5_canMove 49 = .ok (.ldc2_w 149, 3) := by decide +kernel
theorem dX5_canMove_52 : decode cX5_canMove 52 = .ok (.lrem, 1) := by decide +kernel
theorem dX5_canMove_53 : decode cX5_canMove 53 = .ok (.l2i, 1) := by decide +kernel
theorem dX5_canMove_54 : decode cX5_canMove 54 = .ok (.istore 8, 2) := by decide +kernel
theorem dX5_canMove_56 : decode cX5_canMove 56 = .ok (.iload 8, 2) := by decide +kernel
theorem dX5_canMove_58 : decode cX5_canMove 58 = .ok (.bipush 100, 2) := by decide +kernel
theorem dX5_canMove_60 : decode cX5_canMove 60 = .ok (.idiv, 1) := by decide +kernel
theorem dX5_canMove_61 : decode cX5_canMove 61 = .ok (.istore 9, 2) := by decide +kernel
theorem dX5_canMove_63 : decode cX5_canMove 63 = .ok (.iload 8, 2) := by decide +kernel
theorem dX5_canMove_65 : decode cX5_canMove 65 = .ok (.bipush 10, 2) := by decide +kernel
theorem dX5_canMove_67 : decode cX5_canMove 67 = .ok (.irem, 1) := by decide +kernel
theorem dX5_canMove_68 : decode cX5_canMove 68 = .ok (.istore 10, 2) := by decide +kernel
theorem dX5_canMove_70 : decode cX5_canMove 70 = .ok (.iload 8, 2) := by decide +kernel
theorem dX5_canMove_72 : decode cX5_canMove 72 = .ok (.bipush 10, 2) := by decide +kernel
theorem dX5_canMove_74 : decode cX5_canMove 74 = .ok (.idiv, 1) := by decide +kernel
theorem dX5_canMove_75 : decode cX5_canMove 75 = .ok (.bipush 10, 2) := by decide +kernel
theorem dX5_canMove_77 : decode cX5_canMove 77 = .ok (.irem, 1) := by decide +kernel
theorem dX5_canMove_78 : decode cX5_canMove 78 = .ok (.ifCond .ne 7, 3) := by decide +kernel
theorem dX5_canMove_81 : decode cX5_canMove 81 = .ok (.iconst 1, 1) := by decide +kernel
theorem dX5_canMove_82 : decode cX5_canMove 82 = .ok (.goto 4, 3) := by decide +kernel
theorem dX5_canMove_85 : decode cX5_canMove 85 = .ok (.iconst 0, 1) := by decide +kernel
theorem dX5_canMove_86 : decode cX5_canMove 86 = .ok (.istore 11, 2) := by decide +kernel
theorem dX5_canMove_88 : decode cX5_canMove 88 = .ok (.iload 11, 2) := by decide +kernel
theorem dX5_canMove_90 : decode cX5_canMove 90 = .ok (.ifCond .eq 15, 3) := by decide +kernel
theorem dX5_canMove_93 : decode cX5_canMove 93 = .ok (.aload_n 0, 1) := by decide +kernel
theorem dX5_canMove_94 : decode cX5_canMove 94 = .ok (.iconst 1, 1) := by decide +kernel
theorem dX5_canMove_95 : decode cX5_canMove 95 = .ok (.iload 9, 2) := by decide +kernel
theorem dX5_canMove_97 : decode cX5_canMove 97 = .ok (.iload 10, 2) := by decide +kernel
theorem dX5_canMove_99 : decode cX5_canMove 99 = .ok (.invokevirtual 119, 3) := by decide +kernel
theorem dX5_canMove_102 : decode cX5_canMove 102 = .ok (.goto 12, 3) := by decide +kernel
theorem dX5_canMove_105 : decode cX5_canMove 105 = .ok (.aload_n 0, 1) := by decide +kernel
theorem dX5_canMove_106 : decode cX5_canMove 106 = .ok (.iconst 1, 1) := by decide +kernel
theorem dX5_canMove_107 : decode cX5_canMove 107 = .ok (.iload 9, 2) := by decide +kernel
theorem dX5_canMove_109 : decode cX5_canMove 109 = .ok (.iload 10, 2) := by decide +kernel
theorem dX5_canMove_111 : decode cX5_canMove 111 = .ok (.invokevirtual 123, 3) := by decide +kernel
theorem dX5_canMove_114 : decode cX5_canMove 114 = .ok (.istore 5, 2) := by decide +kernel
theorem dX5_canMove_116 : decode cX5_canMove 116 = .ok (.aload_n 0, 1) := by decide +kernel
theorem dX5_canMove_117 : decode cX5_canMove 117 = .ok (.getfield 13, 3) := by decide +kernel
theorem dX5_canMove_120 : decode cX5_canMove 120 = .ok (.bipush 37, 2) := by decide +kernel
theorem dX5_canMove_122 : decode cX5_canMove 122 = .ok (.iload 9, 2) := by decide +kernel
theorem dX5_canMove_124 : decode cX5_canMove 124 = .ok (.iadd, 1) := by decide +kernel
theorem dX5_canMove_125 : decode cX5_canMove 125 = .ok (.dup2, 1) := by decide +kernel
theorem dX5_canMove_126 : decode cX5_canMove 126 = .ok (.iaload, 1) := by decide +kernel
theorem dX5_canMove_127 : decode cX5_canMove 127 = .ok (.iload 5, 2) := by decide +kernel
theorem dX5_canMove_129 : decode cX5_canMove 129 = .ok (.ifCond .ne 7, 3) := by decide +kernel
theorem dX5_canMove_132 : decode cX5_canMove 132 = .ok (.iconst 0, 1) := by decide +kernel
theorem dX5_canMove_133 : decode cX5_canMove 133 = .ok (.goto 16, 3) := by decide +kernel
theorem dX5_canMove_136 : decode cX5_canMove 136 = .ok (.iload 11, 2) := by decide +kernel
theorem dX5_canMove_138 : decode cX5_canMove 138 = .ok (.ifCond .eq 8, 3) := by decide +kernel
theorem dX5_canMove_141 : decode cX5_canMove 141 = .ok (.iload 10, 2) := by decide +kernel
theorem dX5_canMove_143 : decode cX5_canMove 143 = .ok (.goto 6, 3) := by decide +kernel
theorem dX5_canMove_146 : decode cX5_canMove 146 = .ok (.iload 10, 2) := by decide +kernel
theorem dX5_canMove_148 : decode cX5_canMove 148 = .ok (.ineg, 1) := by decide +kernel
theorem dX5_canMove_149 : decode cX5_canMove 149 = .ok (.iadd, 1) := by decide +kernel
theorem dX5_canMove_150 : decode cX5_canMove 150 = .ok (.iastore, 1) := by decide +kernel
theorem dX5_canMove_151 : decode cX5_canMove 151 = .ok (.iload 5, 2) := by decide +kernel
theorem dX5_canMove_153 : decode cX5_canMove 153 = .ok (.ifCond .eq 15, 3) := by decide +kernel
theorem dX5_canMove_156 : decode cX5_canMove 156 = .ok (.aload_n 0, 1) := by decide +kernel
theorem dX5_canMove_157 : decode cX5_canMove 157 = .ok (.iconst 1, 1) := by decide +kernel
theorem dX5_canMove_158 : decode cX5_canMove 158 = .ok (.invokevirtual 137, 3) := by decide +kernel
theorem dX5_canMove_161 : decode cX5_canMove 161 = .ok (.ifCond .ne 7, 3) := by decide +kernel
theorem dX5_canMove_164 : decode cX5_canMove 164 = .ok (.iconst 1, 1) := by decide +kernel
theorem dX5_canMove_165 : decode cX5_canMove 165 = .ok (.goto 4, 3) := by decide +kernel
theorem dX5_canMove_168 : decode cX5_canMove 168 = .ok (.iconst 0, 1) := by decide +kernel
theorem dX5_canMove_169 : decode cX5_canMove 169 = .ok (.istore 5, 2) := by decide +kernel
theorem dX5_canMove_171 : decode cX5_canMove 171 = .ok (.iinc 6 (-1), 3) := by decide +kernel
theorem dX5_canMove_174 : decode cX5_canMove 174 = .ok (.goto (-162), 3) := by decide +kernel
theorem dX5_canMove_177 : decode cX5_canMove 177 = .ok (.iload 5, 2) := by decide +kernel
end
section
theorem dX5_canMove_179 : decode cX5_canMove 179 = .ok (.ireturn, 1) := by decide +kernel
theorem dX5_isOrder_0 : decode cX5_isOrder 0 = .ok (.iconst 0, 1) := by decide +kernel
theorem dX5_isOrder_1 : decode cX5_isOrder 1 = .ok (.istore_n 2, 1) := by decide +kernel
theorem dX5_isOrder_2 : decode cX5_isOrder 2 = .ok (.iload_n 1, 1) := by decide +kernel
theorem dX5_isOrder_3 : decode cX5_isOrder 3 = .ok (.istore_n 3, 1) := by decide +kernel
theorem dX5_isOrder_4 : decode cX5_isOrder 4 = .ok (.iconst 0, 1) := by decide +kernel
theorem dX5_isOrder_5 : decode cX5_isOrder 5 = .ok (.istore 4, 2) := by decide +kernel
theorem dX5_isOrder_7 : decode cX5_isOrder 7 = .ok (.iload 4, 2) := by decide +kernel
theorem dX5_isOrder_9 : decode cX5_isOrder 9 = .ok (.iload_n 0, 1) := by decide +kernel
theorem dX5_isOrder_10 : decode cX5_isOrder 10 = .ok (.if_icmp .ge 23, 3) := by decide +kernel
theorem dX5_isOrder_13 : decode cX5_isOrder 13 = .ok (.iload_n 2, 1) := by decide +kernel
theorem dX5_isOrder_14 : decode cX5_isOrder 14 = .ok (.iconst 1, 1) := by decide +kernel
theorem dX5_isOrder_15 : decode cX5_isOrder 15 = .ok (.iload_n 3, 1) := by decide +kernel
theorem dX5_isOrder_16 : decode cX5_isOrder 16 = .ok (.bipush 10, 2) := by decide +kernel
theorem dX5_isOrder_18 : decode cX5_isOrder 18 = .ok (.irem, 1) := by decide +kernel
theorem dX5_isOrder_19 : decode cX5_isOrder 19 = .ok (.ishl, 1) := by decide +kernel
theorem dX5_isOrder_20 : decode cX5_isOrder 20 = .ok (.ior, 1) := by decide +kernel
theorem dX5_isOrder_21 : decode cX5_isOrder 21 = .ok (.istore_n 2, 1) := by decide +kernel
theorem dX5_isOrder_22 : decode cX5_isOrder 22 = .ok (.iload_n 3, 1) := by decide +kernel
theorem dX5_isOrder_23 : decode cX5_isOrder 23 = .ok (.bipush 10, 2) := by decide +kernel
theorem dX5_isOrder_25 : decode cX5_isOrder 25 = .ok (.idiv, 1) := by decide +kernel
theorem dX5_isOrder_26 : decode cX5_isOrder 26 = .ok (.istore_n 3, 1) := by decide +kernel
theorem dX5_isOrder_27 : decode cX5_isOrder 27 = .ok (.iinc 4 1, 3) := by decide +kernel
theorem dX5_isOrder_30 : decode cX5_isOrder 30 = .ok (.goto (-23), 3) := by decide +kernel
theorem dX5_isOrder_33 : decode cX5_isOrder 33 = .ok (.iload_n 3, 1) := by decide +kernel
theorem dX5_isOrder_34 : decode cX5_isOrder 34 = .ok (.ifCond .ne 18, 3) := by decide +kernel
theorem dX5_isOrder_37 : decode cX5_isOrder 37 = .ok (.iload_n 2, 1) := by decide +kernel
theorem dX5_isOrder_38 : decode cX5_isOrder 38 = .ok (.iconst 1, 1) := by decide +kernel
theorem dX5_isOrder_39 : decode cX5_isOrder 39 = .ok (.iload_n 0, 1) := by decide +kernel
theorem dX5_isOrder_40 : decode cX5_isOrder 40 = .ok (.iconst 1, 1) := by decide +kernel
theorem dX5_isOrder_41 : decode cX5_isOrder 41 = .ok (.iadd, 1) := by decide +kernel
theorem dX5_isOrder_42 : decode cX5_isOrder 42 = .ok (.ishl, 1) := by decide +kernel
theorem dX5_isOrder_43 : decode cX5_isOrder 43 = .ok (.iconst 2, 1) := by decide +kernel
theorem dX5_isOrder_44 : decode cX5_isOrder 44 = .ok (.isub, 1) := by decide +kernel
theorem dX5_isOrder_45 : decode cX5_isOrder 45 = .ok (.if_icmp .ne 7, 3) := by decide +kernel
theorem dX5_isOrder_48 : decode cX5_isOrder 48 = .ok (.iconst 1, 1) := by decide +kernel
theorem dX5_isOrder_49 : decode cX5_isOrder 49 = .ok (.goto 4, 3) := by decide +kernel
theorem dX5_isOrder_52 : decode cX5_isOrder 52 = .ok (.iconst 0, 1) := by decide +kernel
theorem dX5_isOrder_53 : decode cX5_isOrder 53 = .ok (.ireturn, 1) := by decide +kernel
theorem dX5_orders_0 : decode cX5_orders 0 = .ok (.iload_n 1, 1) := by decide +kernel
theorem dX5_orders_1 : decode cX5_orders 1 = .ok (.i2l, 1) := by decide +kernel
theorem dX5_orders_2 : decode cX5_orders 2 = .ok (.lconst 1, 1) := by decide +kernel
theorem dX5_orders_3 : decode cX5_orders 3 = .ok (.ldc2_w 151, 3) := by decide +kernel
theorem dX5_orders_6 : decode cX5_orders 6 = .ok (.invokestatic 49, 3) := by decide +kernel
theorem dX5_orders_9 : decode cX5_orders 9 = .ok (.ifCond .eq 39, 3) := by decide +kernel
theorem dX5_orders_12 : decode cX5_orders 12 = .ok (.lload_n 2, 1) := by decide +kernel
theorem dX5_orders_13 : decode cX5_orders 13 = .ok (.lconst 0, 1) := by decide +kernel
theorem dX5_orders_14 : decode cX5_orders 14 = .ok (.iconst 3, 1) := by decide +kernel
theorem dX5_orders_15 : decode cX5_orders 15 = .ok (.iload_n 1, 1) := by decide +kernel
theorem dX5_orders_16 : decode cX5_orders 16 = .ok (.imul, 1) := by decide +kernel
theorem dX5_orders_17 : decode cX5_orders 17 = .ok (.invokestatic 145, 3) := by decide +kernel
theorem dX5_orders_20 : decode cX5_orders 20 = .ok (.lconst 1, 1) := by decide +kernel
theorem dX5_orders_21 : decode cX5_orders 21 = .ok (.lsub, 1) := by decide +kernel
theorem dX5_orders_22 : decode cX5_orders 22 = .ok (.invokestatic 49, 3) := by decide +kernel
theorem dX5_orders_25 : decode cX5_orders 25 = .ok (.ifCond .eq 23, 3) := by decide +kernel
theorem dX5_orders_28 : decode cX5_orders 28 = .ok (.aload_n 0, 1) := by decide +kernel
theorem dX5_orders_29 : decode cX5_orders 29 = .ok (.iload_n 1, 1) := by decide +kernel
theorem dX5_orders_30 : decode cX5_orders 30 = .ok (.lload_n 2, 1) := by decide +kernel
theorem dX5_orders_31 : decode cX5_orders 31 = .ok (.invokevirtual 153, 3) := by decide +kernel
theorem dX5_orders_34 : decode cX5_orders 34 = .ok (.ifCond .eq 14, 3) := by decide +kernel
theorem dX5_orders_37 : decode cX5_orders 37 = .ok (.iload 4, 2) := by decide +kernel
theorem dX5_orders_39 : decode cX5_orders 39 = .ok (.i2l, 1) := by decide +kernel
theorem dX5_orders_40 : decode cX5_orders 40 = .ok (.lconst 0, 1) := by decide +kernel
theorem dX5_orders_41 : decode cX5_orders 41 = .ok (.lconst 1, 1) := by decide +kernel
theorem dX5_orders_42 : decode cX5_orders 42 = .ok (.invokestatic 49, 3) := by decide +kernel
theorem dX5_orders_45 : decode cX5_orders 45 = .ok (.ifCond .ne 6, 3) := by decide +kernel
theorem dX5_orders_48 : decode cX5_orders 48 = .ok (.bipush (-2), 2) := by decide +kernel
theorem dX5_orders_50 : decode cX5_orders 50 = .ok (.ireturn, 1) := by decide +kernel
theorem dX5_orders_51 : decode cX5_orders 51 = .ok (.iconst 0, 1) := by decide +kernel
theorem dX5_orders_52 : decode cX5_orders 52 = .ok (.istore 5, 2) := by decide +kernel
theorem dX5_orders_54 : decode cX5_orders 54 = .ok (.bipush (-9), 2) := by decide +kernel
theorem dX5_orders_56 : decode cX5_orders 56 = .ok (.istore 6, 2) := by decide +kernel
theorem dX5_orders_58 : decode cX5_orders 58 = .ok (.iconst 1, 1) := by decide +kernel
theorem dX5_orders_59 : decode cX5_orders 59 = .ok (.istore 7, 2) := by decide +kernel
theorem dX5_orders_61 : decode cX5_orders 61 = .ok (.iload 7, 2) := by decide +kernel
theorem dX5_orders_63 : decode cX5_orders 63 = .ok (.sipush 5000, 3) := by decide +kernel
theorem dX5_orders_66 : decode cX5_orders 66 = .ok (.if_icmp .ge 46, 3) := by decide +kernel
theorem dX5_orders_69 : decode cX5_orders 69 = .ok (.iload_n 1, 1) := by decide +kernel
theorem dX5_orders_70 : decode cX5_orders 70 = .ok (.iload 7, 2) := by decide +kernel
theorem dX5_orders_72 : decode cX5_orders 72 = .ok (.invokestatic 157, 3) := by decide +kernel
theorem dX5_orders_75 : decode cX5_orders 75 = .ok (.ifCond .eq 31, 3) := by decide +kernel
theorem dX5_orders_78 : decode cX5_orders 78 = .ok (.aload_n 0, 1) := by decide +kernel
theorem dX5_orders_79 : decode cX5_orders 79 = .ok (.iload_n 1, 1) := by decide +kernel
theorem dX5_orders_80 : decode cX5_orders 80 = .ok (.lload_n 2, 1) := by decide +kernel
theorem dX5_orders_81 : decode cX5_orders 81 = .ok (.iload 7, 2) := by decide +kernel
theorem dX5_orders_83 : decode cX5_orders 83 = .ok (.invokevirtual 160, 3) := by decide +kernel
theorem dX5_orders_86 : decode cX5_orders 86 = .ok (.ifCond .eq 20, 3) := by decide +kernel
theorem dX5_orders_89 : decode cX5_orders 89 = .ok (.iload 5, 2) := by decide +kernel
theorem dX5_orders_91 : decode cX5_orders 91 = .ok (.ifCond .ne 8, 3) := by decide +kernel
theorem dX5_orders_94 : decode cX5_orders 94 = .ok (.iload 7, 2) := by decide +kernel
theorem dX5_orders_96 : decode cX5_orders 96 = .ok (.goto 5, 3) := by decide +kernel
theorem dX5_orders_99 : decode cX5_orders 99 = .ok (.iload 6, 2) := by decide +kernel
theorem dX5_orders_101 : decode cX5_orders 101 = .ok (.istore 6, 2) := by decide +kernel
theorem dX5_orders_103 : decode cX5_orders 103 = .ok (.iinc 5 1, 3) := by decide +kernel
theorem dX5_orders_106 : decode cX5_orders 106 = .ok (.iinc 7 1, 3) := by decide +kernel
theorem dX5_orders_109 : decode cX5_orders 109 = .ok (.goto (-48), 3) := by decide +kernel
theorem dX5_orders_112 : decode cX5_orders 112 = .ok (.iload 4, 2) := by decide +kernel
theorem dX5_orders_114 : decode cX5_orders 114 = .ok (.ifCond .ne 8, 3) := by decide +kernel
theorem dX5_orders_117 : decode cX5_orders 117 = .ok (.iload 5, 2) := by decide +kernel
theorem dX5_orders_119 : decode cX5_orders 119 = .ok (.goto 5, 3) := by decide +kernel
theorem dX5_orders_122 : decode cX5_orders 122 = .ok (.iload 6, 2) := by decide +kernel
theorem dX5_orders_124 : decode cX5_orders 124 = .ok (.ireturn, 1) := by decide +kernel
theorem dX5_piano_0 : decode cX5_piano 0 = .ok (.iload_n 1, 1) := by decide +kernel
theorem dX5_piano_1 : decode cX5_piano 1 = .ok (.i2l, 1) := by decide +kernel
theorem dX5_piano_2 : decode cX5_piano 2 = .ok (.lconst 1, 1) := by decide +kernel
theorem dX5_piano_3 : decode cX5_piano 3 = .ok (.ldc2_w 117, 3) := by decide +kernel
theorem dX5_piano_6 : decode cX5_piano 6 = .ok (.invokestatic 49, 3) := by decide +kernel
theorem dX5_piano_9 : decode cX5_piano 9 = .ok (.ifCond .ne 6, 3) := by decide +kernel
theorem dX5_piano_12 : decode cX5_piano 12 = .ok (.bipush (-2), 2) := by decide +kernel
theorem dX5_piano_14 : decode cX5_piano 14 = .ok (.ireturn, 1) := by decide +kernel
theorem dX5_piano_15 : decode cX5_piano 15 = .ok (.iconst 0, 1) := by decide +kernel
theorem dX5_piano_16 : decode cX5_piano 16 = .ok (.istore_n 2, 1) := by decide +kernel
theorem dX5_piano_17 : decode cX5_piano 17 = .ok (.iconst 0, 1) := by decide +kernel
theorem dX5_piano_18 : decode cX5_piano 18 = .ok (.istore_n 3, 1) := by decide +kernel
theorem dX5_piano_19 : decode cX5_piano 19 = .ok (.iload_n 3, 1) := by decide +kernel
theorem dX5_piano_20 : decode cX5_piano 20 = .ok (.aload_n 0, 1) := by decide +kernel
theorem dX5_piano_21 : decode cX5_piano 21 = .ok (.getfield 74, 3) := by decide +kernel
theorem dX5_piano_24 : decode cX5_piano 24 = .ok (.if_icmp .ge 89, 3) := by decide +kernel
theorem dX5_piano_27 : decode cX5_piano 27 = .ok (.aload_n 0, 1) := by decide +kernel
theorem dX5_piano_28 : decode cX5_piano 28 = .ok (.invokevirtual 134, 3) := by decide +kernel
theorem dX5_piano_31 : decode cX5_piano 31 = .ok (.aload_n 0, 1) := by decide +kernel
theorem dX5_piano_32 : decode cX5_piano 32 = .ok (.getfield 13, 3) := by decide +kernel
theorem dX5_piano_35 : decode cX5_piano 35 = .ok (.bipush 18, 2) := by decide +kernel
theorem dX5_piano_37 : decode cX5_piano 37 = .ok (.iload_n 3, 1) := by decide +kernel
theorem dX5_piano_38 : decode cX5_piano 38 = .ok (.iadd, 1) := by decide +kernel
theorem dX5_piano_39 : decode cX5_piano 39 = .ok (.iaload, 1) := by decide +kernel
theorem dX5_piano_40 : decode cX5_piano 40 = .ok (.iconst 1, 1) := by decide +kernel
theorem dX5_piano_41 : decode cX5_piano 41 = .ok (.if_icmp .ne 17, 3) := by decide +kernel
theorem dX5_piano_44 : decode cX5_piano 44 = .ok (.aload_n 0, 1) := by decide +kernel
theorem dX5_piano_45 : decode cX5_piano 45 = .ok (.iconst 0, 1) := by decide +kernel
theorem dX5_piano_46 : decode cX5_piano 46 = .ok (.iload_n 3, 1) := by decide +kernel
theorem dX5_piano_47 : decode cX5_piano 47 = .ok (.iload_n 1, 1) := by decide +kernel
theorem dX5_piano_48 : decode cX5_piano 48 = .ok (.invokevirtual 119, 3) := by decide +kernel
theorem dX5_piano_51 : decode cX5_piano 51 = .ok (.ifCond .eq 7, 3) := by decide +kernel
theorem dX5_piano_54 : decode cX5_piano 54 = .ok (.iconst 1, 1) := by decide +kernel
theorem dX5_piano_55 : decode cX5_piano 55 = .ok (.goto 4, 3) := by decide +kernel
theorem dX5_piano_58 : decode cX5_piano 58 = .ok (.iconst 0, 1) := by decide +kernel
theorem dX5_piano_59 : decode cX5_piano 59 = .ok (.istore 4, 2) := by decide +kernel
theorem dX5_piano_61 : decode cX5_piano 61 = .ok (.aload_n 0, 1) := by decide +kernel
theorem dX5_piano_62 : decode cX5_piano 62 = .ok (.getfield 13, 3) := by decide +kernel
theorem dX5_piano_65 : decode cX5_piano 65 = .ok (.bipush 37, 2) := by decide +kernel
theorem dX5_piano_67 : decode cX5_piano 67 = .ok (.iload_n 3, 1) := by decide +kernel
theorem dX5_piano_68 : decode cX5_piano 68 = .ok (.iadd, 1) := by decide +kernel
theorem dX5_piano_69 : decode cX5_piano 69 = .ok (.dup2, 1) := by decide +kernel
theorem dX5_piano_70 : decode cX5_piano 70 = .ok (.iaload, 1) := by decide +kernel
theorem dX5_piano_71 : decode cX5_piano 71 = .ok (.iload 4, 2) := by decide +kernel
theorem dX5_piano_73 : decode cX5_piano 73 = .ok (.ifCond .eq 7, 3) := by decide +kernel
theorem dX5_piano_76 : decode cX5_piano 76 = .ok (.iload_n 1, 1) := by decide +kernel
theorem dX5_piano_77 : decode cX5_piano 77 = .ok (.goto 4, 3) := by decide +kernel
theorem dX5_piano_80 : decode cX5_piano 80 = .ok (.iconst 0, 1) := by decide +kernel
theorem dX5_piano_81 : decode cX5_piano 81 = .ok (.iadd, 1) := by decide +kernel
theorem dX5_piano_82 : decode cX5_piano 82 = .ok (.iastore, 1) := by decide +kernel
theorem dX5_piano_83 : decode cX5_piano 83 = .ok (.iload_n 2, 1) := by decide +kernel
theorem dX5_piano_84 : decode cX5_piano 84 = .ok (.iload 4, 2) := by decide +kernel
theorem dX5_piano_86 : decode cX5_piano 86 = .ok (.ifCond .eq 18, 3) := by decide +kernel
theorem dX5_piano_89 : decode cX5_piano 89 = .ok (.aload_n 0, 1) := by decide +kernel
theorem dX5_piano_90 : decode cX5_piano 90 = .ok (.bipush 6, 2) := by decide +kernel
theorem dX5_piano_92 : decode cX5_piano 92 = .ok (.invokevirtual 137, 3) := by decide +kernel
theorem dX5_piano_95 : decode cX5_piano 95 = .ok (.ifCond .ne 9, 3) := by decide +kernel
theorem dX5_piano_98 : decode cX5_piano 98 = .ok (.iconst 1, 1) := by decide +kernel
theorem dX5_piano_99 : decode cX5_piano 99 = .ok (.iload_n 3, 1) := by decide +kernel
theorem dX5_piano_100 : decode cX5_piano 100 = .ok (.ishl, 1) := by decide +kernel
theorem dX5_piano_101 : decode cX5_piano 101 = .ok (.goto 4, 3) := by decide +kernel
theorem dX5_piano_104 : decode cX5_piano 104 = .ok (.iconst 0, 1) := by decide +kernel
theorem dX5_piano_105 : decode cX5_piano 105 = .ok (.ior, 1) := by decide +kernel
theorem dX5_piano_106 : decode cX5_piano 106 = .ok (.istore_n 2, 1) := by decide +kernel
theorem dX5_piano_107 : decode cX5_piano 107 = .ok (.iinc 3 1, 3) := by decide +kernel
theorem dX5_piano_110 : decode cX5_piano 110 = .ok (.goto (-91), 3) := by decide +kernel
theorem dX5_piano_113 : decode cX5_piano 113 = .ok (.iload_n 2, 1) := by decide +kernel
theorem dX5_piano_114 : decode cX5_piano 114 = .ok (.ireturn, 1) := by decide +kernel
theorem dX5_isSafe_0 : decode cX5_isSafe 0 = .ok (.aload_n 0, 1) := by decide +kernel
theorem dX5_isSafe_1 : decode cX5_isSafe 1 = .ok (.invokevirtual 134, 3) := by decide +kernel
theorem dX5_isSafe_4 : decode cX5_isSafe 4 = .ok (.aload_n 0, 1) := by decide +kernel
theorem dX5_isSafe_5 : decode cX5_isSafe 5 = .ok (.getfield 13, 3) := by decide +kernel
theorem dX5_isSafe_8 : decode cX5_isSafe 8 = .ok (.bipush 37, 2) := by decide +kernel
theorem dX5_isSafe_10 : decode cX5_isSafe 10 = .ok (.iload_n 1, 1) := by decide +kernel
theorem dX5_isSafe_11 : decode cX5_isSafe 11 = .ok (.iadd, 1) := by decide +kernel
theorem dX5_isSafe_12 : decode cX5_isSafe 12 = .ok (.dup2, 1) := by decide +kernel
theorem dX5_isSafe_13 : decode cX5_isSafe 13 = .ok (.iaload, 1) := by decide +kernel
theorem dX5_isSafe_14 : decode cX5_isSafe 14 = .ok (.iload_n 3, 1) := by decide +kernel
theorem dX5_isSafe_15 : decode cX5_isSafe 15 = .ok (.isub, 1) := by decide +kernel
theorem dX5_isSafe_16 : decode cX5_isSafe 16 = .ok (.iastore, 1) := by decide +kernel
theorem dX5_isSafe_17 : decode cX5_isSafe 17 = .ok (.aload_n 0, 1) := by decide +kernel
theorem dX5_isSafe_18 : decode cX5_isSafe 18 = .ok (.getfield 13, 3) := by decide +kernel
theorem dX5_isSafe_21 : decode cX5_isSafe 21 = .ok (.bipush 37, 2) := by decide +kernel
theorem dX5_isSafe_23 : decode cX5_isSafe 23 = .ok (.iload_n 2, 1) := by decide +kernel
theorem dX5_isSafe_24 : decode cX5_isSafe 24 = .ok (.iadd, 1) := by decide +kernel
theorem dX5_isSafe_25 : decode cX5_isSafe 25 = .ok (.dup2, 1) := by decide +kernel
theorem dX5_isSafe_26 : decode cX5_isSafe 26 = .ok (.iaload, 1) := by decide +kernel
theorem dX5_isSafe_27 : decode cX5_isSafe 27 = .ok (.iload 4, 2) := by decide +kernel
theorem dX5_isSafe_29 : decode cX5_isSafe 29 = .ok (.isub, 1) := by decide +kernel
theorem dX5_isSafe_30 : decode cX5_isSafe 30 = .ok (.iastore, 1) := by decide +kernel
theorem dX5_isSafe_31 : decode cX5_isSafe 31 = .ok (.aload_n 0, 1) := by decide +kernel
theorem dX5_isSafe_32 : decode cX5_isSafe 32 = .ok (.getfield 13, 3) := by decide +kernel
theorem dX5_isSafe_35 : decode cX5_isSafe 35 = .ok (.bipush 37, 2) := by decide +kernel
theorem dX5_isSafe_37 : decode cX5_isSafe 37 = .ok (.iload_n 1, 1) := by decide +kernel
theorem dX5_isSafe_38 : decode cX5_isSafe 38 = .ok (.iadd, 1) := by decide +kernel
theorem dX5_isSafe_39 : decode cX5_isSafe 39 = .ok (.iaload, 1) := by decide +kernel
theorem dX5_isSafe_40 : decode cX5_isSafe 40 = .ok (.ifCond .lt 28, 3) := by decide +kernel
theorem dX5_isSafe_43 : decode cX5_isSafe 43 = .ok (.aload_n 0, 1) := by decide +kernel
theorem dX5_isSafe_44 : decode cX5_isSafe 44 = .ok (.getfield 13, 3) := by decide +kernel
theorem dX5_isSafe_47 : decode cX5_isSafe 47 = .ok (.bipush 37, 2) := by decide +kernel
theorem dX5_isSafe_49 : decode cX5_isSafe 49 = .ok (.iload_n 2, 1) := by decide +kernel
theorem dX5_isSafe_50 : decode cX5_isSafe 50 = .ok (.iadd, 1) := by decide +kernel
theorem dX5_isSafe_51 : decode cX5_isSafe 51 = .ok (.iaload, 1) := by decide +kernel
theorem dX5_isSafe_52 : decode cX5_isSafe 52 = .ok (.ifCond .lt 16, 3) := by decide +kernel
theorem dX5_isSafe_55 : decode cX5_isSafe 55 = .ok (.aload_n 0, 1) := by decide +kernel
theorem dX5_isSafe_56 : decode cX5_isSafe 56 = .ok (.bipush 6, 2) := by decide +kernel
theorem dX5_isSafe_58 : decode cX5_isSafe 58 = .ok (.invokevirtual 137, 3) := by decide +kernel
theorem dX5_isSafe_61 : decode cX5_isSafe 61 = .ok (.ifCond .ne 7, 3) := by decide +kernel
theorem dX5_isSafe_64 : decode cX5_isSafe 64 = .ok (.iconst 1, 1) := by decide +kernel
theorem dX5_isSafe_65 : decode cX5_isSafe 65 = .ok (.goto 4, 3) := by decide +kernel
theorem dX5_isSafe_68 : decode cX5_isSafe 68 = .ok (.iconst 0, 1) := by decide +kernel
theorem dX5_isSafe_69 : decode cX5_isSafe 69 = .ok (.ireturn, 1) := by decide +kernel
theorem dX5_sacks_0 : decode cX5_sacks 0 = .ok (.iload_n 1, 1) := by decide +kernel
theorem dX5_sacks_1 : decode cX5_sacks 1 = .ok (.i2l, 1) := by decide +kernel
theorem dX5_sacks_2 : decode cX5_sacks 2 = .ok (.lconst 0, 1) := by decide +kernel
theorem dX5_sacks_3 : decode cX5_sacks 3 = .ok (.lconst 1, 1) := by decide +kernel
theorem dX5_sacks_4 : decode cX5_sacks 4 = .ok (.invokestatic 49, 3) := by decide +kernel
theorem dX5_sacks_7 : decode cX5_sacks 7 = .ok (.ifCond .ne 6, 3) := by decide +kernel
theorem dX5_sacks_10 : decode cX5_sacks 10 = .ok (.bipush (-2), 2) := by decide +kernel
theorem dX5_sacks_12 : decode cX5_sacks 12 = .ok (.ireturn, 1) := by decide +kernel
theorem dX5_sacks_13 : decode cX5_sacks 13 = .ok (.aload_n 0, 1) := by decide +kernel
theorem dX5_sacks_14 : decode cX5_sacks 14 = .ok (.invokevirtual 134, 3) := by decide +kernel
theorem dX5_sacks_17 : decode cX5_sacks 17 = .ok (.aload_n 0, 1) := by decide +kernel
theorem dX5_sacks_18 : decode cX5_sacks 18 = .ok (.bipush 6, 2) := by decide +kernel
theorem dX5_sacks_20 : decode cX5_sacks 20 = .ok (.invokevirtual 137, 3) := by decide +kernel
theorem dX5_sacks_23 : decode cX5_sacks 23 = .ok (.ifCond .ne 5, 3) := by decide +kernel
theorem dX5_sacks_26 : decode cX5_sacks 26 = .ok (.iconst 0, 1) := by decide +kernel
theorem dX5_sacks_27 : decode cX5_sacks 27 = .ok (.ireturn, 1) := by decide +kernel
theorem dX5_sacks_28 : decode cX5_sacks 28 = .ok (.iconst 1, 1) := by decide +kernel
theorem dX5_sacks_29 : decode cX5_sacks 29 = .ok (.istore_n 2, 1) := by decide +kernel
theorem dX5_sacks_30 : decode cX5_sacks 30 = .ok (.iload_n 2, 1) := by decide +kernel
theorem dX5_sacks_31 : decode cX5_sacks 31 = .ok (.bipush 18, 2) := by decide +kernel
theorem dX5_sacks_33 : decode cX5_sacks 33 = .ok (.if_icmp .gt 151, 3) := by decide +kernel
theorem dX5_sacks_36 : decode cX5_sacks 36 = .ok (.iconst 0, 1) := by decide +kernel
theorem dX5_sacks_37 : decode cX5_sacks 37 = .ok (.istore_n 3, 1) := by decide +kernel
theorem dX5_sacks_38 : decode cX5_sacks 38 = .ok (.iload_n 3, 1) := by decide +kernel
theorem dX5_sacks_39 : decode cX5_sacks 39 = .ok (.bipush 36, 2) := by decide +kernel
theorem dX5_sacks_41 : decode cX5_sacks 41 = .ok (.if_icmp .ge 137, 3) := by decide +kernel
theorem dX5_sacks_44 : decode cX5_sacks 44 = .ok (.iload_n 3, 1) := by decide +kernel
theorem dX5_sacks_45 : decode cX5_sacks 45 = .ok (.bipush 6, 2) := by decide +kernel
theorem dX5_sacks_47 : decode cX5_sacks 47 = .ok (.idiv, 1) := by decide +kernel
theorem dX5_sacks_48 : decode cX5_sacks 48 = .ok (.istore 4, 2) := by decide +kernel
theorem dX5_sacks_50 : decode cX5_sacks 50 = .ok (.iload_n 3, 1) := by decide +kernel
theorem dX5_sacks_51 : decode cX5_sacks 51 = .ok (.bipush 6, 2) := by decide +kernel
theorem dX5_sacks_53 : decode cX5_sacks 53 = .ok (.irem, 1) := by decide +kernel
theorem dX5_sacks_54 : decode cX5_sacks 54 = .ok (.istore 5, 2) := by decide +kernel
theorem dX5_sacks_56 : decode cX5_sacks 56 = .ok (.iconst 1, 1) := by decide +kernel
theorem dX5_sacks_57 : decode cX5_sacks 57 = .ok (.istore 6, 2) := by decide +kernel
theorem dX5_sacks_59 : decode cX5_sacks 59 = .ok (.iload 6, 2) := by decide +kernel
theorem dX5_sacks_61 : decode cX5_sacks 61 = .ok (.bipush 9, 2) := by decide +kernel
theorem dX5_sacks_63 : decode cX5_sacks 63 = .ok (.if_icmp .gt 109, 3) := by decide +kernel
theorem dX5_sacks_66 : decode cX5_sacks 66 = .ok (.aload_n 0, 1) := by decide +kernel
theorem dX5_sacks_67 : decode cX5_sacks 67 = .ok (.iload 4, 2) := by decide +kernel
theorem dX5_sacks_69 : decode cX5_sacks 69 = .ok (.invokevirtual 91, 3) := by decide +kernel
theorem dX5_sacks_72 : decode cX5_sacks 72 = .ok (.ifCond .eq 100, 3) := by decide +kernel
theorem dX5_sacks_75 : decode cX5_sacks 75 = .ok (.aload_n 0, 1) := by decide +kernel
theorem dX5_sacks_76 : decode cX5_sacks 76 = .ok (.iload 5, 2) := by decide +kernel
theorem dX5_sacks_78 : decode cX5_sacks 78 = .ok (.invokevirtual 91, 3) := by decide +kernel
theorem dX5_sacks_81 : decode cX5_sacks 81 = .ok (.ifCond .eq 91, 3) := by decide +kernel
theorem dX5_sacks_84 : decode cX5_sacks 84 = .ok (.iload 4, 2) := by decide +kernel
theorem dX5_sacks_86 : decode cX5_sacks 86 = .ok (.iload 5, 2) := by decide +kernel
theorem dX5_sacks_88 : decode cX5_sacks 88 = .ok (.if_icmp .gt 84, 3) := by decide +kernel
theorem dX5_sacks_91 : decode cX5_sacks 91 = .ok (.iload_n 2, 1) := by decide +kernel
theorem dX5_sacks_92 : decode cX5_sacks 92 = .ok (.iload 6, 2) := by decide +kernel
theorem dX5_sacks_94 : decode cX5_sacks 94 = .ok (.isub, 1) := by decide +kernel
theorem dX5_sacks_95 : decode cX5_sacks 95 = .ok (.istore 7, 2) := by decide +kernel
theorem dX5_sacks_97 : decode cX5_sacks 97 = .ok (.iload 4, 2) := by decide +kernel
theorem dX5_sacks_99 : decode cX5_sacks 99 = .ok (.iload 5, 2) := by decide +kernel
theorem dX5_sacks_101 : decode cX5_sacks 101 = .ok (.if_icmp .ne 16, 3) := by decide +kernel
theorem dX5_sacks_104 : decode cX5_sacks 104 = .ok (.iload 7, 2) := by decide +kernel
theorem dX5_sacks_106 : decode cX5_sacks 106 = .ok (.ifCond .ne 7, 3) := by decide +kernel
theorem dX5_sacks_109 : decode cX5_sacks 109 = .ok (.iconst 1, 1) := by decide +kernel
theorem dX5_sacks_110 : decode cX5_sacks 110 = .ok (.goto 17, 3) := by decide +kernel
theorem dX5_sacks_113 : decode cX5_sacks 113 = .ok (.iconst 0, 1) := by decide +kernel
theorem dX5_sacks_114 : decode cX5_sacks 114 = .ok (.goto 13, 3) := by decide +kernel
theorem dX5_sacks_117 : decode cX5_sacks 117 = .ok (.iload 7, 2) := by decide +kernel
theorem dX5_sacks_119 : decode cX5_sacks 119 = .ok (.i2l, 1) := by decide +kernel
theorem dX5_sacks_120 : decode cX5_sacks 120 = .ok (.lconst 1, 1) := by decide +kernel
theorem dX5_sacks_121 : decode cX5_sacks 121 = .ok (.ldc2_w 117, 3) := by decide +kernel
theorem dX5_sacks_124 : decode cX5_sacks 124 = .ok (.invokestatic 49, 3) := by decide +kernel
theorem dX5_sacks_127 : decode cX5_sacks 127 = .ok (.istore 8, 2) := by decide +kernel
theorem dX5_sacks_129 : decode cX5_sacks 129 = .ok (.iload 8, 2) := by decide +kernel
theorem dX5_sacks_131 : decode cX5_sacks 131 = .ok (.ifCond .eq 35, 3) := by decide +kernel
theorem dX5_sacks_134 : decode cX5_sacks 134 = .ok (.aload_n 0, 1) := by decide +kernel
theorem dX5_sacks_135 : decode cX5_sacks 135 = .ok (.iload 4, 2) := by decide +kernel
theorem dX5_sacks_137 : decode cX5_sacks 137 = .ok (.iload 5, 2) := by decide +kernel
theorem dX5_sacks_139 : decode cX5_sacks 139 = .ok (.iload 6, 2) := by decide +kernel
theorem dX5_sacks_141 : decode cX5_sacks 141 = .ok (.iload 7, 2) := by decide +kernel
theorem dX5_sacks_143 : decode cX5_sacks 143 = .ok (.invokevirtual 164, 3) := by decide +kernel
theorem dX5_sacks_146 : decode cX5_sacks 146 = .ok (.ifCond .eq 20, 3) := by decide +kernel
theorem dX5_sacks_149 : decode cX5_sacks 149 = .ok (.iload_n 1, 1) := by decide +kernel
theorem dX5_sacks_150 : decode cX5_sacks 150 = .ok (.ifCond .ne 7, 3) := by decide +kernel
theorem dX5_sacks_153 : decode cX5_sacks 153 = .ok (.iload_n 2, 1) := by decide +kernel
theorem dX5_sacks_154 : decode cX5_sacks 154 = .ok (.goto 11, 3) := by decide +kernel
theorem dX5_sacks_157 : decode cX5_sacks 157 = .ok (.bipush 10, 2) := by decide +kernel
theorem dX5_sacks_159 : decode cX5_sacks 159 = .ok (.iload 4, 2) := by decide +kernel
theorem dX5_sacks_161 : decode cX5_sacks 161 = .ok (.imul, 1) := by decide +kernel
theorem dX5_sacks_162 : decode cX5_sacks 162 = .ok (.iload 5, 2) := by decide +kernel
theorem dX5_sacks_164 : decode cX5_sacks 164 = .ok (.iadd, 1) := by decide +kernel
theorem dX5_sacks_165 : decode cX5_sacks 165 = .ok (.ireturn, 1) := by decide +kernel
theorem dX5_sacks_166 : decode cX5_sacks 166 = .ok (.iinc 6 1, 3) := by decide +kernel
theorem dX5_sacks_169 : decode cX5_sacks 169 = .ok (.goto (-110), 3) := by decide +kernel
theorem dX5_sacks_172 : decode cX5_sacks 172 = .ok (.iinc 3 1, 3) := by decide +kernel
theorem dX5_sacks_175 : decode cX5_sacks 175 = .ok (.goto (-137), 3) := by decide +kernel
theorem dX5_sacks_178 : decode cX5_sacks 178 = .ok (.iinc 2 1, 3) := by decide +kernel
theorem dX5_sacks_181 : decode cX5_sacks 181 = .ok (.goto (-151), 3) := by decide +kernel
theorem dX5_sacks_184 : decode cX5_sacks 184 = .ok (.bipush (-9), 2) := by decide +kernel
theorem dX5_sacks_186 : decode cX5_sacks 186 = .ok (.ireturn, 1) := by decide +kernel
theorem dX5_tryThing_0 : decode cX5_tryThing 0 = .ok (.iload_n 3, 1) := by decide +kernel
theorem dX5_tryThing_1 : decode cX5_tryThing 1 = .ok (.bipush 10, 2) := by decide +kernel
theorem dX5_tryThing_3 : decode cX5_tryThing 3 = .ok (.idiv, 1) := by decide +kernel
theorem dX5_tryThing_4 : decode cX5_tryThing 4 = .ok (.istore 4, 2) := by decide +kernel
theorem dX5_tryThing_6 : decode cX5_tryThing 6 = .ok (.iload_n 3, 1) := by decide +kernel
theorem dX5_tryThing_7 : decode cX5_tryThing 7 = .ok (.bipush 10, 2) := by decide +kernel
theorem dX5_tryThing_9 : decode cX5_tryThing 9 = .ok (.irem, 1) := by decide +kernel
theorem dX5_tryThing_10 : decode cX5_tryThing 10 = .ok (.istore 5, 2) := by decide +kernel
theorem dX5_tryThing_12 : decode cX5_tryThing 12 = .ok (.iload_n 1, 1) := by decide +kernel
theorem dX5_tryThing_13 : decode cX5_tryThing 13 = .ok (.tableswitch 391 0 6 #[43, 72, 131, 190, 263, 328, 365], 43) := by decide +kernel
theorem dX5_tryThing_56 : decode cX5_tryThing 56 = .ok (.iload_n 2, 1) := by decide +kernel
theorem dX5_tryThing_57 : decode cX5_tryThing 57 = .ok (.ifCond .ne 11, 3) := by decide +kernel
theorem dX5_tryThing_60 : decode cX5_tryThing 60 = .ok (.iload_n 3, 1) := by decide +kernel
theorem dX5_tryThing_61 : decode cX5_tryThing 61 = .ok (.ifCond .ne 7, 3) := by decide +kernel
theorem dX5_tryThing_64 : decode cX5_tryThing 64 = .ok (.iconst 1, 1) := by decide +kernel
theorem dX5_tryThing_65 : decode cX5_tryThing 65 = .ok (.goto 4, 3) := by decide +kernel
theorem dX5_tryThing_68 : decode cX5_tryThing 68 = .ok (.iconst 0, 1) := by decide +kernel
theorem dX5_tryThing_69 : decode cX5_tryThing 69 = .ok (.istore 6, 2) := by decide +kernel
theorem dX5_tryThing_71 : decode cX5_tryThing 71 = .ok (.iload 6, 2) := by decide +kernel
theorem dX5_tryThing_73 : decode cX5_tryThing 73 = .ok (.ifCond .eq 9, 3) := by decide +kernel
theorem dX5_tryThing_76 : decode cX5_tryThing 76 = .ok (.aload_n 0, 1) := by decide +kernel
theorem dX5_tryThing_77 : decode cX5_tryThing 77 = .ok (.iconst 1, 1) := by decide +kernel
theorem dX5_tryThing_78 : decode cX5_tryThing 78 = .ok (.invokevirtual 137, 3) := by decide +kernel
theorem dX5_tryThing_81 : decode cX5_tryThing 81 = .ok (.pop, 1) := by decide +kernel
theorem dX5_tryThing_82 : decode cX5_tryThing 82 = .ok (.iload 6, 2) := by decide +kernel
theorem dX5_tryThing_84 : decode cX5_tryThing 84 = .ok (.ireturn, 1) := by decide +kernel
theorem dX5_tryThing_85 : decode cX5_tryThing 85 = .ok (.iload_n 2, 1) := by decide +kernel
theorem dX5_tryThing_86 : decode cX5_tryThing 86 = .ok (.ifCond .ne 19, 3) := by decide +kernel
theorem dX5_tryThing_89 : decode cX5_tryThing 89 = .ok (.aload_n 0, 1) := by decide +kernel
theorem dX5_tryThing_90 : decode cX5_tryThing 90 = .ok (.iconst 1, 1) := by decide +kernel
theorem dX5_tryThing_91 : decode cX5_tryThing 91 = .ok (.iload 4, 2) := by decide +kernel
theorem dX5_tryThing_93 : decode cX5_tryThing 93 = .ok (.iload 5, 2) := by decide +kernel
theorem dX5_tryThing_95 : decode cX5_tryThing 95 = .ok (.invokevirtual 119, 3) := by decide +kernel
theorem dX5_tryThing_98 : decode cX5_tryThing 98 = .ok (.ifCond .eq 7, 3) := by decide +kernel
theorem dX5_tryThing_101 : decode cX5_tryThing 101 = .ok (.iconst 1, 1) := by decide +kernel
theorem dX5_tryThing_102 : decode cX5_tryThing 102 = .ok (.goto 4, 3) := by decide +kernel
theorem dX5_tryThing_105 : decode cX5_tryThing 105 = .ok (.iconst 0, 1) := by decide +kernel
theorem dX5_tryThing_106 : decode cX5_tryThing 106 = .ok (.istore 7, 2) := by decide +kernel
theorem dX5_tryThing_108 : decode cX5_tryThing 108 = .ok (.aload_n 0, 1) := by decide +kernel
theorem dX5_tryThing_109 : decode cX5_tryThing 109 = .ok (.getfield 13, 3) := by decide +kernel
theorem dX5_tryThing_112 : decode cX5_tryThing 112 = .ok (.bipush 37, 2) := by decide +kernel
theorem dX5_tryThing_114 : decode cX5_tryThing 114 = .ok (.iload 7, 2) := by decide +kernel
theorem dX5_tryThing_116 : decode cX5_tryThing 116 = .ok (.ifCond .eq 8, 3) := by decide +kernel
theorem dX5_tryThing_119 : decode cX5_tryThing 119 = .ok (.iload 4, 2) := by decide +kernel
theorem dX5_tryThing_121 : decode cX5_tryThing 121 = .ok (.goto 4, 3) := by decide +kernel
theorem dX5_tryThing_124 : decode cX5_tryThing 124 = .ok (.iconst 0, 1) := by decide +kernel
theorem dX5_tryThing_125 : decode cX5_tryThing 125 = .ok (.iadd, 1) := by decide +kernel
theorem dX5_tryThing_126 : decode cX5_tryThing 126 = .ok (.dup2, 1) := by decide +kernel
theorem dX5_tryThing_127 : decode cX5_tryThing 127 = .ok (.iaload, 1) := by decide +kernel
theorem dX5_tryThing_128 : decode cX5_tryThing 128 = .ok (.iload 7, 2) := by decide +kernel
theorem dX5_tryThing_130 : decode cX5_tryThing 130 = .ok (.ifCond .eq 8, 3) := by decide +kernel
theorem dX5_tryThing_133 : decode cX5_tryThing 133 = .ok (.iload 5, 2) := by decide +kernel
theorem dX5_tryThing_135 : decode cX5_tryThing 135 = .ok (.goto 4, 3) := by decide +kernel
theorem dX5_tryThing_138 : decode cX5_tryThing 138 = .ok (.iconst 0, 1) := by decide +kernel
theorem dX5_tryThing_139 : decode cX5_tryThing 139 = .ok (.iadd, 1) := by decide +kernel
theorem dX5_tryThing_140 : decode cX5_tryThing 140 = .ok (.iastore, 1) := by decide +kernel
theorem dX5_tryThing_141 : decode cX5_tryThing 141 = .ok (.iload 7, 2) := by decide +kernel
theorem dX5_tryThing_143 : decode cX5_tryThing 143 = .ok (.ireturn, 1) := by decide +kernel
theorem dX5_tryThing_144 : decode cX5_tryThing 144 = .ok (.iload_n 2, 1) := by decide +kernel
theorem dX5_tryThing_145 : decode cX5_tryThing 145 = .ok (.ifCond .ne 19, 3) := by decide +kernel
theorem dX5_tryThing_148 : decode cX5_tryThing 148 = .ok (.aload_n 0, 1) := by decide +kernel
theorem dX5_tryThing_149 : decode cX5_tryThing 149 = .ok (.iconst 1, 1) := by decide +kernel
theorem dX5_tryThing_150 : decode cX5_tryThing 150 = .ok (.iload 4, 2) := by decide +kernel
theorem dX5_tryThing_152 : decode cX5_tryThing 152 = .ok (.iload 5, 2) := by decide +kernel
theorem dX5_tryThing_154 : decode cX5_tryThing 154 = .ok (.invokevirtual 123, 3) := by decide +kernel
theorem dX5_tryThing_157 : decode cX5_tryThing 157 = .ok (.ifCond .eq 7, 3) := by decide +kernel
theorem dX5_tryThing_160 : decode cX5_tryThing 160 = .ok (.iconst 1, 1) := by decide +kernel
theorem dX5_tryThing_161 : decode cX5_tryThing 161 = .ok (.goto 4, 3) := by decide +kernel
theorem dX5_tryThing_164 : decode cX5_tryThing 164 = .ok (.iconst 0, 1) := by decide +kernel
theorem dX5_tryThing_165 : decode cX5_tryThing 165 = .ok (.istore 8, 2) := by decide +kernel
theorem dX5_tryThing_167 : decode cX5_tryThing 167 = .ok (.aload_n 0, 1) := by decide +kernel
theorem dX5_tryThing_168 : decode cX5_tryThing 168 = .ok (.getfield 13, 3) := by decide +kernel
theorem dX5_tryThing_171 : decode cX5_tryThing 171 = .ok (.bipush 37, 2) := by decide +kernel
theorem dX5_tryThing_173 : decode cX5_tryThing 173 = .ok (.iload 8, 2) := by decide +kernel
theorem dX5_tryThing_175 : decode cX5_tryThing 175 = .ok (.ifCond .eq 8, 3) := by decide +kernel
theorem dX5_tryThing_178 : decode cX5_tryThing 178 = .ok (.iload 4, 2) := by decide +kernel
theorem dX5_tryThing_180 : decode cX5_tryThing 180 = .ok (.goto 4, 3) := by decide +kernel
theorem dX5_tryThing_183 : decode cX5_tryThing 183 = .ok (.iconst 0, 1) := by decide +kernel
theorem dX5_tryThing_184 : decode cX5_tryThing 184 = .ok (.iadd, 1) := by decide +kernel
theorem dX5_tryThing_185 : decode cX5_tryThing 185 = .ok (.dup2, 1) := by decide +kernel
theorem dX5_tryThing_186 : decode cX5_tryThing 186 = .ok (.iaload, 1) := by decide +kernel
theorem dX5_tryThing_187 : decode cX5_tryThing 187 = .ok (.iload 8, 2) := by decide +kernel
theorem dX5_tryThing_189 : decode cX5_tryThing 189 = .ok (.ifCond .eq 8, 3) := by decide +kernel
theorem dX5_tryThing_192 : decode cX5_tryThing 192 = .ok (.iload 5, 2) := by decide +kernel
theorem dX5_tryThing_194 : decode cX5_tryThing 194 = .ok (.goto 4, 3) := by decide +kernel
theorem dX5_tryThing_197 : decode cX5_tryThing 197 = .ok (.iconst 0, 1) := by decide +kernel
theorem dX5_tryThing_198 : decode cX5_tryThing 198 = .ok (.isub, 1) := by decide +kernel
theorem dX5_tryThing_199 : decode cX5_tryThing 199 = .ok (.iastore, 1) := by decide +kernel
theorem dX5_tryThing_200 : decode cX5_tryThing 200 = .ok (.iload 8, 2) := by decide +kernel
theorem dX5_tryThing_202 : decode cX5_tryThing 202 = .ok (.ireturn, 1) := by decide +kernel
theorem dX5_tryThing_203 : decode cX5_tryThing 203 = .ok (.iload_n 2, 1) := by decide +kernel
theorem dX5_tryThing_204 : decode cX5_tryThing 204 = .ok (.ifCond .ne 49, 3) := by decide +kernel
theorem dX5_tryThing_207 : decode cX5_tryThing 207 = .ok (.aload_n 0, 1) := by decide +kernel
theorem dX5_tryThing_208 : decode cX5_tryThing 208 = .ok (.iload 4, 2) := by decide +kernel
theorem dX5_tryThing_210 : decode cX5_tryThing 210 = .ok (.invokevirtual 91, 3) := by decide +kernel
theorem dX5_tryThing_213 : decode cX5_tryThing 213 = .ok (.ifCond .eq 40, 3) := by decide +kernel
theorem dX5_tryThing_216 : decode cX5_tryThing 216 = .ok (.iload 5, 2) := by decide +kernel
theorem dX5_tryThing_218 : decode cX5_tryThing 218 = .ok (.iconst 3, 1) := by decide +kernel
theorem dX5_tryThing_219 : decode cX5_tryThing 219 = .ok (.if_icmp .ge 34, 3) := by decide +kernel
theorem dX5_tryThing_222 : decode cX5_tryThing 222 = .ok (.aload_n 0, 1) := by decide +kernel
theorem dX5_tryThing_223 : decode cX5_tryThing 223 = .ok (.iconst 1, 1) := by decide +kernel
theorem dX5_tryThing_224 : decode cX5_tryThing 224 = .ok (.bipush 12, 2) := by decide +kernel
theorem dX5_tryThing_226 : decode cX5_tryThing 226 = .ok (.aload_n 0, 1) := by decide +kernel
theorem dX5_tryThing_227 : decode cX5_tryThing 227 = .ok (.iload 4, 2) := by decide +kernel
theorem dX5_tryThing_229 : decode cX5_tryThing 229 = .ok (.invokevirtual 91, 3) := by decide +kernel
theorem dX5_tryThing_232 : decode cX5_tryThing 232 = .ok (.ifCond .eq 8, 3) := by decide +kernel
theorem dX5_tryThing_235 : decode cX5_tryThing 235 = .ok (.iload 4, 2) := by decide +kernel
theorem dX5_tryThing_237 : decode cX5_tryThing 237 = .ok (.goto 4, 3) := by decide +kernel
theorem dX5_tryThing_240 : decode cX5_tryThing 240 = .ok (.iconst 0, 1) := by decide +kernel
theorem dX5_tryThing_241 : decode cX5_tryThing 241 = .ok (.invokevirtual 80, 3) := by decide +kernel
theorem dX5_tryThing_244 : decode cX5_tryThing 244 = .ok (.iload 5, 2) := by decide +kernel
theorem dX5_tryThing_246 : decode cX5_tryThing 246 = .ok (.if_icmp .eq 7, 3) := by decide +kernel
theorem dX5_tryThing_249 : decode cX5_tryThing 249 = .ok (.iconst 1, 1) := by decide +kernel
theorem dX5_tryThing_250 : decode cX5_tryThing 250 = .ok (.goto 4, 3) := by decide +kernel
theorem dX5_tryThing_253 : decode cX5_tryThing 253 = .ok (.iconst 0, 1) := by decide +kernel
theorem dX5_tryThing_254 : decode cX5_tryThing 254 = .ok (.istore 9, 2) := by decide +kernel
theorem dX5_tryThing_256 : decode cX5_tryThing 256 = .ok (.iload 9, 2) := by decide +kernel
theorem dX5_tryThing_258 : decode cX5_tryThing 258 = .ok (.ifCond .eq 15, 3) := by decide +kernel
theorem dX5_tryThing_261 : decode cX5_tryThing 261 = .ok (.aload_n 0, 1) := by decide +kernel
theorem dX5_tryThing_262 : decode cX5_tryThing 262 = .ok (.getfield 13, 3) := by decide +kernel
theorem dX5_tryThing_265 : decode cX5_tryThing 265 = .ok (.bipush 43, 2) := by decide +kernel
theorem dX5_tryThing_267 : decode cX5_tryThing 267 = .ok (.iload 4, 2) := by decide +kernel
theorem dX5_tryThing_269 : decode cX5_tryThing 269 = .ok (.iadd, 1) := by decide +kernel
theorem dX5_tryThing_270 : decode cX5_tryThing 270 = .ok (.iload 5, 2) := by decide +kernel
theorem dX5_tryThing_272 : decode cX5_tryThing 272 = .ok (.iastore, 1) := by decide +kernel
theorem dX5_tryThing_273 : decode cX5_tryThing 273 = .ok (.iload 9, 2) := by decide +kernel
theorem dX5_tryThing_275 : decode cX5_tryThing 275 = .ok (.ireturn, 1) := by decide +kernel
theorem dX5_tryThing_276 : decode cX5_tryThing 276 = .ok (.iload_n 2, 1) := by decide +kernel
theorem dX5_tryThing_277 : decode cX5_tryThing 277 = .ok (.ifCond .ne 46, 3) := by decide +kernel
theorem dX5_tryThing_280 : decode cX5_tryThing 280 = .ok (.iload 4, 2) := by decide +kernel
theorem dX5_tryThing_282 : decode cX5_tryThing 282 = .ok (.ifCond .ne 41, 3) := by decide +kernel
theorem dX5_tryThing_285 : decode cX5_tryThing 285 = .ok (.aload_n 0, 1) := by decide +kernel
theorem dX5_tryThing_286 : decode cX5_tryThing 286 = .ok (.iload 5, 2) := by decide +kernel
theorem dX5_tryThing_288 : decode cX5_tryThing 288 = .ok (.invokevirtual 91, 3) := by decide +kernel
theorem dX5_tryThing_291 : decode cX5_tryThing 291 = .ok (.ifCond .eq 32, 3) := by decide +kernel
theorem dX5_tryThing_294 : decode cX5_tryThing 294 = .ok (.aload_n 0, 1) := by decide +kernel
theorem dX5_tryThing_295 : decode cX5_tryThing 295 = .ok (.iconst 1, 1) := by decide +kernel
theorem dX5_tryThing_296 : decode cX5_tryThing 296 = .ok (.bipush 18, 2) := by decide +kernel
theorem dX5_tryThing_298 : decode cX5_tryThing 298 = .ok (.aload_n 0, 1) := by decide +kernel
theorem dX5_tryThing_299 : decode cX5_tryThing 299 = .ok (.iload 5, 2) := by decide +kernel
theorem dX5_tryThing_301 : decode cX5_tryThing 301 = .ok (.invokevirtual 91, 3) := by decide +kernel
theorem dX5_tryThing_304 : decode cX5_tryThing 304 = .ok (.ifCond .eq 8, 3) := by decide +kernel
theorem dX5_tryThing_307 : decode cX5_tryThing 307 = .ok (.iload 5, 2) := by decide +kernel
theorem dX5_tryThing_309 : decode cX5_tryThing 309 = .ok (.goto 4, 3) := by decide +kernel
theorem dX5_tryThing_312 : decode cX5_tryThing 312 = .ok (.iconst 0, 1) := by decide +kernel
theorem dX5_tryThing_313 : decode cX5_tryThing 313 = .ok (.invokevirtual 80, 3) := by decide +kernel
theorem dX5_tryThing_316 : decode cX5_tryThing 316 = .ok (.ifCond .ne 7, 3) := by decide +kernel
theorem dX5_tryThing_319 : decode cX5_tryThing 319 = .ok (.iconst 1, 1) := by decide +kernel
theorem dX5_tryThing_320 : decode cX5_tryThing 320 = .ok (.goto 4, 3) := by decide +kernel
theorem dX5_tryThing_323 : decode cX5_tryThing 323 = .ok (.iconst 0, 1) := by decide +kernel
theorem dX5_tryThing_324 : decode cX5_tryThing 324 = .ok (.istore 10, 2) := by decide +kernel
theorem dX5_tryThing_326 : decode cX5_tryThing 326 = .ok (.iload 10, 2) := by decide +kernel
theorem dX5_tryThing_328 : decode cX5_tryThing 328 = .ok (.ifCond .eq 10, 3) := by decide +kernel
theorem dX5_tryThing_331 : decode cX5_tryThing 331 = .ok (.aload_n 0, 1) := by decide +kernel
theorem dX5_tryThing_332 : decode cX5_tryThing 332 = .ok (.iconst 1, 1) := by decide +kernel
theorem dX5_tryThing_333 : decode cX5_tryThing 333 = .ok (.iload 5, 2) := by decide +kernel
theorem dX5_tryThing_335 : decode cX5_tryThing 335 = .ok (.invokevirtual 128, 3) := by decide +kernel
theorem dX5_tryThing_338 : decode cX5_tryThing 338 = .ok (.iload 10, 2) := by decide +kernel
theorem dX5_tryThing_340 : decode cX5_tryThing 340 = .ok (.ireturn, 1) := by decide +kernel
theorem dX5_tryThing_341 : decode cX5_tryThing 341 = .ok (.iload_n 2, 1) := by decide +kernel
theorem dX5_tryThing_342 : decode cX5_tryThing 342 = .ok (.ifCond .ne 34, 3) := by decide +kernel
theorem dX5_tryThing_345 : decode cX5_tryThing 345 = .ok (.iload 4, 2) := by decide +kernel
theorem dX5_tryThing_347 : decode cX5_tryThing 347 = .ok (.ifCond .ne 29, 3) := by decide +kernel
theorem dX5_tryThing_350 : decode cX5_tryThing 350 = .ok (.aload_n 0, 1) := by decide +kernel
theorem dX5_tryThing_351 : decode cX5_tryThing 351 = .ok (.iload 5, 2) := by decide +kernel
theorem dX5_tryThing_353 : decode cX5_tryThing 353 = .ok (.invokevirtual 91, 3) := by decide +kernel
theorem dX5_tryThing_356 : decode cX5_tryThing 356 = .ok (.ifCond .eq 20, 3) := by decide +kernel
theorem dX5_tryThing_359 : decode cX5_tryThing 359 = .ok (.aload_n 0, 1) := by decide +kernel
theorem dX5_tryThing_360 : decode cX5_tryThing 360 = .ok (.iconst 1, 1) := by decide +kernel
theorem dX5_tryThing_361 : decode cX5_tryThing 361 = .ok (.bipush 18, 2) := by decide +kernel
theorem dX5_tryThing_363 : decode cX5_tryThing 363 = .ok (.iload 5, 2) := by decide +kernel
theorem dX5_tryThing_365 : decode cX5_tryThing 365 = .ok (.invokevirtual 80, 3) := by decide +kernel
theorem dX5_tryThing_368 : decode cX5_tryThing 368 = .ok (.iconst 1, 1) := by decide +kernel
theorem dX5_tryThing_369 : decode cX5_tryThing 369 = .ok (.if_icmp .ne 7, 3) := by decide +kernel
theorem dX5_tryThing_372 : decode cX5_tryThing 372 = .ok (.iconst 1, 1) := by decide +kernel
theorem dX5_tryThing_373 : decode cX5_tryThing 373 = .ok (.goto 4, 3) := by decide +kernel
theorem dX5_tryThing_376 : decode cX5_tryThing 376 = .ok (.iconst 0, 1) := by decide +kernel
theorem dX5_tryThing_377 : decode cX5_tryThing 377 = .ok (.ireturn, 1) := by decide +kernel
theorem dX5_tryThing_378 : decode cX5_tryThing 378 = .ok (.aload_n 0, 1) := by decide +kernel
theorem dX5_tryThing_379 : decode cX5_tryThing 379 = .ok (.iload_n 2, 1) := by decide +kernel
theorem dX5_tryThing_380 : decode cX5_tryThing 380 = .ok (.invokevirtual 91, 3) := by decide +kernel
theorem dX5_tryThing_383 : decode cX5_tryThing 383 = .ok (.ifCond .eq 19, 3) := by decide +kernel
theorem dX5_tryThing_386 : decode cX5_tryThing 386 = .ok (.aload_n 0, 1) := by decide +kernel
theorem dX5_tryThing_387 : decode cX5_tryThing 387 = .ok (.iconst 1, 1) := by decide +kernel
theorem dX5_tryThing_388 : decode cX5_tryThing 388 = .ok (.bipush 24, 2) := by decide +kernel
theorem dX5_tryThing_390 : decode cX5_tryThing 390 = .ok (.iload_n 2, 1) := by decide +kernel
theorem dX5_tryThing_391 : decode cX5_tryThing 391 = .ok (.invokevirtual 80, 3) := by decide +kernel
theorem dX5_tryThing_394 : decode cX5_tryThing 394 = .ok (.iload_n 3, 1) := by decide +kernel
theorem dX5_tryThing_395 : decode cX5_tryThing 395 = .ok (.if_icmp .lt 7, 3) := by decide +kernel
theorem dX5_tryThing_398 : decode cX5_tryThing 398 = .ok (.iconst 1, 1) := by decide +kernel
theorem dX5_tryThing_399 : decode cX5_tryThing 399 = .ok (.goto 4, 3) := by decide +kernel
theorem dX5_tryThing_402 : decode cX5_tryThing 402 = .ok (.iconst 0, 1) := by decide +kernel
theorem dX5_tryThing_403 : decode cX5_tryThing 403 = .ok (.ireturn, 1) := by decide +kernel
theorem dX5_tryThing_404 : decode cX5_tryThing 404 = .ok (.iconst 0, 1) := by decide +kernel
theorem dX5_tryThing_405 : decode cX5_tryThing 405 = .ok (.ireturn, 1) := by decide +kernel
theorem dX5_judge_0 : decode cX5_judge 0 = .ok (.iload_n 1, 1) := by decide +kernel
theorem dX5_judge_1 : decode cX5_judge 1 = .ok (.i2l, 1) := by decide +kernel
theorem dX5_judge_2 : decode cX5_judge 2 = .ok (.lconst 1, 1) := by decide +kernel
theorem dX5_judge_3 : decode cX5_judge 3 = .ok (.ldc2_w 151, 3) := by decide +kernel
theorem dX5_judge_6 : decode cX5_judge 6 = .ok (.invokestatic 49, 3) := by decide +kernel
theorem dX5_judge_9 : decode cX5_judge 9 = .ok (.ifCond .eq 19, 3) := by decide +kernel
theorem dX5_judge_12 : decode cX5_judge 12 = .ok (.lload_n 2, 1) := by decide +kernel
theorem dX5_judge_13 : decode cX5_judge 13 = .ok (.lconst 0, 1) := by decide +kernel
theorem dX5_judge_14 : decode cX5_judge 14 = .ok (.iconst 4, 1) := by decide +kernel
theorem dX5_judge_15 : decode cX5_judge 15 = .ok (.iload_n 1, 1) := by decide +kernel
theorem dX5_judge_16 : decode cX5_judge 16 = .ok (.imul, 1) := by decide +kernel
theorem dX5_judge_17 : decode cX5_judge 17 = .ok (.invokestatic 145, 3) := by decide +kernel
theorem dX5_judge_20 : decode cX5_judge 20 = .ok (.lconst 1, 1) := by decide +kernel
theorem dX5_judge_21 : decode cX5_judge 21 = .ok (.lsub, 1) := by decide +kernel
theorem dX5_judge_22 : decode cX5_judge 22 = .ok (.invokestatic 49, 3) := by decide +kernel
theorem dX5_judge_25 : decode cX5_judge 25 = .ok (.ifCond .ne 6, 3) := by decide +kernel
theorem dX5_judge_28 : decode cX5_judge 28 = .ok (.bipush (-2), 2) := by decide +kernel
theorem dX5_judge_30 : decode cX5_judge 30 = .ok (.ireturn, 1) := by decide +kernel
theorem dX5_judge_31 : decode cX5_judge 31 = .ok (.aload_n 0, 1) := by decide +kernel
theorem dX5_judge_32 : decode cX5_judge 32 = .ok (.invokevirtual 134, 3) := by decide +kernel
theorem dX5_judge_35 : decode cX5_judge 35 = .ok (.iconst 0, 1) := by decide +kernel
theorem dX5_judge_36 : decode cX5_judge 36 = .ok (.istore 4, 2) := by decide +kernel
theorem dX5_judge_38 : decode cX5_judge 38 = .ok (.iload 4, 2) := by decide +kernel
theorem dX5_judge_40 : decode cX5_judge 40 = .ok (.iload_n 1, 1) := by decide +kernel
theorem dX5_judge_41 : decode cX5_judge 41 = .ok (.if_icmp .ge 58, 3) := by decide +kernel
theorem dX5_judge_44 : decode cX5_judge 44 = .ok (.lload_n 2, 1) := by decide +kernel
theorem dX5_judge_45 : decode cX5_judge 45 = .ok (.iconst 4, 1) := by decide +kernel
theorem dX5_judge_46 : decode cX5_judge 46 = .ok (.iload_n 1, 1) := by decide +kernel
theorem dX5_judge_47 : decode cX5_judge 47 = .ok (.iconst 1, 1) := by decide +kernel
theorem dX5_judge_48 : decode cX5_judge 48 = .ok (.isub, 1) := by decide +kernel
theorem dX5_judge_49 : decode cX5_judge 49 = .ok (.iload 4, 2) := by decide +kernel
theorem dX5_judge_51 : decode cX5_judge 51 = .ok (.isub, 1) := by decide +kernel
theorem dX5_judge_52 : decode cX5_judge 52 = .ok (.imul, 1) := by decide +kernel
theorem dX5_judge_53 : decode cX5_judge 53 = .ok (.invokestatic 145, 3) := by decide +kernel
theorem dX5_judge_56 : decode cX5_judge 56 = .ok (.ldiv, 1) := by decide +kernel
theorem dX5_judge_57 : decode cX5_judge 57 = .ok (.ldc2_w 168, 3) := by decide +kernel
theorem dX5_judge_60 : decode cX5_judge 60 = .ok (.lrem, 1) := by decide +kernel
theorem dX5_judge_61 : decode cX5_judge 61 = .ok (.l2i, 1) := by decide +kernel
theorem dX5_judge_62 : decode cX5_judge 62 = .ok (.istore 5, 2) := by decide +kernel
theorem dX5_judge_64 : decode cX5_judge 64 = .ok (.aload_n 0, 1) := by decide +kernel
theorem dX5_judge_65 : decode cX5_judge 65 = .ok (.iload 5, 2) := by decide +kernel
theorem dX5_judge_67 : decode cX5_judge 67 = .ok (.sipush 1000, 3) := by decide +kernel
theorem dX5_judge_70 : decode cX5_judge 70 = .ok (.idiv, 1) := by decide +kernel
theorem dX5_judge_71 : decode cX5_judge 71 = .ok (.iload 5, 2) := by decide +kernel
theorem dX5_judge_73 : decode cX5_judge 73 = .ok (.bipush 100, 2) := by decide +kernel
theorem dX5_judge_75 : decode cX5_judge 75 = .ok (.idiv, 1) := by decide +kernel
theorem dX5_judge_76 : decode cX5_judge 76 = .ok (.bipush 10, 2) := by decide +kernel
theorem dX5_judge_78 : decode cX5_judge 78 = .ok (.irem, 1) := by decide +kernel
theorem dX5_judge_79 : decode cX5_judge 79 = .ok (.iload 5, 2) := by decide +kernel
theorem dX5_judge_81 : decode cX5_judge 81 = .ok (.bipush 100, 2) := by decide +kernel
theorem dX5_judge_83 : decode cX5_judge 83 = .ok (.irem, 1) := by decide +kernel
theorem dX5_judge_84 : decode cX5_judge 84 = .ok (.invokevirtual 170, 3) := by decide +kernel
theorem dX5_judge_87 : decode cX5_judge 87 = .ok (.ifCond .ne 6, 3) := by decide +kernel
theorem dX5_judge_90 : decode cX5_judge 90 = .ok (.iload 4, 2) := by decide +kernel
theorem dX5_judge_92 : decode cX5_judge 92 = .ok (.ireturn, 1) := by decide +kernel
theorem dX5_judge_93 : decode cX5_judge 93 = .ok (.iinc 4 1, 3) := by decide +kernel
theorem dX5_judge_96 : decode cX5_judge 96 = .ok (.goto (-58), 3) := by decide +kernel
theorem dX5_judge_99 : decode cX5_judge 99 = .ok (.bipush (-9), 2) := by decide +kernel
theorem dX5_judge_101 : decode cX5_judge 101 = .ok (.ireturn, 1) := by decide +kernel
theorem dX5_see_0 : decode cX5_see 0 = .ok (.iload_n 1, 1) := by decide +kernel
theorem dX5_see_1 : decode cX5_see 1 = .ok (.i2l, 1) := by decide +kernel
theorem dX5_see_2 : decode cX5_see 2 = .ok (.lconst 1, 1) := by decide +kernel
theorem dX5_see_3 : decode cX5_see 3 = .ok (.ldc2_w 117, 3) := by decide +kernel
theorem dX5_see_6 : decode cX5_see 6 = .ok (.invokestatic 49, 3) := by decide +kernel
theorem dX5_see_9 : decode cX5_see 9 = .ok (.ifCond .eq 25, 3) := by decide +kernel
theorem dX5_see_12 : decode cX5_see 12 = .ok (.iload_n 2, 1) := by decide +kernel
theorem dX5_see_13 : decode cX5_see 13 = .ok (.i2l, 1) := by decide +kernel
theorem dX5_see_14 : decode cX5_see 14 = .ok (.lconst 0, 1) := by decide +kernel
theorem dX5_see_15 : decode cX5_see 15 = .ok (.ldc2_w 173, 3) := by decide +kernel
theorem dX5_see_18 : decode cX5_see 18 = .ok (.invokestatic 49, 3) := by decide +kernel
theorem dX5_see_21 : decode cX5_see 21 = .ok (.ifCond .eq 13, 3) := by decide +kernel
theorem dX5_see_24 : decode cX5_see 24 = .ok (.iload_n 3, 1) := by decide +kernel
theorem dX5_see_25 : decode cX5_see 25 = .ok (.i2l, 1) := by decide +kernel
theorem dX5_see_26 : decode cX5_see 26 = .ok (.lconst 0, 1) := by decide +kernel
theorem dX5_see_27 : decode cX5_see 27 = .ok (.lconst 1, 1) := by decide +kernel
theorem dX5_see_28 : decode cX5_see 28 = .ok (.invokestatic 49, 3) := by decide +kernel
theorem dX5_see_31 : decode cX5_see 31 = .ok (.ifCond .ne 6, 3) := by decide +kernel
theorem dX5_see_34 : decode cX5_see 34 = .ok (.bipush (-2), 2) := by decide +kernel
theorem dX5_see_36 : decode cX5_see 36 = .ok (.ireturn, 1) := by decide +kernel
theorem dX5_see_37 : decode cX5_see 37 = .ok (.aload_n 0, 1) := by decide +kernel
theorem dX5_see_38 : decode cX5_see 38 = .ok (.getfield 175, 3) := by decide +kernel
theorem dX5_see_41 : decode cX5_see 41 = .ok (.bipush 6, 2) := by decide +kernel
theorem dX5_see_43 : decode cX5_see 43 = .ok (.if_icmp .ne 6, 3) := by decide +kernel
theorem dX5_see_46 : decode cX5_see 46 = .ok (.bipush (-4), 2) := by decide +kernel
theorem dX5_see_48 : decode cX5_see 48 = .ok (.ireturn, 1) := by decide +kernel
theorem dX5_see_49 : decode cX5_see 49 = .ok (.aload_n 0, 1) := by decide +kernel
theorem dX5_see_50 : decode cX5_see 50 = .ok (.getfield 31, 3) := by decide +kernel
theorem dX5_see_53 : decode cX5_see 53 = .ok (.aload_n 0, 1) := by decide +kernel
theorem dX5_see_54 : decode cX5_see 54 = .ok (.getfield 175, 3) := by decide +kernel
theorem dX5_see_57 : decode cX5_see 57 = .ok (.iload_n 1, 1) := by decide +kernel
theorem dX5_see_58 : decode cX5_see 58 = .ok (.iastore, 1) := by decide +kernel
theorem dX5_see_59 : decode cX5_see 59 = .ok (.aload_n 0, 1) := by decide +kernel
theorem dX5_see_60 : decode cX5_see 60 = .ok (.getfield 34, 3) := by decide +kernel
theorem dX5_see_63 : decode cX5_see 63 = .ok (.aload_n 0, 1) := by decide +kernel
theorem dX5_see_64 : decode cX5_see 64 = .ok (.getfield 175, 3) := by decide +kernel
theorem dX5_see_67 : decode cX5_see 67 = .ok (.iload_n 2, 1) := by decide +kernel
theorem dX5_see_68 : decode cX5_see 68 = .ok (.iastore, 1) := by decide +kernel
theorem dX5_see_69 : decode cX5_see 69 = .ok (.aload_n 0, 1) := by decide +kernel
theorem dX5_see_70 : decode cX5_see 70 = .ok (.getfield 37, 3) := by decide +kernel
theorem dX5_see_73 : decode cX5_see 73 = .ok (.aload_n 0, 1) := by decide +kernel
theorem dX5_see_74 : decode cX5_see 74 = .ok (.getfield 175, 3) := by decide +kernel
theorem dX5_see_77 : decode cX5_see 77 = .ok (.iload_n 3, 1) := by decide +kernel
theorem dX5_see_78 : decode cX5_see 78 = .ok (.iastore, 1) := by decide +kernel
theorem dX5_see_79 : decode cX5_see 79 = .ok (.aload_n 0, 1) := by decide +kernel
theorem dX5_see_80 : decode cX5_see 80 = .ok (.dup, 1) := by decide +kernel
theorem dX5_see_81 : decode cX5_see 81 = .ok (.getfield 175, 3) := by decide +kernel
theorem dX5_see_84 : decode cX5_see 84 = .ok (.iconst 1, 1) := by decide +kernel
theorem dX5_see_85 : decode cX5_see 85 = .ok (.iadd, 1) := by decide +kernel
theorem dX5_see_86 : decode cX5_see 86 = .ok (.putfield 175, 3) := by decide +kernel
theorem dX5_see_89 : decode cX5_see 89 = .ok (.aload_n 0, 1) := by decide +kernel
theorem dX5_see_90 : decode cX5_see 90 = .ok (.getfield 175, 3) := by decide +kernel
theorem dX5_see_93 : decode cX5_see 93 = .ok (.ireturn, 1) := by decide +kernel
theorem dX5_unsee_0 : decode cX5_unsee 0 = .ok (.aload_n 0, 1) := by decide +kernel
theorem dX5_unsee_1 : decode cX5_unsee 1 = .ok (.getfield 175, 3) := by decide +kernel
theorem dX5_unsee_4 : decode cX5_unsee 4 = .ok (.istore_n 1, 1) := by decide +kernel
theorem dX5_unsee_5 : decode cX5_unsee 5 = .ok (.aload_n 0, 1) := by decide +kernel
theorem dX5_unsee_6 : decode cX5_unsee 6 = .ok (.iconst 0, 1) := by decide +kernel
theorem dX5_unsee_7 : decode cX5_unsee 7 = .ok (.putfield 175, 3) := by decide +kernel
theorem dX5_unsee_10 : decode cX5_unsee 10 = .ok (.iload_n 1, 1) := by decide +kernel
theorem dX5_unsee_11 : decode cX5_unsee 11 = .ok (.ireturn, 1) := by decide +kernel
theorem dX5_mayBe_0 : decode cX5_mayBe 0 = .ok (.aload_n 0, 1) := by decide +kernel
theorem dX5_mayBe_1 : decode cX5_mayBe 1 = .ok (.iconst 0, 1) := by decide +kernel
theorem dX5_mayBe_2 : decode cX5_mayBe 2 = .ok (.iload_n 1, 1) := by decide +kernel
theorem dX5_mayBe_3 : decode cX5_mayBe 3 = .ok (.iload_n 2, 1) := by decide +kernel
theorem dX5_mayBe_4 : decode cX5_mayBe 4 = .ok (.invokevirtual 119, 3) := by decide +kernel
theorem dX5_mayBe_7 : decode cX5_mayBe 7 = .ok (.ifCond .ne 5, 3) := by decide +kernel
theorem dX5_mayBe_10 : decode cX5_mayBe 10 = .ok (.iconst 0, 1) := by decide +kernel
theorem dX5_mayBe_11 : decode cX5_mayBe 11 = .ok (.ireturn, 1) := by decide +kernel
theorem dX5_mayBe_12 : decode cX5_mayBe 12 = .ok (.aload_n 0, 1) := by decide +kernel
theorem dX5_mayBe_13 : decode cX5_mayBe 13 = .ok (.invokevirtual 134, 3) := by decide +kernel
theorem dX5_mayBe_16 : decode cX5_mayBe 16 = .ok (.aload_n 0, 1) := by decide +kernel
theorem dX5_mayBe_17 : decode cX5_mayBe 17 = .ok (.getfield 13, 3) := by decide +kernel
theorem dX5_mayBe_20 : decode cX5_mayBe 20 = .ok (.bipush 37, 2) := by decide +kernel
theorem dX5_mayBe_22 : decode cX5_mayBe 22 = .ok (.iload_n 1, 1) := by decide +kernel
theorem dX5_mayBe_23 : decode cX5_mayBe 23 = .ok (.iadd, 1) := by decide +kernel
theorem dX5_mayBe_24 : decode cX5_mayBe 24 = .ok (.dup2, 1) := by decide +kernel
theorem dX5_mayBe_25 : decode cX5_mayBe 25 = .ok (.iaload, 1) := by decide +kernel
theorem dX5_mayBe_26 : decode cX5_mayBe 26 = .ok (.iload_n 2, 1) := by decide +kernel
theorem dX5_mayBe_27 : decode cX5_mayBe 27 = .ok (.iadd, 1) := by decide +kernel
theorem dX5_mayBe_28 : decode cX5_mayBe 28 = .ok (.iastore, 1) := by decide +kernel
theorem dX5_mayBe_29 : decode cX5_mayBe 29 = .ok (.iconst 1, 1) := by decide +kernel
theorem dX5_mayBe_30 : decode cX5_mayBe 30 = .ok (.istore_n 3, 1) := by decide +kernel
theorem dX5_mayBe_31 : decode cX5_mayBe 31 = .ok (.iconst 1, 1) := by decide +kernel
theorem dX5_mayBe_32 : decode cX5_mayBe 32 = .ok (.istore 4, 2) := by decide +kernel
theorem dX5_mayBe_34 : decode cX5_mayBe 34 = .ok (.iload 4, 2) := by decide +kernel
theorem dX5_mayBe_36 : decode cX5_mayBe 36 = .ok (.bipush 9, 2) := by decide +kernel
theorem dX5_mayBe_38 : decode cX5_mayBe 38 = .ok (.if_icmp .gt 93, 3) := by decide +kernel
theorem dX5_mayBe_41 : decode cX5_mayBe 41 = .ok (.aload_n 0, 1) := by decide +kernel
theorem dX5_mayBe_42 : decode cX5_mayBe 42 = .ok (.iconst 1, 1) := by decide +kernel
theorem dX5_mayBe_43 : decode cX5_mayBe 43 = .ok (.invokevirtual 137, 3) := by decide +kernel
theorem dX5_mayBe_46 : decode cX5_mayBe 46 = .ok (.pop, 1) := by decide +kernel
theorem dX5_mayBe_47 : decode cX5_mayBe 47 = .ok (.aload_n 0, 1) := by decide +kernel
theorem dX5_mayBe_48 : decode cX5_mayBe 48 = .ok (.iconst 1, 1) := by decide +kernel
theorem dX5_mayBe_49 : decode cX5_mayBe 49 = .ok (.invokevirtual 140, 3) := by decide +kernel
theorem dX5_mayBe_52 : decode cX5_mayBe 52 = .ok (.istore 5, 2) := by decide +kernel
theorem dX5_mayBe_54 : decode cX5_mayBe 54 = .ok (.iconst 0, 1) := by decide +kernel
theorem dX5_mayBe_55 : decode cX5_mayBe 55 = .ok (.istore 6, 2) := by decide +kernel
theorem dX5_mayBe_57 : decode cX5_mayBe 57 = .ok (.iload 6, 2) := by decide +kernel
theorem dX5_mayBe_59 : decode cX5_mayBe 59 = .ok (.aload_n 0, 1) := by decide +kernel
theorem dX5_mayBe_60 : decode cX5_mayBe 60 = .ok (.getfield 175, 3) := by decide +kernel
theorem dX5_mayBe_63 : decode cX5_mayBe 63 = .ok (.if_icmp .ge 62, 3) := by decide +kernel
theorem dX5_mayBe_66 : decode cX5_mayBe 66 = .ok (.iload_n 3, 1) := by decide +kernel
theorem dX5_mayBe_67 : decode cX5_mayBe 67 = .ok (.ifCond .eq 50, 3) := by decide +kernel
theorem dX5_mayBe_70 : decode cX5_mayBe 70 = .ok (.aload_n 0, 1) := by decide +kernel
theorem dX5_mayBe_71 : decode cX5_mayBe 71 = .ok (.getfield 31, 3) := by decide +kernel
theorem dX5_mayBe_74 : decode cX5_mayBe 74 = .ok (.iload 6, 2) := by decide +kernel
theorem dX5_mayBe_76 : decode cX5_mayBe 76 = .ok (.iaload, 1) := by decide +kernel
theorem dX5_mayBe_77 : decode cX5_mayBe 77 = .ok (.iload 4, 2) := by decide +kernel
theorem dX5_mayBe_79 : decode cX5_mayBe 79 = .ok (.if_icmp .ne 34, 3) := by decide +kernel
theorem dX5_mayBe_82 : decode cX5_mayBe 82 = .ok (.iload 5, 2) := by decide +kernel
theorem dX5_mayBe_84 : decode cX5_mayBe 84 = .ok (.aload_n 0, 1) := by decide +kernel
theorem dX5_mayBe_85 : decode cX5_mayBe 85 = .ok (.getfield 34, 3) := by decide +kernel
theorem dX5_mayBe_88 : decode cX5_mayBe 88 = .ok (.iload 6, 2) := by decide +kernel
theorem dX5_mayBe_90 : decode cX5_mayBe 90 = .ok (.iaload, 1) := by decide +kernel
theorem dX5_mayBe_91 : decode cX5_mayBe 91 = .ok (.invokestatic 102, 3) := by decide +kernel
theorem dX5_mayBe_94 : decode cX5_mayBe 94 = .ok (.aload_n 0, 1) := by decide +kernel
theorem dX5_mayBe_95 : decode cX5_mayBe 95 = .ok (.getfield 37, 3) := by decide +kernel
theorem dX5_mayBe_98 : decode cX5_mayBe 98 = .ok (.iload 6, 2) := by decide +kernel
theorem dX5_mayBe_100 : decode cX5_mayBe 100 = .ok (.iaload, 1) := by decide +kernel
theorem dX5_mayBe_101 : decode cX5_mayBe 101 = .ok (.iconst 1, 1) := by decide +kernel
theorem dX5_mayBe_102 : decode cX5_mayBe 102 = .ok (.if_icmp .ne 7, 3) := by decide +kernel
theorem dX5_mayBe_105 : decode cX5_mayBe 105 = .ok (.iconst 1, 1) := by decide +kernel
theorem dX5_mayBe_106 : decode cX5_mayBe 106 = .ok (.goto 4, 3) := by decide +kernel
theorem dX5_mayBe_109 : decode cX5_mayBe 109 = .ok (.iconst 0, 1) := by decide +kernel
theorem dX5_mayBe_110 : decode cX5_mayBe 110 = .ok (.if_icmp .ne 7, 3) := by decide +kernel
theorem dX5_mayBe_113 : decode cX5_mayBe 113 = .ok (.iconst 1, 1) := by decide +kernel
theorem dX5_mayBe_114 : decode cX5_mayBe 114 = .ok (.goto 4, 3) := by decide +kernel
theorem dX5_mayBe_117 : decode cX5_mayBe 117 = .ok (.iconst 0, 1) := by decide +kernel
theorem dX5_mayBe_118 : decode cX5_mayBe 118 = .ok (.istore_n 3, 1) := by decide +kernel
theorem dX5_mayBe_119 : decode cX5_mayBe 119 = .ok (.iinc 6 1, 3) := by decide +kernel
theorem dX5_mayBe_122 : decode cX5_mayBe 122 = .ok (.goto (-65), 3) := by decide +kernel
theorem dX5_mayBe_125 : decode cX5_mayBe 125 = .ok (.iinc 4 1, 3) := by decide +kernel
theorem dX5_mayBe_128 : decode cX5_mayBe 128 = .ok (.goto (-94), 3) := by decide +kernel
theorem dX5_mayBe_131 : decode cX5_mayBe 131 = .ok (.iload_n 3, 1) := by decide +kernel
theorem dX5_mayBe_132 : decode cX5_mayBe 132 = .ok (.ireturn, 1) := by decide +kernel
theorem dX5_night_0 : decode cX5_night 0 = .ok (.iload_n 1, 1) := by decide +kernel
theorem dX5_night_1 : decode cX5_night 1 = .ok (.i2l, 1) := by decide +kernel
theorem dX5_night_2 : decode cX5_night 2 = .ok (.lconst 0, 1) := by decide +kernel
theorem dX5_night_3 : decode cX5_night 3 = .ok (.lconst 1, 1) := by decide +kernel
theorem dX5_night_4 : decode cX5_night 4 = .ok (.invokestatic 49, 3) := by decide +kernel
theorem dX5_night_7 : decode cX5_night 7 = .ok (.ifCond .ne 6, 3) := by decide +kernel
theorem dX5_night_10 : decode cX5_night 10 = .ok (.bipush (-2), 2) := by decide +kernel
theorem dX5_night_12 : decode cX5_night 12 = .ok (.ireturn, 1) := by decide +kernel
theorem dX5_night_13 : decode cX5_night 13 = .ok (.iconst 0, 1) := by decide +kernel
theorem dX5_night_14 : decode cX5_night 14 = .ok (.istore_n 2, 1) := by decide +kernel
theorem dX5_night_15 : decode cX5_night 15 = .ok (.bipush (-9), 2) := by decide +kernel
theorem dX5_night_17 : decode cX5_night 17 = .ok (.istore_n 3, 1) := by decide +kernel
theorem dX5_night_18 : decode cX5_night 18 = .ok (.iconst 0, 1) := by decide +kernel
theorem dX5_night_19 : decode cX5_night 19 = .ok (.istore 4, 2) := by decide +kernel
theorem dX5_night_21 : decode cX5_night 21 = .ok (.iload 4, 2) := by decide +kernel
theorem dX5_night_23 : decode cX5_night 23 = .ok (.aload_n 0, 1) := by decide +kernel
theorem dX5_night_24 : decode cX5_night 24 = .ok (.getfield 74, 3) := by decide +kernel
theorem dX5_night_27 : decode cX5_night 27 = .ok (.if_icmp .ge 56, 3) := by decide +kernel
theorem dX5_night_30 : decode cX5_night 30 = .ok (.iconst 1, 1) := by decide +kernel
theorem dX5_night_31 : decode cX5_night 31 = .ok (.istore 5, 2) := by decide +kernel
theorem dX5_night_33 : decode cX5_night 33 = .ok (.iload 5, 2) := by decide +kernel
theorem dX5_night_35 : decode cX5_night 35 = .ok (.bipush 9, 2) := by decide +kernel
theorem dX5_night_37 : decode cX5_night 37 = .ok (.if_icmp .gt 40, 3) := by decide +kernel
theorem dX5_night_40 : decode cX5_night 40 = .ok (.aload_n 0, 1) := by decide +kernel
theorem dX5_night_41 : decode cX5_night 41 = .ok (.iload 4, 2) := by decide +kernel
theorem dX5_night_43 : decode cX5_night 43 = .ok (.iload 5, 2) := by decide +kernel
theorem dX5_night_45 : decode cX5_night 45 = .ok (.invokevirtual 178, 3) := by decide +kernel
theorem dX5_night_48 : decode cX5_night 48 = .ok (.ifCond .eq 23, 3) := by decide +kernel
theorem dX5_night_51 : decode cX5_night 51 = .ok (.iload_n 2, 1) := by decide +kernel
theorem dX5_night_52 : decode cX5_night 52 = .ok (.ifCond .ne 14, 3) := by decide +kernel
theorem dX5_night_55 : decode cX5_night 55 = .ok (.bipush 10, 2) := by decide +kernel
theorem dX5_night_57 : decode cX5_night 57 = .ok (.iload 4, 2) := by decide +kernel
theorem dX5_night_59 : decode cX5_night 59 = .ok (.imul, 1) := by decide +kernel
theorem dX5_night_60 : decode cX5_night 60 = .ok (.iload 5, 2) := by decide +kernel
theorem dX5_night_62 : decode cX5_night 62 = .ok (.iadd, 1) := by decide +kernel
theorem dX5_night_63 : decode cX5_night 63 = .ok (.goto 4, 3) := by decide +kernel
theorem dX5_night_66 : decode cX5_night 66 = .ok (.iload_n 3, 1) := by decide +kernel
theorem dX5_night_67 : decode cX5_night 67 = .ok (.istore_n 3, 1) := by decide +kernel
theorem dX5_night_68 : decode cX5_night 68 = .ok (.iinc 2 1, 3) := by decide +kernel
theorem dX5_night_71 : decode cX5_night 71 = .ok (.iinc 5 1, 3) := by decide +kernel
theorem dX5_night_74 : decode cX5_night 74 = .ok (.goto (-41), 3) := by decide +kernel
theorem dX5_night_77 : decode cX5_night 77 = .ok (.iinc 4 1, 3) := by decide +kernel
theorem dX5_night_80 : decode cX5_night 80 = .ok (.goto (-59), 3) := by decide +kernel
theorem dX5_night_83 : decode cX5_night 83 = .ok (.iload_n 1, 1) := by decide +kernel
theorem dX5_night_84 : decode cX5_night 84 = .ok (.ifCond .ne 7, 3) := by decide +kernel
theorem dX5_night_87 : decode cX5_night 87 = .ok (.iload_n 2, 1) := by decide +kernel
theorem dX5_night_88 : decode cX5_night 88 = .ok (.goto 4, 3) := by decide +kernel
theorem dX5_night_91 : decode cX5_night 91 = .ok (.iload_n 3, 1) := by decide +kernel
theorem dX5_night_92 : decode cX5_night 92 = .ok (.ireturn, 1) := by decide +kernel
theorem dX5_factorial_0 : decode cX5_factorial 0 = .ok (.iconst 1, 1) := by decide +kernel
theorem dX5_factorial_1 : decode cX5_factorial 1 = .ok (.istore_n 1, 1) := by decide +kernel
theorem dX5_factorial_2 : decode cX5_factorial 2 = .ok (.iconst 2, 1) := by decide +kernel
theorem dX5_factorial_3 : decode cX5_factorial 3 = .ok (.istore_n 2, 1) := by decide +kernel
theorem dX5_factorial_4 : decode cX5_factorial 4 = .ok (.iload_n 2, 1) := by decide +kernel
theorem dX5_factorial_5 : decode cX5_factorial 5 = .ok (.iload_n 0, 1) := by decide +kernel
theorem dX5_factorial_6 : decode cX5_factorial 6 = .ok (.if_icmp .gt 13, 3) := by decide +kernel
theorem dX5_factorial_9 : decode cX5_factorial 9 = .ok (.iload_n 1, 1) := by decide +kernel
theorem dX5_factorial_10 : decode cX5_factorial 10 = .ok (.iload_n 2, 1) := by decide +kernel
theorem dX5_factorial_11 : decode cX5_factorial 11 = .ok (.imul, 1) := by decide +kernel
theorem dX5_factorial_12 : decode cX5_factorial 12 = .ok (.istore_n 1, 1) := by decide +kernel
theorem dX5_factorial_13 : decode cX5_factorial 13 = .ok (.iinc 2 1, 3) := by decide +kernel
theorem dX5_factorial_16 : decode cX5_factorial 16 = .ok (.goto (-12), 3) := by decide +kernel
theorem dX5_factorial_19 : decode cX5_factorial 19 = .ok (.iload_n 1, 1) := by decide +kernel
theorem dX5_factorial_20 : decode cX5_factorial 20 = .ok (.ireturn, 1) := by decide +kernel
theorem dX5_common_0 : decode cX5_common 0 = .ok (.iload_n 0, 1) := by decide +kernel
theorem dX5_common_1 : decode cX5_common 1 = .ok (.ifCond .ge 8, 3) := by decide +kernel
theorem dX5_common_4 : decode cX5_common 4 = .ok (.iload_n 0, 1) := by decide +kernel
theorem dX5_common_5 : decode cX5_common 5 = .ok (.ineg, 1) := by decide +kernel
theorem dX5_common_6 : decode cX5_common 6 = .ok (.goto 4, 3) := by decide +kernel
theorem dX5_common_9 : decode cX5_common 9 = .ok (.iload_n 0, 1) := by decide +kernel
theorem dX5_common_10 : decode cX5_common 10 = .ok (.istore_n 2, 1) := by decide +kernel
theorem dX5_common_11 : decode cX5_common 11 = .ok (.iload_n 1, 1) := by decide +kernel
theorem dX5_common_12 : decode cX5_common 12 = .ok (.istore_n 3, 1) := by decide +kernel
theorem dX5_common_13 : decode cX5_common 13 = .ok (.iload_n 3, 1) := by decide +kernel
theorem dX5_common_14 : decode cX5_common 14 = .ok (.ifCond .eq 16, 3) := by decide +kernel
theorem dX5_common_17 : decode cX5_common 17 = .ok (.iload_n 2, 1) := by decide +kernel
theorem dX5_common_18 : decode cX5_common 18 = .ok (.iload_n 3, 1) := by decide +kernel
theorem dX5_common_19 : decode cX5_common 19 = .ok (.irem, 1) := by decide +kernel
theorem dX5_common_20 : decode cX5_common 20 = .ok (.istore 4, 2) := by decide +kernel
theorem dX5_common_22 : decode cX5_common 22 = .ok (.iload_n 3, 1) := by decide +kernel
theorem dX5_common_23 : decode cX5_common 23 = .ok (.istore_n 2, 1) := by decide +kernel
theorem dX5_common_24 : decode cX5_common 24 = .ok (.iload 4, 2) := by decide +kernel
theorem dX5_common_26 : decode cX5_common 26 = .ok (.istore_n 3, 1) := by decide +kernel
theorem dX5_common_27 : decode cX5_common 27 = .ok (.goto (-14), 3) := by decide +kernel
theorem dX5_common_30 : decode cX5_common 30 = .ok (.iload_n 2, 1) := by decide +kernel
theorem dX5_common_31 : decode cX5_common 31 = .ok (.ireturn, 1) := by decide +kernel
theorem dX5_standWith_0 : decode cX5_standWith 0 = .ok (.aload_n 0, 1) := by decide +kernel
theorem dX5_standWith_1 : decode cX5_standWith 1 = .ok (.invokevirtual 134, 3) := by decide +kernel
theorem dX5_standWith_4 : decode cX5_standWith 4 = .ok (.iconst 0, 1) := by decide +kernel
theorem dX5_standWith_5 : decode cX5_standWith 5 = .ok (.istore_n 2, 1) := by decide +kernel
theorem dX5_standWith_6 : decode cX5_standWith 6 = .ok (.iload_n 2, 1) := by decide +kernel
theorem dX5_standWith_7 : decode cX5_standWith 7 = .ok (.aload_n 0, 1) := by decide +kernel
theorem dX5_standWith_8 : decode cX5_standWith 8 = .ok (.getfield 74, 3) := by decide +kernel
theorem dX5_standWith_11 : decode cX5_standWith 11 = .ok (.if_icmp .ge 39, 3) := by decide +kernel
theorem dX5_standWith_14 : decode cX5_standWith 14 = .ok (.aload_n 0, 1) := by decide +kernel
theorem dX5_standWith_15 : decode cX5_standWith 15 = .ok (.getfield 13, 3) := by decide +kernel
theorem dX5_standWith_18 : decode cX5_standWith 18 = .ok (.bipush 37, 2) := by decide +kernel
theorem dX5_standWith_20 : decode cX5_standWith 20 = .ok (.iload_n 2, 1) := by decide +kernel
theorem dX5_standWith_21 : decode cX5_standWith 21 = .ok (.iadd, 1) := by decide +kernel
theorem dX5_standWith_22 : decode cX5_standWith 22 = .ok (.iload_n 1, 1) := by decide +kernel
theorem dX5_standWith_23 : decode cX5_standWith 23 = .ok (.iload_n 2, 1) := by decide +kernel
theorem dX5_standWith_24 : decode cX5_standWith 24 = .ok (.invokestatic 102, 3) := by decide +kernel
theorem dX5_standWith_27 : decode cX5_standWith 27 = .ok (.ifCond .eq 15, 3) := by decide +kernel
theorem dX5_standWith_30 : decode cX5_standWith 30 = .ok (.aload_n 0, 1) := by decide +kernel
theorem dX5_standWith_31 : decode cX5_standWith 31 = .ok (.getfield 13, 3) := by decide +kernel
theorem dX5_standWith_34 : decode cX5_standWith 34 = .ok (.bipush 6, 2) := by decide +kernel
theorem dX5_standWith_36 : decode cX5_standWith 36 = .ok (.iload_n 2, 1) := by decide +kernel
theorem dX5_standWith_37 : decode cX5_standWith 37 = .ok (.iadd, 1) := by decide +kernel
theorem dX5_standWith_38 : decode cX5_standWith 38 = .ok (.iaload, 1) := by decide +kernel
theorem dX5_standWith_39 : decode cX5_standWith 39 = .ok (.goto 4, 3) := by decide +kernel
theorem dX5_standWith_42 : decode cX5_standWith 42 = .ok (.iconst 0, 1) := by decide +kernel
theorem dX5_standWith_43 : decode cX5_standWith 43 = .ok (.iastore, 1) := by decide +kernel
theorem dX5_standWith_44 : decode cX5_standWith 44 = .ok (.iinc 2 1, 3) := by decide +kernel
theorem dX5_standWith_47 : decode cX5_standWith 47 = .ok (.goto (-41), 3) := by decide +kernel
theorem dX5_standWith_50 : decode cX5_standWith 50 = .ok (.aload_n 0, 1) := by decide +kernel
theorem dX5_standWith_51 : decode cX5_standWith 51 = .ok (.bipush 6, 2) := by decide +kernel
theorem dX5_standWith_53 : decode cX5_standWith 53 = .ok (.invokevirtual 137, 3) := by decide +kernel
theorem dX5_standWith_56 : decode cX5_standWith 56 = .ok (.pop, 1) := by decide +kernel
theorem dX5_standWith_57 : decode cX5_standWith 57 = .ok (.aload_n 0, 1) := by decide +kernel
theorem dX5_standWith_58 : decode cX5_standWith 58 = .ok (.iconst 1, 1) := by decide +kernel
theorem dX5_standWith_59 : decode cX5_standWith 59 = .ok (.invokevirtual 140, 3) := by decide +kernel
theorem dX5_standWith_62 : decode cX5_standWith 62 = .ok (.invokestatic 114, 3) := by decide +kernel
theorem dX5_standWith_65 : decode cX5_standWith 65 = .ok (.ireturn, 1) := by decide +kernel
theorem dX5_share_0 : decode cX5_share 0 = .ok (.aload_n 0, 1) := by decide +kernel
theorem dX5_share_1 : decode cX5_share 1 = .ok (.iload_n 1, 1) := by decide +kernel
theorem dX5_share_2 : decode cX5_share 2 = .ok (.invokevirtual 91, 3) := by decide +kernel
theorem dX5_share_5 : decode cX5_share 5 = .ok (.ifCond .ne 5, 3) := by decide +kernel
theorem dX5_share_8 : decode cX5_share 8 = .ok (.iconst (-1), 1) := by decide +kernel
theorem dX5_share_9 : decode cX5_share 9 = .ok (.ireturn, 1) := by decide +kernel
theorem dX5_share_10 : decode cX5_share 10 = .ok (.iconst 0, 1) := by decide +kernel
theorem dX5_share_11 : decode cX5_share 11 = .ok (.istore_n 3, 1) := by decide +kernel
theorem dX5_share_12 : decode cX5_share 12 = .ok (.iconst 0, 1) := by decide +kernel
theorem dX5_share_13 : decode cX5_share 13 = .ok (.istore 4, 2) := by decide +kernel
theorem dX5_share_15 : decode cX5_share 15 = .ok (.iload 4, 2) := by decide +kernel
theorem dX5_share_17 : decode cX5_share 17 = .ok (.iconst 1, 1) := by decide +kernel
theorem dX5_share_18 : decode cX5_share 18 = .ok (.aload_n 0, 1) := by decide +kernel
theorem dX5_share_19 : decode cX5_share 19 = .ok (.getfield 74, 3) := by decide +kernel
theorem dX5_share_22 : decode cX5_share 22 = .ok (.ishl, 1) := by decide +kernel
theorem dX5_share_23 : decode cX5_share 23 = .ok (.if_icmp .ge 67, 3) := by decide +kernel
theorem dX5_share_26 : decode cX5_share 26 = .ok (.iload 4, 2) := by decide +kernel
theorem dX5_share_28 : decode cX5_share 28 = .ok (.iload_n 1, 1) := by decide +kernel
theorem dX5_share_29 : decode cX5_share 29 = .ok (.invokestatic 102, 3) := by decide +kernel
theorem dX5_share_32 : decode cX5_share 32 = .ok (.ifCond .ne 52, 3) := by decide +kernel
theorem dX5_share_35 : decode cX5_share 35 = .ok (.iload 4, 2) := by decide +kernel
theorem dX5_share_37 : decode cX5_share 37 = .ok (.invokestatic 114, 3) := by decide +kernel
theorem dX5_share_40 : decode cX5_share 40 = .ok (.invokestatic 181, 3) := by decide +kernel
theorem dX5_share_43 : decode cX5_share 43 = .ok (.aload_n 0, 1) := by decide +kernel
theorem dX5_share_44 : decode cX5_share 44 = .ok (.getfield 74, 3) := by decide +kernel
theorem dX5_share_47 : decode cX5_share 47 = .ok (.iconst 1, 1) := by decide +kernel
theorem dX5_share_48 : decode cX5_share 48 = .ok (.isub, 1) := by decide +kernel
theorem dX5_share_49 : decode cX5_share 49 = .ok (.iload 4, 2) := by decide +kernel
theorem dX5_share_51 : decode cX5_share 51 = .ok (.invokestatic 114, 3) := by decide +kernel
theorem dX5_share_54 : decode cX5_share 54 = .ok (.isub, 1) := by decide +kernel
theorem dX5_share_55 : decode cX5_share 55 = .ok (.invokestatic 181, 3) := by decide +kernel
theorem dX5_share_58 : decode cX5_share 58 = .ok (.imul, 1) := by decide +kernel
theorem dX5_share_59 : decode cX5_share 59 = .ok (.istore 5, 2) := by decide +kernel
theorem dX5_share_61 : decode cX5_share 61 = .ok (.iload_n 3, 1) := by decide +kernel
theorem dX5_share_62 : decode cX5_share 62 = .ok (.iload 5, 2) := by decide +kernel
theorem dX5_share_64 : decode cX5_share 64 = .ok (.aload_n 0, 1) := by decide +kernel
theorem dX5_share_65 : decode cX5_share 65 = .ok (.iload 4, 2) := by decide +kernel
theorem dX5_share_67 : decode cX5_share 67 = .ok (.invokevirtual 184, 3) := by decide +kernel
theorem dX5_share_70 : decode cX5_share 70 = .ok (.aload_n 0, 1) := by decide +kernel
theorem dX5_share_71 : decode cX5_share 71 = .ok (.iload 4, 2) := by decide +kernel
theorem dX5_share_73 : decode cX5_share 73 = .ok (.iconst 1, 1) := by decide +kernel
theorem dX5_share_74 : decode cX5_share 74 = .ok (.iload_n 1, 1) := by decide +kernel
theorem dX5_share_75 : decode cX5_share 75 = .ok (.ishl, 1) := by decide +kernel
theorem dX5_share_76 : decode cX5_share 76 = .ok (.ior, 1) := by decide +kernel
theorem dX5_share_77 : decode cX5_share 77 = .ok (.invokevirtual 184, 3) := by decide +kernel
theorem dX5_share_80 : decode cX5_share 80 = .ok (.isub, 1) := by decide +kernel
theorem dX5_share_81 : decode cX5_share 81 = .ok (.imul, 1) := by decide +kernel
theorem dX5_share_82 : decode cX5_share 82 = .ok (.iadd, 1) := by decide +kernel
theorem dX5_share_83 : decode cX5_share 83 = .ok (.istore_n 3, 1) := by decide +kernel
theorem dX5_share_84 : decode cX5_share 84 = .ok (.iinc 4 1, 3) := by decide +kernel
theorem dX5_share_87 : decode cX5_share 87 = .ok (.goto (-72), 3) := by decide +kernel
theorem dX5_share_90 : decode cX5_share 90 = .ok (.iload_n 3, 1) := by decide +kernel
theorem dX5_share_91 : decode cX5_share 91 = .ok (.aload_n 0, 1) := by decide +kernel
theorem dX5_share_92 : decode cX5_share 92 = .ok (.getfield 74, 3) := by decide +kernel
theorem dX5_share_95 : decode cX5_share 95 = .ok (.invokestatic 181, 3) := by decide +kernel
theorem dX5_share_98 : decode cX5_share 98 = .ok (.invokestatic 187, 3) := by decide +kernel
theorem dX5_share_101 : decode cX5_share 101 = .ok (.istore 4, 2) := by decide +kernel
theorem dX5_share_103 : decode cX5_share 103 = .ok (.iload_n 2, 1) := by decide +kernel
theorem dX5_share_104 : decode cX5_share 104 = .ok (.ifCond .eq 10, 3) := by decide +kernel
theorem dX5_share_107 : decode cX5_share 107 = .ok (.iload_n 3, 1) := by decide +kernel
theorem dX5_share_108 : decode cX5_share 108 = .ok (.iload 4, 2) := by decide +kernel
theorem dX5_share_110 : decode cX5_share 110 = .ok (.idiv, 1) := by decide +kernel
theorem dX5_share_111 : decode cX5_share 111 = .ok (.goto 13, 3) := by decide +kernel
theorem dX5_share_114 : decode cX5_share 114 = .ok (.aload_n 0, 1) := by decide +kernel
theorem dX5_share_115 : decode cX5_share 115 = .ok (.getfield 74, 3) := by decide +kernel
theorem dX5_share_118 : decode cX5_share 118 = .ok (.invokestatic 181, 3) := by decide +kernel
theorem dX5_share_121 : decode cX5_share 121 = .ok (.iload 4, 2) := by decide +kernel
theorem dX5_share_123 : decode cX5_share 123 = .ok (.idiv, 1) := by decide +kernel
theorem dX5_share_124 : decode cX5_share 124 = .ok (.ireturn, 1) := by decide +kernel
theorem dX5_gain_0 : decode cX5_gain 0 = .ok (.aload_n 0, 1) := by decide +kernel
theorem dX5_gain_1 : decode cX5_gain 1 = .ok (.invokevirtual 134, 3) := by decide +kernel
theorem dX5_gain_4 : decode cX5_gain 4 = .ok (.aload_n 0, 1) := by decide +kernel
theorem dX5_gain_5 : decode cX5_gain 5 = .ok (.getfield 13, 3) := by decide +kernel
theorem dX5_gain_8 : decode cX5_gain 8 = .ok (.bipush 37, 2) := by decide +kernel
theorem dX5_gain_10 : decode cX5_gain 10 = .ok (.iload_n 1, 1) := by decide +kernel
theorem dX5_gain_11 : decode cX5_gain 11 = .ok (.iadd, 1) := by decide +kernel
theorem dX5_gain_12 : decode cX5_gain 12 = .ok (.dup2, 1) := by decide +kernel
theorem dX5_gain_13 : decode cX5_gain 13 = .ok (.iaload, 1) := by decide +kernel
theorem dX5_gain_14 : decode cX5_gain 14 = .ok (.iload_n 3, 1) := by decide +kernel
theorem dX5_gain_15 : decode cX5_gain 15 = .ok (.iconst 1, 1) := by decide +kernel
theorem dX5_gain_16 : decode cX5_gain 16 = .ok (.if_icmp .ne 17, 3) := by decide +kernel
theorem dX5_gain_19 : decode cX5_gain 19 = .ok (.aload_n 0, 1) := by decide +kernel
theorem dX5_gain_20 : decode cX5_gain 20 = .ok (.iconst 0, 1) := by decide +kernel
theorem dX5_gain_21 : decode cX5_gain 21 = .ok (.iload_n 1, 1) := by decide +kernel
theorem dX5_gain_22 : decode cX5_gain 22 = .ok (.iconst 3, 1) := by decide +kernel
theorem dX5_gain_23 : decode cX5_gain 23 = .ok (.invokevirtual 119, 3) := by decide +kernel
theorem dX5_gain_26 : decode cX5_gain 26 = .ok (.ifCond .eq 7, 3) := by decide +kernel
theorem dX5_gain_29 : decode cX5_gain 29 = .ok (.iconst 3, 1) := by decide +kernel
theorem dX5_gain_30 : decode cX5_gain 30 = .ok (.goto 4, 3) := by decide +kernel
theorem dX5_gain_33 : decode cX5_gain 33 = .ok (.iconst 0, 1) := by decide +kernel
theorem dX5_gain_34 : decode cX5_gain 34 = .ok (.iadd, 1) := by decide +kernel
theorem dX5_gain_35 : decode cX5_gain 35 = .ok (.iastore, 1) := by decide +kernel
theorem dX5_gain_36 : decode cX5_gain 36 = .ok (.aload_n 0, 1) := by decide +kernel
theorem dX5_gain_37 : decode cX5_gain 37 = .ok (.getfield 13, 3) := by decide +kernel
theorem dX5_gain_40 : decode cX5_gain 40 = .ok (.bipush 37, 2) := by decide +kernel
theorem dX5_gain_42 : decode cX5_gain 42 = .ok (.iload_n 2, 1) := by decide +kernel
theorem dX5_gain_43 : decode cX5_gain 43 = .ok (.iadd, 1) := by decide +kernel
theorem dX5_gain_44 : decode cX5_gain 44 = .ok (.dup2, 1) := by decide +kernel
theorem dX5_gain_45 : decode cX5_gain 45 = .ok (.iaload, 1) := by decide +kernel
theorem dX5_gain_46 : decode cX5_gain 46 = .ok (.iload 4, 2) := by decide +kernel
theorem dX5_gain_48 : decode cX5_gain 48 = .ok (.iconst 1, 1) := by decide +kernel
theorem dX5_gain_49 : decode cX5_gain 49 = .ok (.if_icmp .ne 17, 3) := by decide +kernel
theorem dX5_gain_52 : decode cX5_gain 52 = .ok (.aload_n 0, 1) := by decide +kernel
theorem dX5_gain_53 : decode cX5_gain 53 = .ok (.iconst 0, 1) := by decide +kernel
theorem dX5_gain_54 : decode cX5_gain 54 = .ok (.iload_n 2, 1) := by decide +kernel
theorem dX5_gain_55 : decode cX5_gain 55 = .ok (.iconst 3, 1) := by decide +kernel
theorem dX5_gain_56 : decode cX5_gain 56 = .ok (.invokevirtual 119, 3) := by decide +kernel
theorem dX5_gain_59 : decode cX5_gain 59 = .ok (.ifCond .eq 7, 3) := by decide +kernel
theorem dX5_gain_62 : decode cX5_gain 62 = .ok (.iconst 3, 1) := by decide +kernel
theorem dX5_gain_63 : decode cX5_gain 63 = .ok (.goto 4, 3) := by decide +kernel
theorem dX5_gain_66 : decode cX5_gain 66 = .ok (.iconst 0, 1) := by decide +kernel
theorem dX5_gain_67 : decode cX5_gain 67 = .ok (.iadd, 1) := by decide +kernel
theorem dX5_gain_68 : decode cX5_gain 68 = .ok (.iastore, 1) := by decide +kernel
theorem dX5_gain_69 : decode cX5_gain 69 = .ok (.aload_n 0, 1) := by decide +kernel
theorem dX5_gain_70 : decode cX5_gain 70 = .ok (.iconst 4, 1) := by decide +kernel
theorem dX5_gain_71 : decode cX5_gain 71 = .ok (.invokevirtual 137, 3) := by decide +kernel
theorem dX5_gain_74 : decode cX5_gain 74 = .ok (.pop, 1) := by decide +kernel
theorem dX5_gain_75 : decode cX5_gain 75 = .ok (.aload_n 0, 1) := by decide +kernel
theorem dX5_gain_76 : decode cX5_gain 76 = .ok (.iconst 1, 1) := by decide +kernel
theorem dX5_gain_77 : decode cX5_gain 77 = .ok (.iload_n 1, 1) := by decide +kernel
theorem dX5_gain_78 : decode cX5_gain 78 = .ok (.invokevirtual 99, 3) := by decide +kernel
theorem dX5_gain_81 : decode cX5_gain 81 = .ok (.iconst 5, 1) := by decide +kernel
theorem dX5_gain_82 : decode cX5_gain 82 = .ok (.aload_n 0, 1) := by decide +kernel
theorem dX5_gain_83 : decode cX5_gain 83 = .ok (.iconst 1, 1) := by decide +kernel
theorem dX5_gain_84 : decode cX5_gain 84 = .ok (.bipush 18, 2) := by decide +kernel
theorem dX5_gain_86 : decode cX5_gain 86 = .ok (.iload_n 1, 1) := by decide +kernel
theorem dX5_gain_87 : decode cX5_gain 87 = .ok (.invokevirtual 80, 3) := by decide +kernel
theorem dX5_gain_90 : decode cX5_gain 90 = .ok (.imul, 1) := by decide +kernel
theorem dX5_gain_91 : decode cX5_gain 91 = .ok (.iadd, 1) := by decide +kernel
theorem dX5_gain_92 : decode cX5_gain 92 = .ok (.iconst 2, 1) := by decide +kernel
theorem dX5_gain_93 : decode cX5_gain 93 = .ok (.iload_n 3, 1) := by decide +kernel
theorem dX5_gain_94 : decode cX5_gain 94 = .ok (.imul, 1) := by decide +kernel
theorem dX5_gain_95 : decode cX5_gain 95 = .ok (.isub, 1) := by decide +kernel
theorem dX5_gain_96 : decode cX5_gain 96 = .ok (.ireturn, 1) := by decide +kernel
theorem dX5_isRest_0 : decode cX5_isRest 0 = .ok (.aload_n 0, 1) := by decide +kernel
theorem dX5_isRest_1 : decode cX5_isRest 1 = .ok (.iload_n 1, 1) := by decide +kernel
theorem dX5_isRest_2 : decode cX5_isRest 2 = .ok (.iload_n 2, 1) := by decide +kernel
theorem dX5_isRest_3 : decode cX5_isRest 3 = .ok (.iconst 1, 1) := by decide +kernel
theorem dX5_isRest_4 : decode cX5_isRest 4 = .ok (.iload_n 3, 1) := by decide +kernel
theorem dX5_isRest_5 : decode cX5_isRest 5 = .ok (.isub, 1) := by decide +kernel
theorem dX5_isRest_6 : decode cX5_isRest 6 = .ok (.iload 4, 2) := by decide +kernel
theorem dX5_isRest_8 : decode cX5_isRest 8 = .ok (.invokevirtual 190, 3) := by decide +kernel
theorem dX5_isRest_11 : decode cX5_isRest 11 = .ok (.aload_n 0, 1) := by decide +kernel
theorem dX5_isRest_12 : decode cX5_isRest 12 = .ok (.iload_n 1, 1) := by decide +kernel
theorem dX5_isRest_13 : decode cX5_isRest 13 = .ok (.iload_n 2, 1) := by decide +kernel
theorem dX5_isRest_14 : decode cX5_isRest 14 = .ok (.iload_n 3, 1) := by decide +kernel
theorem dX5_isRest_15 : decode cX5_isRest 15 = .ok (.iload 4, 2) := by decide +kernel
theorem dX5_isRest_17 : decode cX5_isRest 17 = .ok (.invokevirtual 190, 3) := by decide +kernel
theorem dX5_isRest_20 : decode cX5_isRest 20 = .ok (.if_icmp .gt 30, 3) := by decide +kernel
theorem dX5_isRest_23 : decode cX5_isRest 23 = .ok (.aload_n 0, 1) := by decide +kernel
theorem dX5_isRest_24 : decode cX5_isRest 24 = .ok (.iload_n 2, 1) := by decide +kernel
theorem dX5_isRest_25 : decode cX5_isRest 25 = .ok (.iload_n 1, 1) := by decide +kernel
theorem dX5_isRest_26 : decode cX5_isRest 26 = .ok (.iconst 1, 1) := by decide +kernel
theorem dX5_isRest_27 : decode cX5_isRest 27 = .ok (.iload 4, 2) := by decide +kernel
theorem dX5_isRest_29 : decode cX5_isRest 29 = .ok (.isub, 1) := by decide +kernel
theorem dX5_isRest_30 : decode cX5_isRest 30 = .ok (.iload_n 3, 1) := by decide +kernel
theorem dX5_isRest_31 : decode cX5_isRest 31 = .ok (.invokevirtual 190, 3) := by decide +kernel
theorem dX5_isRest_34 : decode cX5_isRest 34 = .ok (.aload_n 0, 1) := by decide +kernel
theorem dX5_isRest_35 : decode cX5_isRest 35 = .ok (.iload_n 2, 1) := by decide +kernel
theorem dX5_isRest_36 : decode cX5_isRest 36 = .ok (.iload_n 1, 1) := by decide +kernel
theorem dX5_isRest_37 : decode cX5_isRest 37 = .ok (.iload 4, 2) := by decide +kernel
theorem dX5_isRest_39 : decode cX5_isRest 39 = .ok (.iload_n 3, 1) := by decide +kernel
theorem dX5_isRest_40 : decode cX5_isRest 40 = .ok (.invokevirtual 190, 3) := by decide +kernel
theorem dX5_isRest_43 : decode cX5_isRest 43 = .ok (.if_icmp .gt 7, 3) := by decide +kernel
theorem dX5_isRest_46 : decode cX5_isRest 46 = .ok (.iconst 1, 1) := by decide +kernel
theorem dX5_isRest_47 : decode cX5_isRest 47 = .ok (.goto 4, 3) := by decide +kernel
theorem dX5_isRest_50 : decode cX5_isRest 50 = .ok (.iconst 0, 1) := by decide +kernel
theorem dX5_isRest_51 : decode cX5_isRest 51 = .ok (.ireturn, 1) := by decide +kernel
theorem dX5_rests_0 : decode cX5_rests 0 = .ok (.aload_n 0, 1) := by decide +kernel
theorem dX5_rests_1 : decode cX5_rests 1 = .ok (.iload_n 1, 1) := by decide +kernel
theorem dX5_rests_2 : decode cX5_rests 2 = .ok (.invokevirtual 91, 3) := by decide +kernel
theorem dX5_rests_5 : decode cX5_rests 5 = .ok (.ifCond .eq 11, 3) := by decide +kernel
theorem dX5_rests_8 : decode cX5_rests 8 = .ok (.aload_n 0, 1) := by decide +kernel
theorem dX5_rests_9 : decode cX5_rests 9 = .ok (.iload_n 2, 1) := by decide +kernel
theorem dX5_rests_10 : decode cX5_rests 10 = .ok (.invokevirtual 91, 3) := by decide +kernel
theorem dX5_rests_13 : decode cX5_rests 13 = .ok (.ifCond .ne 5, 3) := by decide +kernel
theorem dX5_rests_16 : decode cX5_rests 16 = .ok (.iconst (-1), 1) := by decide +kernel
theorem dX5_rests_17 : decode cX5_rests 17 = .ok (.ireturn, 1) := by decide +kernel
theorem dX5_rests_18 : decode cX5_rests 18 = .ok (.iload_n 1, 1) := by decide +kernel
theorem dX5_rests_19 : decode cX5_rests 19 = .ok (.iload_n 2, 1) := by decide +kernel
theorem dX5_rests_20 : decode cX5_rests 20 = .ok (.if_icmp .eq 13, 3) := by decide +kernel
theorem dX5_rests_23 : decode cX5_rests 23 = .ok (.iload_n 3, 1) := by decide +kernel
theorem dX5_rests_24 : decode cX5_rests 24 = .ok (.i2l, 1) := by decide +kernel
theorem dX5_rests_25 : decode cX5_rests 25 = .ok (.lconst 0, 1) := by decide +kernel
theorem dX5_rests_26 : decode cX5_rests 26 = .ok (.lconst 1, 1) := by decide +kernel
theorem dX5_rests_27 : decode cX5_rests 27 = .ok (.invokestatic 49, 3) := by decide +kernel
theorem dX5_rests_30 : decode cX5_rests 30 = .ok (.ifCond .ne 6, 3) := by decide +kernel
theorem dX5_rests_33 : decode cX5_rests 33 = .ok (.bipush (-2), 2) := by decide +kernel
theorem dX5_rests_35 : decode cX5_rests 35 = .ok (.ireturn, 1) := by decide +kernel
theorem dX5_rests_36 : decode cX5_rests 36 = .ok (.iconst 0, 1) := by decide +kernel
theorem dX5_rests_37 : decode cX5_rests 37 = .ok (.istore 4, 2) := by decide +kernel
theorem dX5_rests_39 : decode cX5_rests 39 = .ok (.bipush (-9), 2) := by decide +kernel
theorem dX5_rests_41 : decode cX5_rests 41 = .ok (.istore 5, 2) := by decide +kernel
theorem dX5_rests_43 : decode cX5_rests 43 = .ok (.iconst 0, 1) := by decide +kernel
theorem dX5_rests_44 : decode cX5_rests 44 = .ok (.istore 6, 2) := by decide +kernel
theorem dX5_rests_46 : decode cX5_rests 46 = .ok (.iload 6, 2) := by decide +kernel
theorem dX5_rests_48 : decode cX5_rests 48 = .ok (.iconst 4, 1) := by decide +kernel
theorem dX5_rests_49 : decode cX5_rests 49 = .ok (.if_icmp .ge 53, 3) := by decide +kernel
theorem dX5_rests_52 : decode cX5_rests 52 = .ok (.aload_n 0, 1) := by decide +kernel
theorem dX5_rests_53 : decode cX5_rests 53 = .ok (.iload_n 1, 1) := by decide +kernel
theorem dX5_rests_54 : decode cX5_rests 54 = .ok (.iload_n 2, 1) := by decide +kernel
theorem dX5_rests_55 : decode cX5_rests 55 = .ok (.iload 6, 2) := by decide +kernel
theorem dX5_rests_57 : decode cX5_rests 57 = .ok (.iconst 2, 1) := by decide +kernel
theorem dX5_rests_58 : decode cX5_rests 58 = .ok (.idiv, 1) := by decide +kernel
theorem dX5_rests_59 : decode cX5_rests 59 = .ok (.iload 6, 2) := by decide +kernel
theorem dX5_rests_61 : decode cX5_rests 61 = .ok (.iconst 2, 1) := by decide +kernel
theorem dX5_rests_62 : decode cX5_rests 62 = .ok (.irem, 1) := by decide +kernel
theorem dX5_rests_63 : decode cX5_rests 63 = .ok (.invokevirtual 194, 3) := by decide +kernel
theorem dX5_rests_66 : decode cX5_rests 66 = .ok (.ifCond .eq 30, 3) := by decide +kernel
theorem dX5_rests_69 : decode cX5_rests 69 = .ok (.iload 4, 2) := by decide +kernel
theorem dX5_rests_71 : decode cX5_rests 71 = .ok (.ifCond .ne 18, 3) := by decide +kernel
theorem dX5_rests_74 : decode cX5_rests 74 = .ok (.bipush 10, 2) := by decide +kernel
theorem dX5_rests_76 : decode cX5_rests 76 = .ok (.iload 6, 2) := by decide +kernel
theorem dX5_rests_78 : decode cX5_rests 78 = .ok (.iconst 2, 1) := by decide +kernel
theorem dX5_rests_79 : decode cX5_rests 79 = .ok (.idiv, 1) := by decide +kernel
theorem dX5_rests_80 : decode cX5_rests 80 = .ok (.imul, 1) := by decide +kernel
theorem dX5_rests_81 : decode cX5_rests 81 = .ok (.iload 6, 2) := by decide +kernel
theorem dX5_rests_83 : decode cX5_rests 83 = .ok (.iconst 2, 1) := by decide +kernel
theorem dX5_rests_84 : decode cX5_rests 84 = .ok (.irem, 1) := by decide +kernel
theorem dX5_rests_85 : decode cX5_rests 85 = .ok (.iadd, 1) := by decide +kernel
theorem dX5_rests_86 : decode cX5_rests 86 = .ok (.goto 5, 3) := by decide +kernel
theorem dX5_rests_89 : decode cX5_rests 89 = .ok (.iload 5, 2) := by decide +kernel
theorem dX5_rests_91 : decode cX5_rests 91 = .ok (.istore 5, 2) := by decide +kernel
theorem dX5_rests_93 : decode cX5_rests 93 = .ok (.iinc 4 1, 3) := by decide +kernel
theorem dX5_rests_96 : decode cX5_rests 96 = .ok (.iinc 6 1, 3) := by decide +kernel
theorem dX5_rests_99 : decode cX5_rests 99 = .ok (.goto (-53), 3) := by decide +kernel
theorem dX5_rests_102 : decode cX5_rests 102 = .ok (.iload_n 3, 1) := by decide +kernel
theorem dX5_rests_103 : decode cX5_rests 103 = .ok (.ifCond .ne 8, 3) := by decide +kernel
theorem dX5_rests_106 : decode cX5_rests 106 = .ok (.iload 4, 2) := by decide +kernel
theorem dX5_rests_108 : decode cX5_rests 108 = .ok (.goto 5, 3) := by decide +kernel
theorem dX5_rests_111 : decode cX5_rests 111 = .ok (.iload 5, 2) := by decide +kernel
theorem dX5_rests_113 : decode cX5_rests 113 = .ok (.ireturn, 1) := by decide +kernel
theorem dX5_fails_0 : decode cX5_fails 0 = .ok (.iload_n 1, 1) := by decide +kernel
theorem dX5_fails_1 : decode cX5_fails 1 = .ok (.i2l, 1) := by decide +kernel
theorem dX5_fails_2 : decode cX5_fails 2 = .ok (.lconst 0, 1) := by decide +kernel
theorem dX5_fails_3 : decode cX5_fails 3 = .ok (.ldc2_w 197, 3) := by decide +kernel
theorem dX5_fails_6 : decode cX5_fails 6 = .ok (.invokestatic 49, 3) := by decide +kernel
theorem dX5_fails_9 : decode cX5_fails 9 = .ok (.ifCond .eq 15, 3) := by decide +kernel
theorem dX5_fails_12 : decode cX5_fails 12 = .ok (.iload_n 2, 1) := by decide +kernel
theorem dX5_fails_13 : decode cX5_fails 13 = .ok (.i2l, 1) := by decide +kernel
theorem dX5_fails_14 : decode cX5_fails 14 = .ok (.lconst 0, 1) := by decide +kernel
theorem dX5_fails_15 : decode cX5_fails 15 = .ok (.ldc2_w 143, 3) := by decide +kernel
theorem dX5_fails_18 : decode cX5_fails 18 = .ok (.invokestatic 49, 3) := by decide +kernel
theorem dX5_fails_21 : decode cX5_fails 21 = .ok (.ifCond .ne 6, 3) := by decide +kernel
theorem dX5_fails_24 : decode cX5_fails 24 = .ok (.bipush (-2), 2) := by decide +kernel
theorem dX5_fails_26 : decode cX5_fails 26 = .ok (.ireturn, 1) := by decide +kernel
theorem dX5_fails_27 : decode cX5_fails 27 = .ok (.iconst 0, 1) := by decide +kernel
theorem dX5_fails_28 : decode cX5_fails 28 = .ok (.istore 4, 2) := by decide +kernel
theorem dX5_fails_30 : decode cX5_fails 30 = .ok (.iconst 0, 1) := by decide +kernel
theorem dX5_fails_31 : decode cX5_fails 31 = .ok (.istore 5, 2) := by decide +kernel
theorem dX5_fails_33 : decode cX5_fails 33 = .ok (.iconst 0, 1) := by decide +kernel
theorem dX5_fails_34 : decode cX5_fails 34 = .ok (.istore 6, 2) := by decide +kernel
theorem dX5_fails_36 : decode cX5_fails 36 = .ok (.iload 6, 2) := by decide +kernel
theorem dX5_fails_38 : decode cX5_fails 38 = .ok (.iconst 1, 1) := by decide +kernel
theorem dX5_fails_39 : decode cX5_fails 39 = .ok (.aload_n 0, 1) := by decide +kernel
theorem dX5_fails_40 : decode cX5_fails 40 = .ok (.getfield 74, 3) := by decide +kernel
theorem dX5_fails_43 : decode cX5_fails 43 = .ok (.ishl, 1) := by decide +kernel
theorem dX5_fails_44 : decode cX5_fails 44 = .ok (.if_icmp .ge 152, 3) := by decide +kernel
theorem dX5_fails_47 : decode cX5_fails 47 = .ok (.aload_n 0, 1) := by decide +kernel
theorem dX5_fails_48 : decode cX5_fails 48 = .ok (.invokevirtual 134, 3) := by decide +kernel
theorem dX5_fails_51 : decode cX5_fails 51 = .ok (.iconst 1, 1) := by decide +kernel
theorem dX5_fails_52 : decode cX5_fails 52 = .ok (.istore 7, 2) := by decide +kernel
theorem dX5_fails_54 : decode cX5_fails 54 = .ok (.iconst 0, 1) := by decide +kernel
theorem dX5_fails_55 : decode cX5_fails 55 = .ok (.istore 8, 2) := by decide +kernel
theorem dX5_fails_57 : decode cX5_fails 57 = .ok (.iload 8, 2) := by decide +kernel
theorem dX5_fails_59 : decode cX5_fails 59 = .ok (.aload_n 0, 1) := by decide +kernel
theorem dX5_fails_60 : decode cX5_fails 60 = .ok (.getfield 74, 3) := by decide +kernel
theorem dX5_fails_63 : decode cX5_fails 63 = .ok (.if_icmp .ge 91, 3) := by decide +kernel
theorem dX5_fails_66 : decode cX5_fails 66 = .ok (.iload 6, 2) := by decide +kernel
theorem dX5_fails_68 : decode cX5_fails 68 = .ok (.iload 8, 2) := by decide +kernel
theorem dX5_fails_70 : decode cX5_fails 70 = .ok (.invokestatic 102, 3) := by decide +kernel
theorem dX5_fails_73 : decode cX5_fails 73 = .ok (.istore 9, 2) := by decide +kernel
theorem dX5_fails_75 : decode cX5_fails 75 = .ok (.iload 7, 2) := by decide +kernel
theorem dX5_fails_77 : decode cX5_fails 77 = .ok (.aload_n 0, 1) := by decide +kernel
theorem dX5_fails_78 : decode cX5_fails 78 = .ok (.getfield 13, 3) := by decide +kernel
theorem dX5_fails_81 : decode cX5_fails 81 = .ok (.bipush 18, 2) := by decide +kernel
theorem dX5_fails_83 : decode cX5_fails 83 = .ok (.iload 8, 2) := by decide +kernel
theorem dX5_fails_85 : decode cX5_fails 85 = .ok (.iadd, 1) := by decide +kernel
theorem dX5_fails_86 : decode cX5_fails 86 = .ok (.iaload, 1) := by decide +kernel
theorem dX5_fails_87 : decode cX5_fails 87 = .ok (.ifCond .ne 16, 3) := by decide +kernel
theorem dX5_fails_90 : decode cX5_fails 90 = .ok (.iload 9, 2) := by decide +kernel
theorem dX5_fails_92 : decode cX5_fails 92 = .ok (.ifCond .eq 7, 3) := by decide +kernel
theorem dX5_fails_95 : decode cX5_fails 95 = .ok (.iconst 0, 1) := by decide +kernel
theorem dX5_fails_96 : decode cX5_fails 96 = .ok (.goto 20, 3) := by decide +kernel
theorem dX5_fails_99 : decode cX5_fails 99 = .ok (.iconst 1, 1) := by decide +kernel
theorem dX5_fails_100 : decode cX5_fails 100 = .ok (.goto 16, 3) := by decide +kernel
theorem dX5_fails_103 : decode cX5_fails 103 = .ok (.iload 9, 2) := by decide +kernel
theorem dX5_fails_105 : decode cX5_fails 105 = .ok (.ifCond .eq 7, 3) := by decide +kernel
theorem dX5_fails_108 : decode cX5_fails 108 = .ok (.iload_n 2, 1) := by decide +kernel
theorem dX5_fails_109 : decode cX5_fails 109 = .ok (.goto 7, 3) := by decide +kernel
theorem dX5_fails_112 : decode cX5_fails 112 = .ok (.bipush 10, 2) := by decide +kernel
theorem dX5_fails_114 : decode cX5_fails 114 = .ok (.iload_n 2, 1) := by decide +kernel
theorem dX5_fails_115 : decode cX5_fails 115 = .ok (.isub, 1) := by decide +kernel
theorem dX5_fails_116 : decode cX5_fails 116 = .ok (.imul, 1) := by decide +kernel
theorem dX5_fails_117 : decode cX5_fails 117 = .ok (.istore 7, 2) := by decide +kernel
theorem dX5_fails_119 : decode cX5_fails 119 = .ok (.aload_n 0, 1) := by decide +kernel
theorem dX5_fails_120 : decode cX5_fails 120 = .ok (.getfield 13, 3) := by decide +kernel
theorem dX5_fails_123 : decode cX5_fails 123 = .ok (.bipush 43, 2) := by decide +kernel
theorem dX5_fails_125 : decode cX5_fails 125 = .ok (.iload 8, 2) := by decide +kernel
theorem dX5_fails_127 : decode cX5_fails 127 = .ok (.iadd, 1) := by decide +kernel
theorem dX5_fails_128 : decode cX5_fails 128 = .ok (.iload 9, 2) := by decide +kernel
theorem dX5_fails_130 : decode cX5_fails 130 = .ok (.ifCond .eq 7, 3) := by decide +kernel
theorem dX5_fails_133 : decode cX5_fails 133 = .ok (.iconst 3, 1) := by decide +kernel
theorem dX5_fails_134 : decode cX5_fails 134 = .ok (.goto 13, 3) := by decide +kernel
theorem dX5_fails_137 : decode cX5_fails 137 = .ok (.aload_n 0, 1) := by decide +kernel
theorem dX5_fails_138 : decode cX5_fails 138 = .ok (.getfield 13, 3) := by decide +kernel
theorem dX5_fails_141 : decode cX5_fails 141 = .ok (.bipush 12, 2) := by decide +kernel
theorem dX5_fails_143 : decode cX5_fails 143 = .ok (.iload 8, 2) := by decide +kernel
theorem dX5_fails_145 : decode cX5_fails 145 = .ok (.iadd, 1) := by decide +kernel
theorem dX5_fails_146 : decode cX5_fails 146 = .ok (.iaload, 1) := by decide +kernel
theorem dX5_fails_147 : decode cX5_fails 147 = .ok (.iastore, 1) := by decide +kernel
theorem dX5_fails_148 : decode cX5_fails 148 = .ok (.iinc 8 1, 3) := by decide +kernel
theorem dX5_fails_151 : decode cX5_fails 151 = .ok (.goto (-94), 3) := by decide +kernel
theorem dX5_fails_154 : decode cX5_fails 154 = .ok (.aload_n 0, 1) := by decide +kernel
theorem dX5_fails_155 : decode cX5_fails 155 = .ok (.iconst 3, 1) := by decide +kernel
theorem dX5_fails_156 : decode cX5_fails 156 = .ok (.invokevirtual 137, 3) := by decide +kernel
theorem dX5_fails_159 : decode cX5_fails 159 = .ok (.pop, 1) := by decide +kernel
theorem dX5_fails_160 : decode cX5_fails 160 = .ok (.iload 5, 2) := by decide +kernel
theorem dX5_fails_162 : decode cX5_fails 162 = .ok (.iload 7, 2) := by decide +kernel
theorem dX5_fails_164 : decode cX5_fails 164 = .ok (.iadd, 1) := by decide +kernel
theorem dX5_fails_165 : decode cX5_fails 165 = .ok (.istore 5, 2) := by decide +kernel
theorem dX5_fails_167 : decode cX5_fails 167 = .ok (.iload 4, 2) := by decide +kernel
theorem dX5_fails_169 : decode cX5_fails 169 = .ok (.aload_n 0, 1) := by decide +kernel
theorem dX5_fails_170 : decode cX5_fails 170 = .ok (.iconst 1, 1) := by decide +kernel
theorem dX5_fails_171 : decode cX5_fails 171 = .ok (.invokevirtual 140, 3) := by decide +kernel
theorem dX5_fails_174 : decode cX5_fails 174 = .ok (.invokestatic 114, 3) := by decide +kernel
theorem dX5_fails_177 : decode cX5_fails 177 = .ok (.iload_n 1, 1) := by decide +kernel
theorem dX5_fails_178 : decode cX5_fails 178 = .ok (.if_icmp .lt 8, 3) := by decide +kernel
theorem dX5_fails_181 : decode cX5_fails 181 = .ok (.iload 7, 2) := by decide +kernel
theorem dX5_fails_183 : decode cX5_fails 183 = .ok (.goto 4, 3) := by decide +kernel
theorem dX5_fails_186 : decode cX5_fails 186 = .ok (.iconst 0, 1) := by decide +kernel
theorem dX5_fails_187 : decode cX5_fails 187 = .ok (.iadd, 1) := by decide +kernel
theorem dX5_fails_188 : decode cX5_fails 188 = .ok (.istore 4, 2) := by decide +kernel
theorem dX5_fails_190 : decode cX5_fails 190 = .ok (.iinc 6 1, 3) := by decide +kernel
theorem dX5_fails_193 : decode cX5_fails 193 = .ok (.goto (-157), 3) := by decide +kernel
theorem dX5_fails_196 : decode cX5_fails 196 = .ok (.iload 4, 2) := by decide +kernel
theorem dX5_fails_198 : decode cX5_fails 198 = .ok (.iload 5, 2) := by decide +kernel
theorem dX5_fails_200 : decode cX5_fails 200 = .ok (.invokestatic 187, 3) := by decide +kernel
theorem dX5_fails_203 : decode cX5_fails 203 = .ok (.istore 6, 2) := by decide +kernel
theorem dX5_fails_205 : decode cX5_fails 205 = .ok (.iload_n 3, 1) := by decide +kernel
theorem dX5_fails_206 : decode cX5_fails 206 = .ok (.ifCond .eq 11, 3) := by decide +kernel
theorem dX5_fails_209 : decode cX5_fails 209 = .ok (.iload 4, 2) := by decide +kernel
theorem dX5_fails_211 : decode cX5_fails 211 = .ok (.iload 6, 2) := by decide +kernel
theorem dX5_fails_213 : decode cX5_fails 213 = .ok (.idiv, 1) := by decide +kernel
theorem dX5_fails_214 : decode cX5_fails 214 = .ok (.goto 8, 3) := by decide +kernel
theorem dX5_fails_217 : decode cX5_fails 217 = .ok (.iload 5, 2) := by decide +kernel
theorem dX5_fails_219 : decode cX5_fails 219 = .ok (.iload 6, 2) := by decide +kernel
theorem dX5_fails_221 : decode cX5_fails 221 = .ok (.idiv, 1) := by decide +kernel
theorem dX5_fails_222 : decode cX5_fails 222 = .ok (.ireturn, 1) := by decide +kernel
theorem dX5_seed_0 : decode cX5_seed 0 = .ok (.aload_n 0, 1) := by decide +kernel
theorem dX5_seed_1 : decode cX5_seed 1 = .ok (.getfield 199, 3) := by decide +kernel
theorem dX5_seed_4 : decode cX5_seed 4 = .ok (.lstore_n 3, 1) := by decide +kernel
theorem dX5_seed_5 : decode cX5_seed 5 = .ok (.aload_n 0, 1) := by decide +kernel
theorem dX5_seed_6 : decode cX5_seed 6 = .ok (.lload_n 1, 1) := by decide +kernel
theorem dX5_seed_7 : decode cX5_seed 7 = .ok (.putfield 199, 3) := by decide +kernel
theorem dX5_seed_10 : decode cX5_seed 10 = .ok (.lload_n 3, 1) := by decide +kernel
theorem dX5_seed_11 : decode cX5_seed 11 = .ok (.lreturn, 1) := by decide +kernel
theorem dX5_years_0 : decode cX5_years 0 = .ok (.iload_n 1, 1) := by decide +kernel
theorem dX5_years_1 : decode cX5_years 1 = .ok (.i2l, 1) := by decide +kernel
theorem dX5_years_2 : decode cX5_years 2 = .ok (.lconst 1, 1) := by decide +kernel
theorem dX5_years_3 : decode cX5_years 3 = .ok (.ldc2_w 132, 3) := by decide +kernel
theorem dX5_years_6 : decode cX5_years 6 = .ok (.invokestatic 49, 3) := by decide +kernel
theorem dX5_years_9 : decode cX5_years 9 = .ok (.ifCond .ne 6, 3) := by decide +kernel
theorem dX5_years_12 : decode cX5_years 12 = .ok (.bipush (-2), 2) := by decide +kernel
theorem dX5_years_14 : decode cX5_years 14 = .ok (.ireturn, 1) := by decide +kernel
theorem dX5_years_15 : decode cX5_years 15 = .ok (.aload_n 0, 1) := by decide +kernel
theorem dX5_years_16 : decode cX5_years 16 = .ok (.invokevirtual 134, 3) := by decide +kernel
theorem dX5_years_19 : decode cX5_years 19 = .ok (.iconst 0, 1) := by decide +kernel
theorem dX5_years_20 : decode cX5_years 20 = .ok (.istore_n 2, 1) := by decide +kernel
theorem dX5_years_21 : decode cX5_years 21 = .ok (.iconst 0, 1) := by decide +kernel
theorem dX5_years_22 : decode cX5_years 22 = .ok (.istore_n 3, 1) := by decide +kernel
theorem dX5_years_23 : decode cX5_years 23 = .ok (.iload_n 3, 1) := by decide +kernel
theorem dX5_years_24 : decode cX5_years 24 = .ok (.iload_n 1, 1) := by decide +kernel
theorem dX5_years_25 : decode cX5_years 25 = .ok (.if_icmp .ge 146, 3) := by decide +kernel
theorem dX5_years_28 : decode cX5_years 28 = .ok (.aload_n 0, 1) := by decide +kernel
theorem dX5_years_29 : decode cX5_years 29 = .ok (.aload_n 0, 1) := by decide +kernel
theorem dX5_years_30 : decode cX5_years 30 = .ok (.getfield 199, 3) := by decide +kernel
theorem dX5_years_33 : decode cX5_years 33 = .ok (.ldc2_w 203, 3) := by decide +kernel
theorem dX5_years_36 : decode cX5_years 36 = .ok (.lmul, 1) := by decide +kernel
theorem dX5_years_37 : decode cX5_years 37 = .ok (.ldc2_w 205, 3) := by decide +kernel
theorem dX5_years_40 : decode cX5_years 40 = .ok (.ladd, 1) := by decide +kernel
theorem dX5_years_41 : decode cX5_years 41 = .ok (.putfield 199, 3) := by decide +kernel
theorem dX5_years_44 : decode cX5_years 44 = .ok (.aload_n 0, 1) := by decide +kernel
theorem dX5_years_45 : decode cX5_years 45 = .ok (.getfield 199, 3) := by decide +kernel
theorem dX5_years_48 : decode cX5_years 48 = .ok (.bipush 33, 2) := by decide +kernel
theorem dX5_years_50 : decode cX5_years 50 = .ok (.lushr, 1) := by decide +kernel
theorem dX5_years_51 : decode cX5_years 51 = .ok (.ldc2_w 207, 3) := by decide +kernel
theorem dX5_years_54 : decode cX5_years 54 = .ok (.lrem, 1) := by decide +kernel
theorem dX5_years_55 : decode cX5_years 55 = .ok (.l2i, 1) := by decide +kernel
theorem dX5_years_56 : decode cX5_years 56 = .ok (.istore 4, 2) := by decide +kernel
theorem dX5_years_58 : decode cX5_years 58 = .ok (.iload 4, 2) := by decide +kernel
theorem dX5_years_60 : decode cX5_years 60 = .ok (.bipush 35, 2) := by decide +kernel
theorem dX5_years_62 : decode cX5_years 62 = .ok (.if_icmp .le 12, 3) := by decide +kernel
theorem dX5_years_65 : decode cX5_years 65 = .ok (.aload_n 0, 1) := by decide +kernel
theorem dX5_years_66 : decode cX5_years 66 = .ok (.iconst 1, 1) := by decide +kernel
theorem dX5_years_67 : decode cX5_years 67 = .ok (.invokevirtual 137, 3) := by decide +kernel
theorem dX5_years_70 : decode cX5_years 70 = .ok (.pop, 1) := by decide +kernel
theorem dX5_years_71 : decode cX5_years 71 = .ok (.goto 83, 3) := by decide +kernel
theorem dX5_years_74 : decode cX5_years 74 = .ok (.iload 4, 2) := by decide +kernel
theorem dX5_years_76 : decode cX5_years 76 = .ok (.bipush 17, 2) := by decide +kernel
theorem dX5_years_78 : decode cX5_years 78 = .ok (.if_icmp .le 28, 3) := by decide +kernel
theorem dX5_years_81 : decode cX5_years 81 = .ok (.aload_n 0, 1) := by decide +kernel
theorem dX5_years_82 : decode cX5_years 82 = .ok (.iconst 3, 1) := by decide +kernel
theorem dX5_years_83 : decode cX5_years 83 = .ok (.iconst 0, 1) := by decide +kernel
theorem dX5_years_84 : decode cX5_years 84 = .ok (.bipush 10, 2) := by decide +kernel
theorem dX5_years_86 : decode cX5_years 86 = .ok (.iload 4, 2) := by decide +kernel
theorem dX5_years_88 : decode cX5_years 88 = .ok (.bipush 18, 2) := by decide +kernel
theorem dX5_years_90 : decode cX5_years 90 = .ok (.isub, 1) := by decide +kernel
theorem dX5_years_91 : decode cX5_years 91 = .ok (.iconst 3, 1) := by decide +kernel
theorem dX5_years_92 : decode cX5_years 92 = .ok (.idiv, 1) := by decide +kernel
theorem dX5_years_93 : decode cX5_years 93 = .ok (.imul, 1) := by decide +kernel
theorem dX5_years_94 : decode cX5_years 94 = .ok (.iload 4, 2) := by decide +kernel
theorem dX5_years_96 : decode cX5_years 96 = .ok (.iconst 3, 1) := by decide +kernel
theorem dX5_years_97 : decode cX5_years 97 = .ok (.irem, 1) := by decide +kernel
theorem dX5_years_98 : decode cX5_years 98 = .ok (.iadd, 1) := by decide +kernel
theorem dX5_years_99 : decode cX5_years 99 = .ok (.invokevirtual 170, 3) := by decide +kernel
theorem dX5_years_102 : decode cX5_years 102 = .ok (.pop, 1) := by decide +kernel
theorem dX5_years_103 : decode cX5_years 103 = .ok (.goto 51, 3) := by decide +kernel
theorem dX5_years_106 : decode cX5_years 106 = .ok (.iload 4, 2) := by decide +kernel
theorem dX5_years_108 : decode cX5_years 108 = .ok (.bipush 11, 2) := by decide +kernel
theorem dX5_years_110 : decode cX5_years 110 = .ok (.if_icmp .le 23, 3) := by decide +kernel
theorem dX5_years_113 : decode cX5_years 113 = .ok (.aload_n 0, 1) := by decide +kernel
theorem dX5_years_114 : decode cX5_years 114 = .ok (.iconst 2, 1) := by decide +kernel
theorem dX5_years_115 : decode cX5_years 115 = .ok (.iconst 0, 1) := by decide +kernel
theorem dX5_years_116 : decode cX5_years 116 = .ok (.bipush 10, 2) := by decide +kernel
theorem dX5_years_118 : decode cX5_years 118 = .ok (.iload 4, 2) := by decide +kernel
theorem dX5_years_120 : decode cX5_years 120 = .ok (.bipush 12, 2) := by decide +kernel
theorem dX5_years_122 : decode cX5_years 122 = .ok (.isub, 1) := by decide +kernel
theorem dX5_years_123 : decode cX5_years 123 = .ok (.imul, 1) := by decide +kernel
theorem dX5_years_124 : decode cX5_years 124 = .ok (.iconst 1, 1) := by decide +kernel
theorem dX5_years_125 : decode cX5_years 125 = .ok (.iadd, 1) := by decide +kernel
theorem dX5_years_126 : decode cX5_years 126 = .ok (.invokevirtual 170, 3) := by decide +kernel
theorem dX5_years_129 : decode cX5_years 129 = .ok (.pop, 1) := by decide +kernel
theorem dX5_years_130 : decode cX5_years 130 = .ok (.goto 24, 3) := by decide +kernel
theorem dX5_years_133 : decode cX5_years 133 = .ok (.aload_n 0, 1) := by decide +kernel
theorem dX5_years_134 : decode cX5_years 134 = .ok (.iconst 1, 1) := by decide +kernel
theorem dX5_years_135 : decode cX5_years 135 = .ok (.iconst 0, 1) := by decide +kernel
theorem dX5_years_136 : decode cX5_years 136 = .ok (.bipush 10, 2) := by decide +kernel
theorem dX5_years_138 : decode cX5_years 138 = .ok (.iload 4, 2) := by decide +kernel
theorem dX5_years_140 : decode cX5_years 140 = .ok (.iconst 2, 1) := by decide +kernel
theorem dX5_years_141 : decode cX5_years 141 = .ok (.idiv, 1) := by decide +kernel
theorem dX5_years_142 : decode cX5_years 142 = .ok (.imul, 1) := by decide +kernel
theorem dX5_years_143 : decode cX5_years 143 = .ok (.iconst 1, 1) := by decide +kernel
theorem dX5_years_144 : decode cX5_years 144 = .ok (.iadd, 1) := by decide +kernel
theorem dX5_years_145 : decode cX5_years 145 = .ok (.iload 4, 2) := by decide +kernel
theorem dX5_years_147 : decode cX5_years 147 = .ok (.iconst 2, 1) := by decide +kernel
theorem dX5_years_148 : decode cX5_years 148 = .ok (.irem, 1) := by decide +kernel
theorem dX5_years_149 : decode cX5_years 149 = .ok (.iadd, 1) := by decide +kernel
theorem dX5_years_150 : decode cX5_years 150 = .ok (.invokevirtual 170, 3) := by decide +kernel
theorem dX5_years_153 : decode cX5_years 153 = .ok (.pop, 1) := by decide +kernel
theorem dX5_years_154 : decode cX5_years 154 = .ok (.iload_n 2, 1) := by decide +kernel
theorem dX5_years_155 : decode cX5_years 155 = .ok (.aload_n 0, 1) := by decide +kernel
theorem dX5_years_156 : decode cX5_years 156 = .ok (.iconst 1, 1) := by decide +kernel
theorem dX5_years_157 : decode cX5_years 157 = .ok (.invokevirtual 140, 3) := by decide +kernel
theorem dX5_years_160 : decode cX5_years 160 = .ok (.invokestatic 114, 3) := by decide +kernel
theorem dX5_years_163 : decode cX5_years 163 = .ok (.iadd, 1) := by decide +kernel
theorem dX5_years_164 : decode cX5_years 164 = .ok (.istore_n 2, 1) := by decide +kernel
theorem dX5_years_165 : decode cX5_years 165 = .ok (.iinc 3 1, 3) := by decide +kernel
theorem dX5_years_168 : decode cX5_years 168 = .ok (.goto (-145), 3) := by decide +kernel
theorem dX5_years_171 : decode cX5_years 171 = .ok (.iload_n 2, 1) := by decide +kernel
theorem dX5_years_172 : decode cX5_years 172 = .ok (.ireturn, 1) := by decide +kernel
theorem dX5_keep_0 : decode cX5_keep 0 = .ok (.iload_n 1, 1) := by decide +kernel
theorem dX5_keep_1 : decode cX5_keep 1 = .ok (.i2l, 1) := by decide +kernel
theorem dX5_keep_2 : decode cX5_keep 2 = .ok (.lconst 0, 1) := by decide +kernel
theorem dX5_keep_3 : decode cX5_keep 3 = .ok (.lconst 1, 1) := by decide +kernel
theorem dX5_keep_4 : decode cX5_keep 4 = .ok (.invokestatic 49, 3) := by decide +kernel
theorem dX5_keep_7 : decode cX5_keep 7 = .ok (.ifCond .ne 5, 3) := by decide +kernel
theorem dX5_keep_10 : decode cX5_keep 10 = .ok (.iconst (-1), 1) := by decide +kernel
theorem dX5_keep_11 : decode cX5_keep 11 = .ok (.ireturn, 1) := by decide +kernel
theorem dX5_keep_12 : decode cX5_keep 12 = .ok (.aload_n 0, 1) := by decide +kernel
theorem dX5_keep_13 : decode cX5_keep 13 = .ok (.getfield 40, 3) := by decide +kernel
theorem dX5_keep_16 : decode cX5_keep 16 = .ok (.iload_n 1, 1) := by decide +kernel
theorem dX5_keep_17 : decode cX5_keep 17 = .ok (.iconst 1, 1) := by decide +kernel
theorem dX5_keep_18 : decode cX5_keep 18 = .ok (.bastore, 1) := by decide +kernel
theorem dX5_keep_19 : decode cX5_keep 19 = .ok (.iconst 0, 1) := by decide +kernel
theorem dX5_keep_20 : decode cX5_keep 20 = .ok (.istore_n 2, 1) := by decide +kernel
theorem dX5_keep_21 : decode cX5_keep 21 = .ok (.iload_n 2, 1) := by decide +kernel
theorem dX5_keep_22 : decode cX5_keep 22 = .ok (.bipush 31, 2) := by decide +kernel
theorem dX5_keep_24 : decode cX5_keep 24 = .ok (.if_icmp .ge 26, 3) := by decide +kernel
theorem dX5_keep_27 : decode cX5_keep 27 = .ok (.aload_n 0, 1) := by decide +kernel
theorem dX5_keep_28 : decode cX5_keep 28 = .ok (.getfield 44, 3) := by decide +kernel
theorem dX5_keep_31 : decode cX5_keep 31 = .ok (.bipush 31, 2) := by decide +kernel
theorem dX5_keep_33 : decode cX5_keep 33 = .ok (.iload_n 1, 1) := by decide +kernel
theorem dX5_keep_34 : decode cX5_keep 34 = .ok (.imul, 1) := by decide +kernel
theorem dX5_keep_35 : decode cX5_keep 35 = .ok (.iload_n 2, 1) := by decide +kernel
theorem dX5_keep_36 : decode cX5_keep 36 = .ok (.iadd, 1) := by decide +kernel
theorem dX5_keep_37 : decode cX5_keep 37 = .ok (.aload_n 0, 1) := by decide +kernel
theorem dX5_keep_38 : decode cX5_keep 38 = .ok (.getfield 13, 3) := by decide +kernel
theorem dX5_keep_41 : decode cX5_keep 41 = .ok (.iload_n 2, 1) := by decide +kernel
theorem dX5_keep_42 : decode cX5_keep 42 = .ok (.iaload, 1) := by decide +kernel
theorem dX5_keep_43 : decode cX5_keep 43 = .ok (.iastore, 1) := by decide +kernel
theorem dX5_keep_44 : decode cX5_keep 44 = .ok (.iinc 2 1, 3) := by decide +kernel
theorem dX5_keep_47 : decode cX5_keep 47 = .ok (.goto (-26), 3) := by decide +kernel
theorem dX5_keep_50 : decode cX5_keep 50 = .ok (.aload_n 0, 1) := by decide +kernel
theorem dX5_keep_51 : decode cX5_keep 51 = .ok (.getfield 13, 3) := by decide +kernel
theorem dX5_keep_54 : decode cX5_keep 54 = .ok (.bipush 30, 2) := by decide +kernel
theorem dX5_keep_56 : decode cX5_keep 56 = .ok (.iaload, 1) := by decide +kernel
theorem dX5_keep_57 : decode cX5_keep 57 = .ok (.ireturn, 1) := by decide +kernel
theorem dX5_again_0 : decode cX5_again 0 = .ok (.iload_n 1, 1) := by decide +kernel
theorem dX5_again_1 : decode cX5_again 1 = .ok (.i2l, 1) := by decide +kernel
theorem dX5_again_2 : decode cX5_again 2 = .ok (.lconst 0, 1) := by decide +kernel
theorem dX5_again_3 : decode cX5_again 3 = .ok (.lconst 1, 1) := by decide +kernel
theorem dX5_again_4 : decode cX5_again 4 = .ok (.invokestatic 49, 3) := by decide +kernel
theorem dX5_again_7 : decode cX5_again 7 = .ok (.ifCond .ne 5, 3) := by decide +kernel
theorem dX5_again_10 : decode cX5_again 10 = .ok (.iconst (-1), 1) := by decide +kernel
theorem dX5_again_11 : decode cX5_again 11 = .ok (.ireturn, 1) := by decide +kernel
theorem dX5_again_12 : decode cX5_again 12 = .ok (.aload_n 0, 1) := by decide +kernel
theorem dX5_again_13 : decode cX5_again 13 = .ok (.getfield 40, 3) := by decide +kernel
theorem dX5_again_16 : decode cX5_again 16 = .ok (.iload_n 1, 1) := by decide +kernel
theorem dX5_again_17 : decode cX5_again 17 = .ok (.baload, 1) := by decide +kernel
theorem dX5_again_18 : decode cX5_again 18 = .ok (.ifCond .ne 6, 3) := by decide +kernel
theorem dX5_again_21 : decode cX5_again 21 = .ok (.bipush (-3), 2) := by decide +kernel
theorem dX5_again_23 : decode cX5_again 23 = .ok (.ireturn, 1) := by decide +kernel
theorem dX5_again_24 : decode cX5_again 24 = .ok (.iconst 0, 1) := by decide +kernel
theorem dX5_again_25 : decode cX5_again 25 = .ok (.istore_n 2, 1) := by decide +kernel
theorem dX5_again_26 : decode cX5_again 26 = .ok (.iload_n 2, 1) := by decide +kernel
theorem dX5_again_27 : decode cX5_again 27 = .ok (.bipush 31, 2) := by decide +kernel
theorem dX5_again_29 : decode cX5_again 29 = .ok (.if_icmp .ge 26, 3) := by decide +kernel
theorem dX5_again_32 : decode cX5_again 32 = .ok (.aload_n 0, 1) := by decide +kernel
theorem dX5_again_33 : decode cX5_again 33 = .ok (.getfield 13, 3) := by decide +kernel
theorem dX5_again_36 : decode cX5_again 36 = .ok (.iload_n 2, 1) := by decide +kernel
theorem dX5_again_37 : decode cX5_again 37 = .ok (.aload_n 0, 1) := by decide +kernel
theorem dX5_again_38 : decode cX5_again 38 = .ok (.getfield 44, 3) := by decide +kernel
theorem dX5_again_41 : decode cX5_again 41 = .ok (.bipush 31, 2) := by decide +kernel
theorem dX5_again_43 : decode cX5_again 43 = .ok (.iload_n 1, 1) := by decide +kernel
theorem dX5_again_44 : decode cX5_again 44 = .ok (.imul, 1) := by decide +kernel
theorem dX5_again_45 : decode cX5_again 45 = .ok (.iload_n 2, 1) := by decide +kernel
theorem dX5_again_46 : decode cX5_again 46 = .ok (.iadd, 1) := by decide +kernel
theorem dX5_again_47 : decode cX5_again 47 = .ok (.iaload, 1) := by decide +kernel
theorem dX5_again_48 : decode cX5_again 48 = .ok (.iastore, 1) := by decide +kernel
theorem dX5_again_49 : decode cX5_again 49 = .ok (.iinc 2 1, 3) := by decide +kernel
theorem dX5_again_52 : decode cX5_again 52 = .ok (.goto (-26), 3) := by decide +kernel
theorem dX5_again_55 : decode cX5_again 55 = .ok (.aload_n 0, 1) := by decide +kernel
theorem dX5_again_56 : decode cX5_again 56 = .ok (.iconst 0, 1) := by decide +kernel
theorem dX5_again_57 : decode cX5_again 57 = .ok (.putfield 77, 3) := by decide +kernel
theorem dX5_again_60 : decode cX5_again 60 = .ok (.aload_n 0, 1) := by decide +kernel
theorem dX5_again_61 : decode cX5_again 61 = .ok (.getfield 13, 3) := by decide +kernel
theorem dX5_again_64 : decode cX5_again 64 = .ok (.bipush 30, 2) := by decide +kernel
theorem dX5_again_66 : decode cX5_again 66 = .ok (.iaload, 1) := by decide +kernel
theorem dX5_again_67 : decode cX5_again 67 = .ok (.ireturn, 1) := by decide +kernel
theorem dX5_together_0 : decode cX5_together 0 = .ok (.iconst 0, 1) := by decide +kernel
theorem dX5_together_1 : decode cX5_together 1 = .ok (.istore_n 2, 1) := by decide +kernel
theorem dX5_together_2 : decode cX5_together 2 = .ok (.iconst 0, 1) := by decide +kernel
theorem dX5_together_3 : decode cX5_together 3 = .ok (.istore_n 3, 1) := by decide +kernel
theorem dX5_together_4 : decode cX5_together 4 = .ok (.iload_n 3, 1) := by decide +kernel
theorem dX5_together_5 : decode cX5_together 5 = .ok (.aload_n 0, 1) := by decide +kernel
theorem dX5_together_6 : decode cX5_together 6 = .ok (.getfield 74, 3) := by decide +kernel
theorem dX5_together_9 : decode cX5_together 9 = .ok (.if_icmp .ge 66, 3) := by decide +kernel
theorem dX5_together_12 : decode cX5_together 12 = .ok (.iload_n 2, 1) := by decide +kernel
theorem dX5_together_13 : decode cX5_together 13 = .ok (.iload_n 1, 1) := by decide +kernel
theorem dX5_together_14 : decode cX5_together 14 = .ok (.iconst 4, 1) := by decide +kernel
theorem dX5_together_15 : decode cX5_together 15 = .ok (.if_icmp .ne 15, 3) := by decide +kernel
theorem dX5_together_18 : decode cX5_together 18 = .ok (.aload_n 0, 1) := by decide +kernel
theorem dX5_together_19 : decode cX5_together 19 = .ok (.getfield 13, 3) := by decide +kernel
theorem dX5_together_22 : decode cX5_together 22 = .ok (.bipush 6, 2) := by decide +kernel
theorem dX5_together_24 : decode cX5_together 24 = .ok (.iload_n 3, 1) := by decide +kernel
theorem dX5_together_25 : decode cX5_together 25 = .ok (.iadd, 1) := by decide +kernel
theorem dX5_together_26 : decode cX5_together 26 = .ok (.iaload, 1) := by decide +kernel
theorem dX5_together_27 : decode cX5_together 27 = .ok (.goto 40, 3) := by decide +kernel
theorem dX5_together_30 : decode cX5_together 30 = .ok (.iload_n 1, 1) := by decide +kernel
theorem dX5_together_31 : decode cX5_together 31 = .ok (.iconst 5, 1) := by decide +kernel
theorem dX5_together_32 : decode cX5_together 32 = .ok (.if_icmp .ne 12, 3) := by decide +kernel
theorem dX5_together_35 : decode cX5_together 35 = .ok (.aload_n 0, 1) := by decide +kernel
theorem dX5_together_36 : decode cX5_together 36 = .ok (.iconst 0, 1) := by decide +kernel
theorem dX5_together_37 : decode cX5_together 37 = .ok (.iload_n 3, 1) := by decide +kernel
theorem dX5_together_38 : decode cX5_together 38 = .ok (.invokevirtual 99, 3) := by decide +kernel
theorem dX5_together_41 : decode cX5_together 41 = .ok (.goto 26, 3) := by decide +kernel
theorem dX5_together_44 : decode cX5_together 44 = .ok (.aload_n 0, 1) := by decide +kernel
theorem dX5_together_45 : decode cX5_together 45 = .ok (.getfield 13, 3) := by decide +kernel
theorem dX5_together_48 : decode cX5_together 48 = .ok (.bipush 12, 2) := by decide +kernel
theorem dX5_together_50 : decode cX5_together 50 = .ok (.iload_n 3, 1) := by decide +kernel
theorem dX5_together_51 : decode cX5_together 51 = .ok (.iadd, 1) := by decide +kernel
theorem dX5_together_52 : decode cX5_together 52 = .ok (.iaload, 1) := by decide +kernel
theorem dX5_together_53 : decode cX5_together 53 = .ok (.iconst 2, 1) := by decide +kernel
theorem dX5_together_54 : decode cX5_together 54 = .ok (.if_icmp .ne 12, 3) := by decide +kernel
theorem dX5_together_57 : decode cX5_together 57 = .ok (.aload_n 0, 1) := by decide +kernel
theorem dX5_together_58 : decode cX5_together 58 = .ok (.iconst 0, 1) := by decide +kernel
theorem dX5_together_59 : decode cX5_together 59 = .ok (.iload_n 3, 1) := by decide +kernel
theorem dX5_together_60 : decode cX5_together 60 = .ok (.invokevirtual 84, 3) := by decide +kernel
theorem dX5_together_63 : decode cX5_together 63 = .ok (.goto 4, 3) := by decide +kernel
theorem dX5_together_66 : decode cX5_together 66 = .ok (.iconst 0, 1) := by decide +kernel
theorem dX5_together_67 : decode cX5_together 67 = .ok (.iadd, 1) := by decide +kernel
theorem dX5_together_68 : decode cX5_together 68 = .ok (.istore_n 2, 1) := by decide +kernel
theorem dX5_together_69 : decode cX5_together 69 = .ok (.iinc 3 1, 3) := by decide +kernel
theorem dX5_together_72 : decode cX5_together 72 = .ok (.goto (-68), 3) := by decide +kernel
theorem dX5_together_75 : decode cX5_together 75 = .ok (.iload_n 2, 1) := by decide +kernel
theorem dX5_together_76 : decode cX5_together 76 = .ok (.ireturn, 1) := by decide +kernel
theorem dX5_count_0 : decode cX5_count 0 = .ok (.iload_n 1, 1) := by decide +kernel
theorem dX5_count_1 : decode cX5_count 1 = .ok (.tableswitch 91 0 8 #[51, 56, 61, 67, 75, 75, 75, 81, 86], 51) := by decide +kernel
theorem dX5_count_52 : decode cX5_count 52 = .ok (.aload_n 0, 1) := by decide +kernel
theorem dX5_count_53 : decode cX5_count 53 = .ok (.getfield 53, 3) := by decide +kernel
theorem dX5_count_56 : decode cX5_count 56 = .ok (.ireturn, 1) := by decide +kernel
theorem dX5_count_57 : decode cX5_count 57 = .ok (.aload_n 0, 1) := by decide +kernel
theorem dX5_count_58 : decode cX5_count 58 = .ok (.getfield 74, 3) := by decide +kernel
theorem dX5_count_61 : decode cX5_count 61 = .ok (.ireturn, 1) := by decide +kernel
theorem dX5_count_62 : decode cX5_count 62 = .ok (.aload_n 0, 1) := by decide +kernel
theorem dX5_count_63 : decode cX5_count 63 = .ok (.iconst 0, 1) := by decide +kernel
theorem dX5_count_64 : decode cX5_count 64 = .ok (.invokevirtual 140, 3) := by decide +kernel
theorem dX5_count_67 : decode cX5_count 67 = .ok (.ireturn, 1) := by decide +kernel
theorem dX5_count_68 : decode cX5_count 68 = .ok (.aload_n 0, 1) := by decide +kernel
theorem dX5_count_69 : decode cX5_count 69 = .ok (.getfield 13, 3) := by decide +kernel
theorem dX5_count_72 : decode cX5_count 72 = .ok (.bipush 30, 2) := by decide +kernel
theorem dX5_count_74 : decode cX5_count 74 = .ok (.iaload, 1) := by decide +kernel
theorem dX5_count_75 : decode cX5_count 75 = .ok (.ireturn, 1) := by decide +kernel
theorem dX5_count_76 : decode cX5_count 76 = .ok (.aload_n 0, 1) := by decide +kernel
theorem dX5_count_77 : decode cX5_count 77 = .ok (.iload_n 1, 1) := by decide +kernel
theorem dX5_count_78 : decode cX5_count 78 = .ok (.invokevirtual 209, 3) := by decide +kernel
theorem dX5_count_81 : decode cX5_count 81 = .ok (.ireturn, 1) := by decide +kernel
theorem dX5_count_82 : decode cX5_count 82 = .ok (.aload_n 0, 1) := by decide +kernel
theorem dX5_count_83 : decode cX5_count 83 = .ok (.getfield 77, 3) := by decide +kernel
theorem dX5_count_86 : decode cX5_count 86 = .ok (.ireturn, 1) := by decide +kernel
theorem dX5_count_87 : decode cX5_count 87 = .ok (.aload_n 0, 1) := by decide +kernel
theorem dX5_count_88 : decode cX5_count 88 = .ok (.getfield 175, 3) := by decide +kernel
theorem dX5_count_91 : decode cX5_count 91 = .ok (.ireturn, 1) := by decide +kernel
theorem dX5_count_92 : decode cX5_count 92 = .ok (.bipush (-2), 2) := by decide +kernel
theorem dX5_count_94 : decode cX5_count 94 = .ok (.ireturn, 1) := by decide +kernel
end
section
abbrev cL_law : ByteArray := code
theorem dL_law_0 : decode cL_law 0 = .ok (.new 7, 3) := by decide +kernel
theorem dL_law_3 : decode cL_law 3 = .ok (.dup, 1) := by decide +kernel
theorem dL_law_4 : decode cL_law 4 = .ok (.invokespecial 9, 3) := by decide +kernel
theorem dL_law_7 : decode cL_law 7 = .ok (.astore_n 1, 1) := by decide +kernel
theorem dL_law_8 : decode cL_law 8 = .ok (.new 10, 3) := by decide +kernel
theorem dL_law_11 : decode cL_law 11 = .ok (.dup, 1) := by decide +kernel
theorem dL_law_12 : decode cL_law 12 = .ok (.invokespecial 12, 3) := by decide +kernel
theorem dL_law_15 : decode cL_law 15 = .ok (.astore_n 2, 1) := by decide +kernel
theorem dL_law_16 : decode cL_law 16 = .ok (.iconst 0, 1) := by decide +kernel
theorem dL_law_17 : decode cL_law 17 = .ok (.istore_n 3, 1) := by decide +kernel
theorem dL_law_18 : decode cL_law 18 = .ok (.iload_n 3, 1) := by decide +kernel
theorem dL_law_19 : decode cL_law 19 = .ok (.aload_n 0, 1) := by decide +kernel
theorem dL_law_20 : decode cL_law 20 = .ok (.arraylength, 1) := by decide +kernel
theorem dL_law_21 : decode cL_law 21 = .ok (.iconst 5, 1) := by decide +kernel
theorem dL_law_22 : decode cL_law 22 = .ok (.isub, 1) := by decide +kernel
theorem dL_law_23 : decode cL_law 23 = .ok (.if_icmp .gt 1054, 3) := by decide +kernel
theorem dL_law_26 : decode cL_law 26 = .ok (.aload_n 0, 1) := by decide +kernel
theorem dL_law_27 : decode cL_law 27 = .ok (.iload_n 3, 1) := by decide +kernel
theorem dL_law_28 : decode cL_law 28 = .ok (.iaload, 1) := by decide +kernel
theorem dL_law_29 : decode cL_law 29 = .ok (.bipush 31, 2) := by decide +kernel
theorem dL_law_31 : decode cL_law 31 = .ok (.iand, 1) := by decide +kernel
theorem dL_law_32 : decode cL_law 32 = .ok (.tableswitch 1039 0 29 #[136, 159, 172, 185, 198, 231, 244, 277, 310, 343, 366, 379, 422, 445, 468, 481, 554, 577, 600, 663, 706, 719, 742, 791, 834, 893, 947, 970, 993, 1016], 136) := by decide +kernel
theorem dL_law_168 : decode cL_law 168 = .ok (.aload_n 1, 1) := by decide +kernel
theorem dL_law_169 : decode cL_law 169 = .ok (.aload_n 0, 1) := by decide +kernel
theorem dL_law_170 : decode cL_law 170 = .ok (.iload_n 3, 1) := by decide +kernel
theorem dL_law_171 : decode cL_law 171 = .ok (.iconst 1, 1) := by decide +kernel
theorem dL_law_172 : decode cL_law 172 = .ok (.iadd, 1) := by decide +kernel
theorem dL_law_173 : decode cL_law 173 = .ok (.iaload, 1) := by decide +kernel
theorem dL_law_174 : decode cL_law 174 = .ok (.invokevirtual 13, 3) := by decide +kernel
theorem dL_law_177 : decode cL_law 177 = .ok (.aload_n 2, 1) := by decide +kernel
theorem dL_law_178 : decode cL_law 178 = .ok (.aload_n 0, 1) := by decide +kernel
theorem dL_law_179 : decode cL_law 179 = .ok (.iload_n 3, 1) := by decide +kernel
theorem dL_law_180 : decode cL_law 180 = .ok (.iconst 1, 1) := by decide +kernel
theorem dL_law_181 : decode cL_law 181 = .ok (.iadd, 1) := by decide +kernel
theorem dL_law_182 : decode cL_law 182 = .ok (.iaload, 1) := by decide +kernel
theorem dL_law_183 : decode cL_law 183 = .ok (.invokevirtual 17, 3) := by decide +kernel
theorem dL_law_186 : decode cL_law 186 = .ok (.if_icmp .eq 885, 3) := by decide +kernel
theorem dL_law_189 : decode cL_law 189 = .ok (.iconst 0, 1) := by decide +kernel
theorem dL_law_190 : decode cL_law 190 = .ok (.ireturn, 1) := by decide +kernel
theorem dL_law_191 : decode cL_law 191 = .ok (.aload_n 1, 1) := by decide +kernel
theorem dL_law_192 : decode cL_law 192 = .ok (.invokevirtual 18, 3) := by decide +kernel
theorem dL_law_195 : decode cL_law 195 = .ok (.aload_n 2, 1) := by decide +kernel
theorem dL_law_196 : decode cL_law 196 = .ok (.invokevirtual 22, 3) := by decide +kernel
theorem dL_law_199 : decode cL_law 199 = .ok (.if_icmp .eq 872, 3) := by decide +kernel
theorem dL_law_202 : decode cL_law 202 = .ok (.iconst 0, 1) := by decide +kernel
theorem dL_law_203 : decode cL_law 203 = .ok (.ireturn, 1) := by decide +kernel
theorem dL_law_204 : decode cL_law 204 = .ok (.aload_n 1, 1) := by decide +kernel
theorem dL_law_205 : decode cL_law 205 = .ok (.invokevirtual 23, 3) := by decide +kernel
theorem dL_law_208 : decode cL_law 208 = .ok (.aload_n 2, 1) := by decide +kernel
theorem dL_law_209 : decode cL_law 209 = .ok (.invokevirtual 26, 3) := by decide +kernel
theorem dL_law_212 : decode cL_law 212 = .ok (.if_icmp .eq 859, 3) := by decide +kernel
theorem dL_law_215 : decode cL_law 215 = .ok (.iconst 0, 1) := by decide +kernel
theorem dL_law_216 : decode cL_law 216 = .ok (.ireturn, 1) := by decide +kernel
theorem dL_law_217 : decode cL_law 217 = .ok (.aload_n 1, 1) := by decide +kernel
theorem dL_law_218 : decode cL_law 218 = .ok (.invokevirtual 27, 3) := by decide +kernel
theorem dL_law_221 : decode cL_law 221 = .ok (.aload_n 2, 1) := by decide +kernel
theorem dL_law_222 : decode cL_law 222 = .ok (.invokevirtual 30, 3) := by decide +kernel
theorem dL_law_225 : decode cL_law 225 = .ok (.if_icmp .eq 846, 3) := by decide +kernel
theorem dL_law_228 : decode cL_law 228 = .ok (.iconst 0, 1) := by decide +kernel
theorem dL_law_229 : decode cL_law 229 = .ok (.ireturn, 1) := by decide +kernel
theorem dL_law_230 : decode cL_law 230 = .ok (.aload_n 1, 1) := by decide +kernel
theorem dL_law_231 : decode cL_law 231 = .ok (.aload_n 0, 1) := by decide +kernel
theorem dL_law_232 : decode cL_law 232 = .ok (.iload_n 3, 1) := by decide +kernel
theorem dL_law_233 : decode cL_law 233 = .ok (.iconst 1, 1) := by decide +kernel
theorem dL_law_234 : decode cL_law 234 = .ok (.iadd, 1) := by decide +kernel
theorem dL_law_235 : decode cL_law 235 = .ok (.iaload, 1) := by decide +kernel
theorem dL_law_236 : decode cL_law 236 = .ok (.aload_n 0, 1) := by decide +kernel
theorem dL_law_237 : decode cL_law 237 = .ok (.iload_n 3, 1) := by decide +kernel
theorem dL_law_238 : decode cL_law 238 = .ok (.iconst 2, 1) := by decide +kernel
theorem dL_law_239 : decode cL_law 239 = .ok (.iadd, 1) := by decide +kernel
theorem dL_law_240 : decode cL_law 240 = .ok (.iaload, 1) := by decide +kernel
theorem dL_law_241 : decode cL_law 241 = .ok (.invokevirtual 31, 3) := by decide +kernel
theorem dL_law_244 : decode cL_law 244 = .ok (.aload_n 2, 1) := by decide +kernel
theorem dL_law_245 : decode cL_law 245 = .ok (.aload_n 0, 1) := by decide +kernel
theorem dL_law_246 : decode cL_law 246 = .ok (.iload_n 3, 1) := by decide +kernel
theorem dL_law_247 : decode cL_law 247 = .ok (.iconst 1, 1) := by decide +kernel
theorem dL_law_248 : decode cL_law 248 = .ok (.iadd, 1) := by decide +kernel
theorem dL_law_249 : decode cL_law 249 = .ok (.iaload, 1) := by decide +kernel
theorem dL_law_250 : decode cL_law 250 = .ok (.aload_n 0, 1) := by decide +kernel
theorem dL_law_251 : decode cL_law 251 = .ok (.iload_n 3, 1) := by decide +kernel
theorem dL_law_252 : decode cL_law 252 = .ok (.iconst 2, 1) := by decide +kernel
theorem dL_law_253 : decode cL_law 253 = .ok (.iadd, 1) := by decide +kernel
theorem dL_law_254 : decode cL_law 254 = .ok (.iaload, 1) := by decide +kernel
theorem dL_law_255 : decode cL_law 255 = .ok (.invokevirtual 35, 3) := by decide +kernel
theorem dL_law_258 : decode cL_law 258 = .ok (.if_icmp .eq 813, 3) := by decide +kernel
theorem dL_law_261 : decode cL_law 261 = .ok (.iconst 0, 1) := by decide +kernel
theorem dL_law_262 : decode cL_law 262 = .ok (.ireturn, 1) := by decide +kernel
theorem dL_law_263 : decode cL_law 263 = .ok (.aload_n 1, 1) := by decide +kernel
theorem dL_law_264 : decode cL_law 264 = .ok (.invokevirtual 36, 3) := by decide +kernel
theorem dL_law_267 : decode cL_law 267 = .ok (.aload_n 2, 1) := by decide +kernel
theorem dL_law_268 : decode cL_law 268 = .ok (.invokevirtual 39, 3) := by decide +kernel
theorem dL_law_271 : decode cL_law 271 = .ok (.if_icmp .eq 800, 3) := by decide +kernel
theorem dL_law_274 : decode cL_law 274 = .ok (.iconst 0, 1) := by decide +kernel
theorem dL_law_275 : decode cL_law 275 = .ok (.ireturn, 1) := by decide +kernel
theorem dL_law_276 : decode cL_law 276 = .ok (.aload_n 1, 1) := by decide +kernel
theorem dL_law_277 : decode cL_law 277 = .ok (.aload_n 0, 1) := by decide +kernel
theorem dL_law_278 : decode cL_law 278 = .ok (.iload_n 3, 1) := by decide +kernel
theorem dL_law_279 : decode cL_law 279 = .ok (.iconst 1, 1) := by decide +kernel
theorem dL_law_280 : decode cL_law 280 = .ok (.iadd, 1) := by decide +kernel
theorem dL_law_281 : decode cL_law 281 = .ok (.iaload, 1) := by decide +kernel
theorem dL_law_282 : decode cL_law 282 = .ok (.aload_n 0, 1) := by decide +kernel
theorem dL_law_283 : decode cL_law 283 = .ok (.iload_n 3, 1) := by decide +kernel
theorem dL_law_284 : decode cL_law 284 = .ok (.iconst 2, 1) := by decide +kernel
theorem dL_law_285 : decode cL_law 285 = .ok (.iadd, 1) := by decide +kernel
theorem dL_law_286 : decode cL_law 286 = .ok (.iaload, 1) := by decide +kernel
theorem dL_law_287 : decode cL_law 287 = .ok (.invokevirtual 40, 3) := by decide +kernel
theorem dL_law_290 : decode cL_law 290 = .ok (.aload_n 2, 1) := by decide +kernel
theorem dL_law_291 : decode cL_law 291 = .ok (.aload_n 0, 1) := by decide +kernel
theorem dL_law_292 : decode cL_law 292 = .ok (.iload_n 3, 1) := by decide +kernel
theorem dL_law_293 : decode cL_law 293 = .ok (.iconst 1, 1) := by decide +kernel
theorem dL_law_294 : decode cL_law 294 = .ok (.iadd, 1) := by decide +kernel
theorem dL_law_295 : decode cL_law 295 = .ok (.iaload, 1) := by decide +kernel
theorem dL_law_296 : decode cL_law 296 = .ok (.aload_n 0, 1) := by decide +kernel
theorem dL_law_297 : decode cL_law 297 = .ok (.iload_n 3, 1) := by decide +kernel
theorem dL_law_298 : decode cL_law 298 = .ok (.iconst 2, 1) := by decide +kernel
theorem dL_law_299 : decode cL_law 299 = .ok (.iadd, 1) := by decide +kernel
theorem dL_law_300 : decode cL_law 300 = .ok (.iaload, 1) := by decide +kernel
theorem dL_law_301 : decode cL_law 301 = .ok (.invokevirtual 43, 3) := by decide +kernel
theorem dL_law_304 : decode cL_law 304 = .ok (.if_icmp .eq 767, 3) := by decide +kernel
theorem dL_law_307 : decode cL_law 307 = .ok (.iconst 0, 1) := by decide +kernel
theorem dL_law_308 : decode cL_law 308 = .ok (.ireturn, 1) := by decide +kernel
theorem dL_law_309 : decode cL_law 309 = .ok (.aload_n 1, 1) := by decide +kernel
theorem dL_law_310 : decode cL_law 310 = .ok (.aload_n 0, 1) := by decide +kernel
theorem dL_law_311 : decode cL_law 311 = .ok (.iload_n 3, 1) := by decide +kernel
theorem dL_law_312 : decode cL_law 312 = .ok (.iconst 1, 1) := by decide +kernel
theorem dL_law_313 : decode cL_law 313 = .ok (.iadd, 1) := by decide +kernel
theorem dL_law_314 : decode cL_law 314 = .ok (.iaload, 1) := by decide +kernel
theorem dL_law_315 : decode cL_law 315 = .ok (.aload_n 0, 1) := by decide +kernel
theorem dL_law_316 : decode cL_law 316 = .ok (.iload_n 3, 1) := by decide +kernel
theorem dL_law_317 : decode cL_law 317 = .ok (.iconst 2, 1) := by decide +kernel
theorem dL_law_318 : decode cL_law 318 = .ok (.iadd, 1) := by decide +kernel
theorem dL_law_319 : decode cL_law 319 = .ok (.iaload, 1) := by decide +kernel
theorem dL_law_320 : decode cL_law 320 = .ok (.invokevirtual 44, 3) := by decide +kernel
theorem dL_law_323 : decode cL_law 323 = .ok (.aload_n 2, 1) := by decide +kernel
theorem dL_law_324 : decode cL_law 324 = .ok (.aload_n 0, 1) := by decide +kernel
theorem dL_law_325 : decode cL_law 325 = .ok (.iload_n 3, 1) := by decide +kernel
theorem dL_law_326 : decode cL_law 326 = .ok (.iconst 1, 1) := by decide +kernel
theorem dL_law_327 : decode cL_law 327 = .ok (.iadd, 1) := by decide +kernel
theorem dL_law_328 : decode cL_law 328 = .ok (.iaload, 1) := by decide +kernel
theorem dL_law_329 : decode cL_law 329 = .ok (.aload_n 0, 1) := by decide +kernel
theorem dL_law_330 : decode cL_law 330 = .ok (.iload_n 3, 1) := by decide +kernel
theorem dL_law_331 : decode cL_law 331 = .ok (.iconst 2, 1) := by decide +kernel
theorem dL_law_332 : decode cL_law 332 = .ok (.iadd, 1) := by decide +kernel
theorem dL_law_333 : decode cL_law 333 = .ok (.iaload, 1) := by decide +kernel
theorem dL_law_334 : decode cL_law 334 = .ok (.invokevirtual 47, 3) := by decide +kernel
theorem dL_law_337 : decode cL_law 337 = .ok (.if_icmp .eq 734, 3) := by decide +kernel
theorem dL_law_340 : decode cL_law 340 = .ok (.iconst 0, 1) := by decide +kernel
theorem dL_law_341 : decode cL_law 341 = .ok (.ireturn, 1) := by decide +kernel
theorem dL_law_342 : decode cL_law 342 = .ok (.aload_n 1, 1) := by decide +kernel
theorem dL_law_343 : decode cL_law 343 = .ok (.aload_n 0, 1) := by decide +kernel
theorem dL_law_344 : decode cL_law 344 = .ok (.iload_n 3, 1) := by decide +kernel
theorem dL_law_345 : decode cL_law 345 = .ok (.iconst 1, 1) := by decide +kernel
theorem dL_law_346 : decode cL_law 346 = .ok (.iadd, 1) := by decide +kernel
theorem dL_law_347 : decode cL_law 347 = .ok (.iaload, 1) := by decide +kernel
theorem dL_law_348 : decode cL_law 348 = .ok (.aload_n 0, 1) := by decide +kernel
theorem dL_law_349 : decode cL_law 349 = .ok (.iload_n 3, 1) := by decide +kernel
theorem dL_law_350 : decode cL_law 350 = .ok (.iconst 2, 1) := by decide +kernel
theorem dL_law_351 : decode cL_law 351 = .ok (.iadd, 1) := by decide +kernel
theorem dL_law_352 : decode cL_law 352 = .ok (.iaload, 1) := by decide +kernel
theorem dL_law_353 : decode cL_law 353 = .ok (.invokevirtual 48, 3) := by decide +kernel
theorem dL_law_356 : decode cL_law 356 = .ok (.aload_n 2, 1) := by decide +kernel
theorem dL_law_357 : decode cL_law 357 = .ok (.aload_n 0, 1) := by decide +kernel
theorem dL_law_358 : decode cL_law 358 = .ok (.iload_n 3, 1) := by decide +kernel
theorem dL_law_359 : decode cL_law 359 = .ok (.iconst 1, 1) := by decide +kernel
theorem dL_law_360 : decode cL_law 360 = .ok (.iadd, 1) := by decide +kernel
theorem dL_law_361 : decode cL_law 361 = .ok (.iaload, 1) := by decide +kernel
theorem dL_law_362 : decode cL_law 362 = .ok (.aload_n 0, 1) := by decide +kernel
theorem dL_law_363 : decode cL_law 363 = .ok (.iload_n 3, 1) := by decide +kernel
theorem dL_law_364 : decode cL_law 364 = .ok (.iconst 2, 1) := by decide +kernel
theorem dL_law_365 : decode cL_law 365 = .ok (.iadd, 1) := by decide +kernel
theorem dL_law_366 : decode cL_law 366 = .ok (.iaload, 1) := by decide +kernel
theorem dL_law_367 : decode cL_law 367 = .ok (.invokevirtual 51, 3) := by decide +kernel
theorem dL_law_370 : decode cL_law 370 = .ok (.if_icmp .eq 701, 3) := by decide +kernel
theorem dL_law_373 : decode cL_law 373 = .ok (.iconst 0, 1) := by decide +kernel
theorem dL_law_374 : decode cL_law 374 = .ok (.ireturn, 1) := by decide +kernel
theorem dL_law_375 : decode cL_law 375 = .ok (.aload_n 1, 1) := by decide +kernel
theorem dL_law_376 : decode cL_law 376 = .ok (.aload_n 0, 1) := by decide +kernel
theorem dL_law_377 : decode cL_law 377 = .ok (.iload_n 3, 1) := by decide +kernel
theorem dL_law_378 : decode cL_law 378 = .ok (.iconst 1, 1) := by decide +kernel
theorem dL_law_379 : decode cL_law 379 = .ok (.iadd, 1) := by decide +kernel
theorem dL_law_380 : decode cL_law 380 = .ok (.iaload, 1) := by decide +kernel
theorem dL_law_381 : decode cL_law 381 = .ok (.invokevirtual 52, 3) := by decide +kernel
theorem dL_law_384 : decode cL_law 384 = .ok (.aload_n 2, 1) := by decide +kernel
theorem dL_law_385 : decode cL_law 385 = .ok (.aload_n 0, 1) := by decide +kernel
theorem dL_law_386 : decode cL_law 386 = .ok (.iload_n 3, 1) := by decide +kernel
theorem dL_law_387 : decode cL_law 387 = .ok (.iconst 1, 1) := by decide +kernel
theorem dL_law_388 : decode cL_law 388 = .ok (.iadd, 1) := by decide +kernel
theorem dL_law_389 : decode cL_law 389 = .ok (.iaload, 1) := by decide +kernel
theorem dL_law_390 : decode cL_law 390 = .ok (.invokevirtual 55, 3) := by decide +kernel
theorem dL_law_393 : decode cL_law 393 = .ok (.if_icmp .eq 678, 3) := by decide +kernel
theorem dL_law_396 : decode cL_law 396 = .ok (.iconst 0, 1) := by decide +kernel
theorem dL_law_397 : decode cL_law 397 = .ok (.ireturn, 1) := by decide +kernel
theorem dL_law_398 : decode cL_law 398 = .ok (.aload_n 1, 1) := by decide +kernel
theorem dL_law_399 : decode cL_law 399 = .ok (.invokevirtual 56, 3) := by decide +kernel
theorem dL_law_402 : decode cL_law 402 = .ok (.aload_n 2, 1) := by decide +kernel
theorem dL_law_403 : decode cL_law 403 = .ok (.invokevirtual 59, 3) := by decide +kernel
theorem dL_law_406 : decode cL_law 406 = .ok (.if_icmp .eq 665, 3) := by decide +kernel
theorem dL_law_409 : decode cL_law 409 = .ok (.iconst 0, 1) := by decide +kernel
theorem dL_law_410 : decode cL_law 410 = .ok (.ireturn, 1) := by decide +kernel
theorem dL_law_411 : decode cL_law 411 = .ok (.aload_n 1, 1) := by decide +kernel
theorem dL_law_412 : decode cL_law 412 = .ok (.aload_n 0, 1) := by decide +kernel
theorem dL_law_413 : decode cL_law 413 = .ok (.iload_n 3, 1) := by decide +kernel
theorem dL_law_414 : decode cL_law 414 = .ok (.iconst 1, 1) := by decide +kernel
theorem dL_law_415 : decode cL_law 415 = .ok (.iadd, 1) := by decide +kernel
theorem dL_law_416 : decode cL_law 416 = .ok (.iaload, 1) := by decide +kernel
theorem dL_law_417 : decode cL_law 417 = .ok (.aload_n 0, 1) := by decide +kernel
theorem dL_law_418 : decode cL_law 418 = .ok (.iload_n 3, 1) := by decide +kernel
theorem dL_law_419 : decode cL_law 419 = .ok (.iconst 2, 1) := by decide +kernel
theorem dL_law_420 : decode cL_law 420 = .ok (.iadd, 1) := by decide +kernel
theorem dL_law_421 : decode cL_law 421 = .ok (.iaload, 1) := by decide +kernel
theorem dL_law_422 : decode cL_law 422 = .ok (.aload_n 0, 1) := by decide +kernel
theorem dL_law_423 : decode cL_law 423 = .ok (.iload_n 3, 1) := by decide +kernel
theorem dL_law_424 : decode cL_law 424 = .ok (.iconst 3, 1) := by decide +kernel
theorem dL_law_425 : decode cL_law 425 = .ok (.iadd, 1) := by decide +kernel
theorem dL_law_426 : decode cL_law 426 = .ok (.iaload, 1) := by decide +kernel
theorem dL_law_427 : decode cL_law 427 = .ok (.invokevirtual 60, 3) := by decide +kernel
theorem dL_law_430 : decode cL_law 430 = .ok (.aload_n 2, 1) := by decide +kernel
theorem dL_law_431 : decode cL_law 431 = .ok (.aload_n 0, 1) := by decide +kernel
theorem dL_law_432 : decode cL_law 432 = .ok (.iload_n 3, 1) := by decide +kernel
theorem dL_law_433 : decode cL_law 433 = .ok (.iconst 1, 1) := by decide +kernel
theorem dL_law_434 : decode cL_law 434 = .ok (.iadd, 1) := by decide +kernel
theorem dL_law_435 : decode cL_law 435 = .ok (.iaload, 1) := by decide +kernel
theorem dL_law_436 : decode cL_law 436 = .ok (.aload_n 0, 1) := by decide +kernel
theorem dL_law_437 : decode cL_law 437 = .ok (.iload_n 3, 1) := by decide +kernel
theorem dL_law_438 : decode cL_law 438 = .ok (.iconst 2, 1) := by decide +kernel
theorem dL_law_439 : decode cL_law 439 = .ok (.iadd, 1) := by decide +kernel
theorem dL_law_440 : decode cL_law 440 = .ok (.iaload, 1) := by decide +kernel
theorem dL_law_441 : decode cL_law 441 = .ok (.aload_n 0, 1) := by decide +kernel
theorem dL_law_442 : decode cL_law 442 = .ok (.iload_n 3, 1) := by decide +kernel
theorem dL_law_443 : decode cL_law 443 = .ok (.iconst 3, 1) := by decide +kernel
theorem dL_law_444 : decode cL_law 444 = .ok (.iadd, 1) := by decide +kernel
theorem dL_law_445 : decode cL_law 445 = .ok (.iaload, 1) := by decide +kernel
theorem dL_law_446 : decode cL_law 446 = .ok (.invokevirtual 64, 3) := by decide +kernel
theorem dL_law_449 : decode cL_law 449 = .ok (.if_icmp .eq 622, 3) := by decide +kernel
theorem dL_law_452 : decode cL_law 452 = .ok (.iconst 0, 1) := by decide +kernel
theorem dL_law_453 : decode cL_law 453 = .ok (.ireturn, 1) := by decide +kernel
theorem dL_law_454 : decode cL_law 454 = .ok (.aload_n 1, 1) := by decide +kernel
theorem dL_law_455 : decode cL_law 455 = .ok (.aload_n 0, 1) := by decide +kernel
theorem dL_law_456 : decode cL_law 456 = .ok (.iload_n 3, 1) := by decide +kernel
theorem dL_law_457 : decode cL_law 457 = .ok (.iconst 1, 1) := by decide +kernel
theorem dL_law_458 : decode cL_law 458 = .ok (.iadd, 1) := by decide +kernel
theorem dL_law_459 : decode cL_law 459 = .ok (.iaload, 1) := by decide +kernel
theorem dL_law_460 : decode cL_law 460 = .ok (.invokevirtual 65, 3) := by decide +kernel
theorem dL_law_463 : decode cL_law 463 = .ok (.aload_n 2, 1) := by decide +kernel
theorem dL_law_464 : decode cL_law 464 = .ok (.aload_n 0, 1) := by decide +kernel
theorem dL_law_465 : decode cL_law 465 = .ok (.iload_n 3, 1) := by decide +kernel
theorem dL_law_466 : decode cL_law 466 = .ok (.iconst 1, 1) := by decide +kernel
theorem dL_law_467 : decode cL_law 467 = .ok (.iadd, 1) := by decide +kernel
theorem dL_law_468 : decode cL_law 468 = .ok (.iaload, 1) := by decide +kernel
theorem dL_law_469 : decode cL_law 469 = .ok (.invokevirtual 68, 3) := by decide +kernel
theorem dL_law_472 : decode cL_law 472 = .ok (.if_icmp .eq 599, 3) := by decide +kernel
theorem dL_law_475 : decode cL_law 475 = .ok (.iconst 0, 1) := by decide +kernel
theorem dL_law_476 : decode cL_law 476 = .ok (.ireturn, 1) := by decide +kernel
theorem dL_law_477 : decode cL_law 477 = .ok (.aload_n 1, 1) := by decide +kernel
theorem dL_law_478 : decode cL_law 478 = .ok (.aload_n 0, 1) := by decide +kernel
theorem dL_law_479 : decode cL_law 479 = .ok (.iload_n 3, 1) := by decide +kernel
theorem dL_law_480 : decode cL_law 480 = .ok (.iconst 1, 1) := by decide +kernel
theorem dL_law_481 : decode cL_law 481 = .ok (.iadd, 1) := by decide +kernel
theorem dL_law_482 : decode cL_law 482 = .ok (.iaload, 1) := by decide +kernel
theorem dL_law_483 : decode cL_law 483 = .ok (.invokevirtual 69, 3) := by decide +kernel
theorem dL_law_486 : decode cL_law 486 = .ok (.aload_n 2, 1) := by decide +kernel
theorem dL_law_487 : decode cL_law 487 = .ok (.aload_n 0, 1) := by decide +kernel
theorem dL_law_488 : decode cL_law 488 = .ok (.iload_n 3, 1) := by decide +kernel
theorem dL_law_489 : decode cL_law 489 = .ok (.iconst 1, 1) := by decide +kernel
theorem dL_law_490 : decode cL_law 490 = .ok (.iadd, 1) := by decide +kernel
theorem dL_law_491 : decode cL_law 491 = .ok (.iaload, 1) := by decide +kernel
theorem dL_law_492 : decode cL_law 492 = .ok (.invokevirtual 72, 3) := by decide +kernel
theorem dL_law_495 : decode cL_law 495 = .ok (.if_icmp .eq 576, 3) := by decide +kernel
theorem dL_law_498 : decode cL_law 498 = .ok (.iconst 0, 1) := by decide +kernel
theorem dL_law_499 : decode cL_law 499 = .ok (.ireturn, 1) := by decide +kernel
theorem dL_law_500 : decode cL_law 500 = .ok (.aload_n 1, 1) := by decide +kernel
theorem dL_law_501 : decode cL_law 501 = .ok (.invokevirtual 73, 3) := by decide +kernel
theorem dL_law_504 : decode cL_law 504 = .ok (.aload_n 2, 1) := by decide +kernel
theorem dL_law_505 : decode cL_law 505 = .ok (.invokevirtual 76, 3) := by decide +kernel
theorem dL_law_508 : decode cL_law 508 = .ok (.if_icmp .eq 563, 3) := by decide +kernel
theorem dL_law_511 : decode cL_law 511 = .ok (.iconst 0, 1) := by decide +kernel
theorem dL_law_512 : decode cL_law 512 = .ok (.ireturn, 1) := by decide +kernel
theorem dL_law_513 : decode cL_law 513 = .ok (.aload_n 1, 1) := by decide +kernel
theorem dL_law_514 : decode cL_law 514 = .ok (.aload_n 0, 1) := by decide +kernel
theorem dL_law_515 : decode cL_law 515 = .ok (.iload_n 3, 1) := by decide +kernel
theorem dL_law_516 : decode cL_law 516 = .ok (.iconst 1, 1) := by decide +kernel
theorem dL_law_517 : decode cL_law 517 = .ok (.iadd, 1) := by decide +kernel
theorem dL_law_518 : decode cL_law 518 = .ok (.iaload, 1) := by decide +kernel
theorem dL_law_519 : decode cL_law 519 = .ok (.aload_n 0, 1) := by decide +kernel
theorem dL_law_520 : decode cL_law 520 = .ok (.iload_n 3, 1) := by decide +kernel
theorem dL_law_521 : decode cL_law 521 = .ok (.iconst 2, 1) := by decide +kernel
theorem dL_law_522 : decode cL_law 522 = .ok (.iadd, 1) := by decide +kernel
theorem dL_law_523 : decode cL_law 523 = .ok (.iaload, 1) := by decide +kernel
theorem dL_law_524 : decode cL_law 524 = .ok (.i2l, 1) := by decide +kernel
theorem dL_law_525 : decode cL_law 525 = .ok (.bipush 32, 2) := by decide +kernel
theorem dL_law_527 : decode cL_law 527 = .ok (.lshl, 1) := by decide +kernel
theorem dL_law_528 : decode cL_law 528 = .ok (.aload_n 0, 1) := by decide +kernel
theorem dL_law_529 : decode cL_law 529 = .ok (.iload_n 3, 1) := by decide +kernel
theorem dL_law_530 : decode cL_law 530 = .ok (.iconst 3, 1) := by decide +kernel
theorem dL_law_531 : decode cL_law 531 = .ok (.iadd, 1) := by decide +kernel
theorem dL_law_532 : decode cL_law 532 = .ok (.iaload, 1) := by decide +kernel
theorem dL_law_533 : decode cL_law 533 = .ok (.i2l, 1) := by decide +kernel
theorem dL_law_534 : decode cL_law 534 = .ok (.ldc2_w 77, 3) := by decide +kernel
theorem dL_law_537 : decode cL_law 537 = .ok (.land, 1) := by decide +kernel
theorem dL_law_538 : decode cL_law 538 = .ok (.lor, 1) := by decide +kernel
theorem dL_law_539 : decode cL_law 539 = .ok (.aload_n 0, 1) := by decide +kernel
theorem dL_law_540 : decode cL_law 540 = .ok (.iload_n 3, 1) := by decide +kernel
theorem dL_law_541 : decode cL_law 541 = .ok (.iconst 4, 1) := by decide +kernel
theorem dL_law_542 : decode cL_law 542 = .ok (.iadd, 1) := by decide +kernel
theorem dL_law_543 : decode cL_law 543 = .ok (.iaload, 1) := by decide +kernel
theorem dL_law_544 : decode cL_law 544 = .ok (.invokevirtual 79, 3) := by decide +kernel
theorem dL_law_547 : decode cL_law 547 = .ok (.aload_n 2, 1) := by decide +kernel
theorem dL_law_548 : decode cL_law 548 = .ok (.aload_n 0, 1) := by decide +kernel
theorem dL_law_549 : decode cL_law 549 = .ok (.iload_n 3, 1) := by decide +kernel
theorem dL_law_550 : decode cL_law 550 = .ok (.iconst 1, 1) := by decide +kernel
theorem dL_law_551 : decode cL_law 551 = .ok (.iadd, 1) := by decide +kernel
theorem dL_law_552 : decode cL_law 552 = .ok (.iaload, 1) := by decide +kernel
theorem dL_law_553 : decode cL_law 553 = .ok (.aload_n 0, 1) := by decide +kernel
theorem dL_law_554 : decode cL_law 554 = .ok (.iload_n 3, 1) := by decide +kernel
theorem dL_law_555 : decode cL_law 555 = .ok (.iconst 2, 1) := by decide +kernel
theorem dL_law_556 : decode cL_law 556 = .ok (.iadd, 1) := by decide +kernel
theorem dL_law_557 : decode cL_law 557 = .ok (.iaload, 1) := by decide +kernel
theorem dL_law_558 : decode cL_law 558 = .ok (.i2l, 1) := by decide +kernel
theorem dL_law_559 : decode cL_law 559 = .ok (.bipush 32, 2) := by decide +kernel
theorem dL_law_561 : decode cL_law 561 = .ok (.lshl, 1) := by decide +kernel
theorem dL_law_562 : decode cL_law 562 = .ok (.aload_n 0, 1) := by decide +kernel
theorem dL_law_563 : decode cL_law 563 = .ok (.iload_n 3, 1) := by decide +kernel
theorem dL_law_564 : decode cL_law 564 = .ok (.iconst 3, 1) := by decide +kernel
theorem dL_law_565 : decode cL_law 565 = .ok (.iadd, 1) := by decide +kernel
theorem dL_law_566 : decode cL_law 566 = .ok (.iaload, 1) := by decide +kernel
theorem dL_law_567 : decode cL_law 567 = .ok (.i2l, 1) := by decide +kernel
theorem dL_law_568 : decode cL_law 568 = .ok (.ldc2_w 77, 3) := by decide +kernel
theorem dL_law_571 : decode cL_law 571 = .ok (.land, 1) := by decide +kernel
theorem dL_law_572 : decode cL_law 572 = .ok (.lor, 1) := by decide +kernel
theorem dL_law_573 : decode cL_law 573 = .ok (.aload_n 0, 1) := by decide +kernel
theorem dL_law_574 : decode cL_law 574 = .ok (.iload_n 3, 1) := by decide +kernel
theorem dL_law_575 : decode cL_law 575 = .ok (.iconst 4, 1) := by decide +kernel
theorem dL_law_576 : decode cL_law 576 = .ok (.iadd, 1) := by decide +kernel
theorem dL_law_577 : decode cL_law 577 = .ok (.iaload, 1) := by decide +kernel
theorem dL_law_578 : decode cL_law 578 = .ok (.invokevirtual 83, 3) := by decide +kernel
theorem dL_law_581 : decode cL_law 581 = .ok (.if_icmp .eq 490, 3) := by decide +kernel
theorem dL_law_584 : decode cL_law 584 = .ok (.iconst 0, 1) := by decide +kernel
theorem dL_law_585 : decode cL_law 585 = .ok (.ireturn, 1) := by decide +kernel
theorem dL_law_586 : decode cL_law 586 = .ok (.aload_n 1, 1) := by decide +kernel
theorem dL_law_587 : decode cL_law 587 = .ok (.aload_n 0, 1) := by decide +kernel
theorem dL_law_588 : decode cL_law 588 = .ok (.iload_n 3, 1) := by decide +kernel
theorem dL_law_589 : decode cL_law 589 = .ok (.iconst 1, 1) := by decide +kernel
theorem dL_law_590 : decode cL_law 590 = .ok (.iadd, 1) := by decide +kernel
theorem dL_law_591 : decode cL_law 591 = .ok (.iaload, 1) := by decide +kernel
theorem dL_law_592 : decode cL_law 592 = .ok (.invokevirtual 84, 3) := by decide +kernel
theorem dL_law_595 : decode cL_law 595 = .ok (.aload_n 2, 1) := by decide +kernel
theorem dL_law_596 : decode cL_law 596 = .ok (.aload_n 0, 1) := by decide +kernel
theorem dL_law_597 : decode cL_law 597 = .ok (.iload_n 3, 1) := by decide +kernel
theorem dL_law_598 : decode cL_law 598 = .ok (.iconst 1, 1) := by decide +kernel
theorem dL_law_599 : decode cL_law 599 = .ok (.iadd, 1) := by decide +kernel
theorem dL_law_600 : decode cL_law 600 = .ok (.iaload, 1) := by decide +kernel
theorem dL_law_601 : decode cL_law 601 = .ok (.invokevirtual 87, 3) := by decide +kernel
theorem dL_law_604 : decode cL_law 604 = .ok (.if_icmp .eq 467, 3) := by decide +kernel
theorem dL_law_607 : decode cL_law 607 = .ok (.iconst 0, 1) := by decide +kernel
theorem dL_law_608 : decode cL_law 608 = .ok (.ireturn, 1) := by decide +kernel
theorem dL_law_609 : decode cL_law 609 = .ok (.aload_n 1, 1) := by decide +kernel
theorem dL_law_610 : decode cL_law 610 = .ok (.aload_n 0, 1) := by decide +kernel
theorem dL_law_611 : decode cL_law 611 = .ok (.iload_n 3, 1) := by decide +kernel
theorem dL_law_612 : decode cL_law 612 = .ok (.iconst 1, 1) := by decide +kernel
theorem dL_law_613 : decode cL_law 613 = .ok (.iadd, 1) := by decide +kernel
theorem dL_law_614 : decode cL_law 614 = .ok (.iaload, 1) := by decide +kernel
theorem dL_law_615 : decode cL_law 615 = .ok (.invokevirtual 88, 3) := by decide +kernel
theorem dL_law_618 : decode cL_law 618 = .ok (.aload_n 2, 1) := by decide +kernel
theorem dL_law_619 : decode cL_law 619 = .ok (.aload_n 0, 1) := by decide +kernel
theorem dL_law_620 : decode cL_law 620 = .ok (.iload_n 3, 1) := by decide +kernel
theorem dL_law_621 : decode cL_law 621 = .ok (.iconst 1, 1) := by decide +kernel
theorem dL_law_622 : decode cL_law 622 = .ok (.iadd, 1) := by decide +kernel
theorem dL_law_623 : decode cL_law 623 = .ok (.iaload, 1) := by decide +kernel
theorem dL_law_624 : decode cL_law 624 = .ok (.invokevirtual 91, 3) := by decide +kernel
theorem dL_law_627 : decode cL_law 627 = .ok (.if_icmp .eq 444, 3) := by decide +kernel
theorem dL_law_630 : decode cL_law 630 = .ok (.iconst 0, 1) := by decide +kernel
theorem dL_law_631 : decode cL_law 631 = .ok (.ireturn, 1) := by decide +kernel
theorem dL_law_632 : decode cL_law 632 = .ok (.aload_n 1, 1) := by decide +kernel
theorem dL_law_633 : decode cL_law 633 = .ok (.aload_n 0, 1) := by decide +kernel
theorem dL_law_634 : decode cL_law 634 = .ok (.iload_n 3, 1) := by decide +kernel
theorem dL_law_635 : decode cL_law 635 = .ok (.iconst 1, 1) := by decide +kernel
theorem dL_law_636 : decode cL_law 636 = .ok (.iadd, 1) := by decide +kernel
theorem dL_law_637 : decode cL_law 637 = .ok (.iaload, 1) := by decide +kernel
theorem dL_law_638 : decode cL_law 638 = .ok (.aload_n 0, 1) := by decide +kernel
theorem dL_law_639 : decode cL_law 639 = .ok (.iload_n 3, 1) := by decide +kernel
theorem dL_law_640 : decode cL_law 640 = .ok (.iconst 2, 1) := by decide +kernel
theorem dL_law_641 : decode cL_law 641 = .ok (.iadd, 1) := by decide +kernel
theorem dL_law_642 : decode cL_law 642 = .ok (.iaload, 1) := by decide +kernel
theorem dL_law_643 : decode cL_law 643 = .ok (.i2l, 1) := by decide +kernel
theorem dL_law_644 : decode cL_law 644 = .ok (.bipush 32, 2) := by decide +kernel
theorem dL_law_646 : decode cL_law 646 = .ok (.lshl, 1) := by decide +kernel
theorem dL_law_647 : decode cL_law 647 = .ok (.aload_n 0, 1) := by decide +kernel
theorem dL_law_648 : decode cL_law 648 = .ok (.iload_n 3, 1) := by decide +kernel
theorem dL_law_649 : decode cL_law 649 = .ok (.iconst 3, 1) := by decide +kernel
theorem dL_law_650 : decode cL_law 650 = .ok (.iadd, 1) := by decide +kernel
theorem dL_law_651 : decode cL_law 651 = .ok (.iaload, 1) := by decide +kernel
theorem dL_law_652 : decode cL_law 652 = .ok (.i2l, 1) := by decide +kernel
theorem dL_law_653 : decode cL_law 653 = .ok (.ldc2_w 77, 3) := by decide +kernel
theorem dL_law_656 : decode cL_law 656 = .ok (.land, 1) := by decide +kernel
theorem dL_law_657 : decode cL_law 657 = .ok (.lor, 1) := by decide +kernel
theorem dL_law_658 : decode cL_law 658 = .ok (.invokevirtual 92, 3) := by decide +kernel
theorem dL_law_661 : decode cL_law 661 = .ok (.aload_n 2, 1) := by decide +kernel
theorem dL_law_662 : decode cL_law 662 = .ok (.aload_n 0, 1) := by decide +kernel
theorem dL_law_663 : decode cL_law 663 = .ok (.iload_n 3, 1) := by decide +kernel
theorem dL_law_664 : decode cL_law 664 = .ok (.iconst 1, 1) := by decide +kernel
theorem dL_law_665 : decode cL_law 665 = .ok (.iadd, 1) := by decide +kernel
theorem dL_law_666 : decode cL_law 666 = .ok (.iaload, 1) := by decide +kernel
theorem dL_law_667 : decode cL_law 667 = .ok (.aload_n 0, 1) := by decide +kernel
theorem dL_law_668 : decode cL_law 668 = .ok (.iload_n 3, 1) := by decide +kernel
theorem dL_law_669 : decode cL_law 669 = .ok (.iconst 2, 1) := by decide +kernel
theorem dL_law_670 : decode cL_law 670 = .ok (.iadd, 1) := by decide +kernel
theorem dL_law_671 : decode cL_law 671 = .ok (.iaload, 1) := by decide +kernel
theorem dL_law_672 : decode cL_law 672 = .ok (.i2l, 1) := by decide +kernel
theorem dL_law_673 : decode cL_law 673 = .ok (.bipush 32, 2) := by decide +kernel
theorem dL_law_675 : decode cL_law 675 = .ok (.lshl, 1) := by decide +kernel
theorem dL_law_676 : decode cL_law 676 = .ok (.aload_n 0, 1) := by decide +kernel
theorem dL_law_677 : decode cL_law 677 = .ok (.iload_n 3, 1) := by decide +kernel
theorem dL_law_678 : decode cL_law 678 = .ok (.iconst 3, 1) := by decide +kernel
theorem dL_law_679 : decode cL_law 679 = .ok (.iadd, 1) := by decide +kernel
theorem dL_law_680 : decode cL_law 680 = .ok (.iaload, 1) := by decide +kernel
theorem dL_law_681 : decode cL_law 681 = .ok (.i2l, 1) := by decide +kernel
theorem dL_law_682 : decode cL_law 682 = .ok (.ldc2_w 77, 3) := by decide +kernel
theorem dL_law_685 : decode cL_law 685 = .ok (.land, 1) := by decide +kernel
theorem dL_law_686 : decode cL_law 686 = .ok (.lor, 1) := by decide +kernel
theorem dL_law_687 : decode cL_law 687 = .ok (.invokevirtual 96, 3) := by decide +kernel
theorem dL_law_690 : decode cL_law 690 = .ok (.if_icmp .eq 381, 3) := by decide +kernel
theorem dL_law_693 : decode cL_law 693 = .ok (.iconst 0, 1) := by decide +kernel
theorem dL_law_694 : decode cL_law 694 = .ok (.ireturn, 1) := by decide +kernel
theorem dL_law_695 : decode cL_law 695 = .ok (.aload_n 1, 1) := by decide +kernel
theorem dL_law_696 : decode cL_law 696 = .ok (.aload_n 0, 1) := by decide +kernel
theorem dL_law_697 : decode cL_law 697 = .ok (.iload_n 3, 1) := by decide +kernel
theorem dL_law_698 : decode cL_law 698 = .ok (.iconst 1, 1) := by decide +kernel
theorem dL_law_699 : decode cL_law 699 = .ok (.iadd, 1) := by decide +kernel
theorem dL_law_700 : decode cL_law 700 = .ok (.iaload, 1) := by decide +kernel
theorem dL_law_701 : decode cL_law 701 = .ok (.aload_n 0, 1) := by decide +kernel
theorem dL_law_702 : decode cL_law 702 = .ok (.iload_n 3, 1) := by decide +kernel
theorem dL_law_703 : decode cL_law 703 = .ok (.iconst 2, 1) := by decide +kernel
theorem dL_law_704 : decode cL_law 704 = .ok (.iadd, 1) := by decide +kernel
theorem dL_law_705 : decode cL_law 705 = .ok (.iaload, 1) := by decide +kernel
theorem dL_law_706 : decode cL_law 706 = .ok (.aload_n 0, 1) := by decide +kernel
theorem dL_law_707 : decode cL_law 707 = .ok (.iload_n 3, 1) := by decide +kernel
theorem dL_law_708 : decode cL_law 708 = .ok (.iconst 3, 1) := by decide +kernel
theorem dL_law_709 : decode cL_law 709 = .ok (.iadd, 1) := by decide +kernel
theorem dL_law_710 : decode cL_law 710 = .ok (.iaload, 1) := by decide +kernel
theorem dL_law_711 : decode cL_law 711 = .ok (.invokevirtual 97, 3) := by decide +kernel
theorem dL_law_714 : decode cL_law 714 = .ok (.aload_n 2, 1) := by decide +kernel
theorem dL_law_715 : decode cL_law 715 = .ok (.aload_n 0, 1) := by decide +kernel
theorem dL_law_716 : decode cL_law 716 = .ok (.iload_n 3, 1) := by decide +kernel
theorem dL_law_717 : decode cL_law 717 = .ok (.iconst 1, 1) := by decide +kernel
theorem dL_law_718 : decode cL_law 718 = .ok (.iadd, 1) := by decide +kernel
theorem dL_law_719 : decode cL_law 719 = .ok (.iaload, 1) := by decide +kernel
theorem dL_law_720 : decode cL_law 720 = .ok (.aload_n 0, 1) := by decide +kernel
theorem dL_law_721 : decode cL_law 721 = .ok (.iload_n 3, 1) := by decide +kernel
theorem dL_law_722 : decode cL_law 722 = .ok (.iconst 2, 1) := by decide +kernel
theorem dL_law_723 : decode cL_law 723 = .ok (.iadd, 1) := by decide +kernel
theorem dL_law_724 : decode cL_law 724 = .ok (.iaload, 1) := by decide +kernel
theorem dL_law_725 : decode cL_law 725 = .ok (.aload_n 0, 1) := by decide +kernel
theorem dL_law_726 : decode cL_law 726 = .ok (.iload_n 3, 1) := by decide +kernel
theorem dL_law_727 : decode cL_law 727 = .ok (.iconst 3, 1) := by decide +kernel
theorem dL_law_728 : decode cL_law 728 = .ok (.iadd, 1) := by decide +kernel
theorem dL_law_729 : decode cL_law 729 = .ok (.iaload, 1) := by decide +kernel
theorem dL_law_730 : decode cL_law 730 = .ok (.invokevirtual 100, 3) := by decide +kernel
theorem dL_law_733 : decode cL_law 733 = .ok (.if_icmp .eq 338, 3) := by decide +kernel
theorem dL_law_736 : decode cL_law 736 = .ok (.iconst 0, 1) := by decide +kernel
theorem dL_law_737 : decode cL_law 737 = .ok (.ireturn, 1) := by decide +kernel
theorem dL_law_738 : decode cL_law 738 = .ok (.aload_n 1, 1) := by decide +kernel
theorem dL_law_739 : decode cL_law 739 = .ok (.invokevirtual 101, 3) := by decide +kernel
theorem dL_law_742 : decode cL_law 742 = .ok (.aload_n 2, 1) := by decide +kernel
theorem dL_law_743 : decode cL_law 743 = .ok (.invokevirtual 104, 3) := by decide +kernel
theorem dL_law_746 : decode cL_law 746 = .ok (.if_icmp .eq 325, 3) := by decide +kernel
theorem dL_law_749 : decode cL_law 749 = .ok (.iconst 0, 1) := by decide +kernel
theorem dL_law_750 : decode cL_law 750 = .ok (.ireturn, 1) := by decide +kernel
theorem dL_law_751 : decode cL_law 751 = .ok (.aload_n 1, 1) := by decide +kernel
theorem dL_law_752 : decode cL_law 752 = .ok (.aload_n 0, 1) := by decide +kernel
theorem dL_law_753 : decode cL_law 753 = .ok (.iload_n 3, 1) := by decide +kernel
theorem dL_law_754 : decode cL_law 754 = .ok (.iconst 1, 1) := by decide +kernel
theorem dL_law_755 : decode cL_law 755 = .ok (.iadd, 1) := by decide +kernel
theorem dL_law_756 : decode cL_law 756 = .ok (.iaload, 1) := by decide +kernel
theorem dL_law_757 : decode cL_law 757 = .ok (.invokevirtual 105, 3) := by decide +kernel
theorem dL_law_760 : decode cL_law 760 = .ok (.aload_n 2, 1) := by decide +kernel
theorem dL_law_761 : decode cL_law 761 = .ok (.aload_n 0, 1) := by decide +kernel
theorem dL_law_762 : decode cL_law 762 = .ok (.iload_n 3, 1) := by decide +kernel
theorem dL_law_763 : decode cL_law 763 = .ok (.iconst 1, 1) := by decide +kernel
theorem dL_law_764 : decode cL_law 764 = .ok (.iadd, 1) := by decide +kernel
theorem dL_law_765 : decode cL_law 765 = .ok (.iaload, 1) := by decide +kernel
theorem dL_law_766 : decode cL_law 766 = .ok (.invokevirtual 108, 3) := by decide +kernel
theorem dL_law_769 : decode cL_law 769 = .ok (.if_icmp .eq 302, 3) := by decide +kernel
theorem dL_law_772 : decode cL_law 772 = .ok (.iconst 0, 1) := by decide +kernel
theorem dL_law_773 : decode cL_law 773 = .ok (.ireturn, 1) := by decide +kernel
theorem dL_law_774 : decode cL_law 774 = .ok (.aload_n 1, 1) := by decide +kernel
theorem dL_law_775 : decode cL_law 775 = .ok (.aload_n 0, 1) := by decide +kernel
theorem dL_law_776 : decode cL_law 776 = .ok (.iload_n 3, 1) := by decide +kernel
theorem dL_law_777 : decode cL_law 777 = .ok (.iconst 1, 1) := by decide +kernel
theorem dL_law_778 : decode cL_law 778 = .ok (.iadd, 1) := by decide +kernel
theorem dL_law_779 : decode cL_law 779 = .ok (.iaload, 1) := by decide +kernel
theorem dL_law_780 : decode cL_law 780 = .ok (.aload_n 0, 1) := by decide +kernel
theorem dL_law_781 : decode cL_law 781 = .ok (.iload_n 3, 1) := by decide +kernel
theorem dL_law_782 : decode cL_law 782 = .ok (.iconst 2, 1) := by decide +kernel
theorem dL_law_783 : decode cL_law 783 = .ok (.iadd, 1) := by decide +kernel
theorem dL_law_784 : decode cL_law 784 = .ok (.iaload, 1) := by decide +kernel
theorem dL_law_785 : decode cL_law 785 = .ok (.ifCond .eq 7, 3) := by decide +kernel
theorem dL_law_788 : decode cL_law 788 = .ok (.iconst 1, 1) := by decide +kernel
theorem dL_law_789 : decode cL_law 789 = .ok (.goto 4, 3) := by decide +kernel
theorem dL_law_792 : decode cL_law 792 = .ok (.iconst 0, 1) := by decide +kernel
theorem dL_law_793 : decode cL_law 793 = .ok (.invokevirtual 109, 3) := by decide +kernel
theorem dL_law_796 : decode cL_law 796 = .ok (.aload_n 2, 1) := by decide +kernel
theorem dL_law_797 : decode cL_law 797 = .ok (.aload_n 0, 1) := by decide +kernel
theorem dL_law_798 : decode cL_law 798 = .ok (.iload_n 3, 1) := by decide +kernel
theorem dL_law_799 : decode cL_law 799 = .ok (.iconst 1, 1) := by decide +kernel
theorem dL_law_800 : decode cL_law 800 = .ok (.iadd, 1) := by decide +kernel
theorem dL_law_801 : decode cL_law 801 = .ok (.iaload, 1) := by decide +kernel
theorem dL_law_802 : decode cL_law 802 = .ok (.aload_n 0, 1) := by decide +kernel
theorem dL_law_803 : decode cL_law 803 = .ok (.iload_n 3, 1) := by decide +kernel
theorem dL_law_804 : decode cL_law 804 = .ok (.iconst 2, 1) := by decide +kernel
theorem dL_law_805 : decode cL_law 805 = .ok (.iadd, 1) := by decide +kernel
theorem dL_law_806 : decode cL_law 806 = .ok (.iaload, 1) := by decide +kernel
theorem dL_law_807 : decode cL_law 807 = .ok (.ifCond .eq 7, 3) := by decide +kernel
theorem dL_law_810 : decode cL_law 810 = .ok (.iconst 1, 1) := by decide +kernel
theorem dL_law_811 : decode cL_law 811 = .ok (.goto 4, 3) := by decide +kernel
theorem dL_law_814 : decode cL_law 814 = .ok (.iconst 0, 1) := by decide +kernel
theorem dL_law_815 : decode cL_law 815 = .ok (.invokevirtual 113, 3) := by decide +kernel
theorem dL_law_818 : decode cL_law 818 = .ok (.if_icmp .eq 253, 3) := by decide +kernel
theorem dL_law_821 : decode cL_law 821 = .ok (.iconst 0, 1) := by decide +kernel
theorem dL_law_822 : decode cL_law 822 = .ok (.ireturn, 1) := by decide +kernel
theorem dL_law_823 : decode cL_law 823 = .ok (.aload_n 1, 1) := by decide +kernel
theorem dL_law_824 : decode cL_law 824 = .ok (.aload_n 0, 1) := by decide +kernel
theorem dL_law_825 : decode cL_law 825 = .ok (.iload_n 3, 1) := by decide +kernel
theorem dL_law_826 : decode cL_law 826 = .ok (.iconst 1, 1) := by decide +kernel
theorem dL_law_827 : decode cL_law 827 = .ok (.iadd, 1) := by decide +kernel
theorem dL_law_828 : decode cL_law 828 = .ok (.iaload, 1) := by decide +kernel
theorem dL_law_829 : decode cL_law 829 = .ok (.aload_n 0, 1) := by decide +kernel
theorem dL_law_830 : decode cL_law 830 = .ok (.iload_n 3, 1) := by decide +kernel
theorem dL_law_831 : decode cL_law 831 = .ok (.iconst 2, 1) := by decide +kernel
theorem dL_law_832 : decode cL_law 832 = .ok (.iadd, 1) := by decide +kernel
theorem dL_law_833 : decode cL_law 833 = .ok (.iaload, 1) := by decide +kernel
theorem dL_law_834 : decode cL_law 834 = .ok (.aload_n 0, 1) := by decide +kernel
theorem dL_law_835 : decode cL_law 835 = .ok (.iload_n 3, 1) := by decide +kernel
theorem dL_law_836 : decode cL_law 836 = .ok (.iconst 3, 1) := by decide +kernel
theorem dL_law_837 : decode cL_law 837 = .ok (.iadd, 1) := by decide +kernel
theorem dL_law_838 : decode cL_law 838 = .ok (.iaload, 1) := by decide +kernel
theorem dL_law_839 : decode cL_law 839 = .ok (.invokevirtual 114, 3) := by decide +kernel
theorem dL_law_842 : decode cL_law 842 = .ok (.aload_n 2, 1) := by decide +kernel
theorem dL_law_843 : decode cL_law 843 = .ok (.aload_n 0, 1) := by decide +kernel
theorem dL_law_844 : decode cL_law 844 = .ok (.iload_n 3, 1) := by decide +kernel
theorem dL_law_845 : decode cL_law 845 = .ok (.iconst 1, 1) := by decide +kernel
theorem dL_law_846 : decode cL_law 846 = .ok (.iadd, 1) := by decide +kernel
theorem dL_law_847 : decode cL_law 847 = .ok (.iaload, 1) := by decide +kernel
theorem dL_law_848 : decode cL_law 848 = .ok (.aload_n 0, 1) := by decide +kernel
theorem dL_law_849 : decode cL_law 849 = .ok (.iload_n 3, 1) := by decide +kernel
theorem dL_law_850 : decode cL_law 850 = .ok (.iconst 2, 1) := by decide +kernel
theorem dL_law_851 : decode cL_law 851 = .ok (.iadd, 1) := by decide +kernel
theorem dL_law_852 : decode cL_law 852 = .ok (.iaload, 1) := by decide +kernel
theorem dL_law_853 : decode cL_law 853 = .ok (.aload_n 0, 1) := by decide +kernel
theorem dL_law_854 : decode cL_law 854 = .ok (.iload_n 3, 1) := by decide +kernel
theorem dL_law_855 : decode cL_law 855 = .ok (.iconst 3, 1) := by decide +kernel
theorem dL_law_856 : decode cL_law 856 = .ok (.iadd, 1) := by decide +kernel
theorem dL_law_857 : decode cL_law 857 = .ok (.iaload, 1) := by decide +kernel
theorem dL_law_858 : decode cL_law 858 = .ok (.invokevirtual 117, 3) := by decide +kernel
theorem dL_law_861 : decode cL_law 861 = .ok (.if_icmp .eq 210, 3) := by decide +kernel
theorem dL_law_864 : decode cL_law 864 = .ok (.iconst 0, 1) := by decide +kernel
theorem dL_law_865 : decode cL_law 865 = .ok (.ireturn, 1) := by decide +kernel
theorem dL_law_866 : decode cL_law 866 = .ok (.aload_n 1, 1) := by decide +kernel
theorem dL_law_867 : decode cL_law 867 = .ok (.aload_n 0, 1) := by decide +kernel
theorem dL_law_868 : decode cL_law 868 = .ok (.iload_n 3, 1) := by decide +kernel
theorem dL_law_869 : decode cL_law 869 = .ok (.iconst 1, 1) := by decide +kernel
theorem dL_law_870 : decode cL_law 870 = .ok (.iadd, 1) := by decide +kernel
theorem dL_law_871 : decode cL_law 871 = .ok (.iaload, 1) := by decide +kernel
theorem dL_law_872 : decode cL_law 872 = .ok (.aload_n 0, 1) := by decide +kernel
theorem dL_law_873 : decode cL_law 873 = .ok (.iload_n 3, 1) := by decide +kernel
theorem dL_law_874 : decode cL_law 874 = .ok (.iconst 2, 1) := by decide +kernel
theorem dL_law_875 : decode cL_law 875 = .ok (.iadd, 1) := by decide +kernel
theorem dL_law_876 : decode cL_law 876 = .ok (.iaload, 1) := by decide +kernel
theorem dL_law_877 : decode cL_law 877 = .ok (.aload_n 0, 1) := by decide +kernel
theorem dL_law_878 : decode cL_law 878 = .ok (.iload_n 3, 1) := by decide +kernel
theorem dL_law_879 : decode cL_law 879 = .ok (.iconst 3, 1) := by decide +kernel
theorem dL_law_880 : decode cL_law 880 = .ok (.iadd, 1) := by decide +kernel
theorem dL_law_881 : decode cL_law 881 = .ok (.iaload, 1) := by decide +kernel
theorem dL_law_882 : decode cL_law 882 = .ok (.ifCond .eq 7, 3) := by decide +kernel
theorem dL_law_885 : decode cL_law 885 = .ok (.iconst 1, 1) := by decide +kernel
theorem dL_law_886 : decode cL_law 886 = .ok (.goto 4, 3) := by decide +kernel
theorem dL_law_889 : decode cL_law 889 = .ok (.iconst 0, 1) := by decide +kernel
theorem dL_law_890 : decode cL_law 890 = .ok (.invokevirtual 118, 3) := by decide +kernel
theorem dL_law_893 : decode cL_law 893 = .ok (.aload_n 2, 1) := by decide +kernel
theorem dL_law_894 : decode cL_law 894 = .ok (.aload_n 0, 1) := by decide +kernel
theorem dL_law_895 : decode cL_law 895 = .ok (.iload_n 3, 1) := by decide +kernel
theorem dL_law_896 : decode cL_law 896 = .ok (.iconst 1, 1) := by decide +kernel
theorem dL_law_897 : decode cL_law 897 = .ok (.iadd, 1) := by decide +kernel
theorem dL_law_898 : decode cL_law 898 = .ok (.iaload, 1) := by decide +kernel
theorem dL_law_899 : decode cL_law 899 = .ok (.aload_n 0, 1) := by decide +kernel
theorem dL_law_900 : decode cL_law 900 = .ok (.iload_n 3, 1) := by decide +kernel
theorem dL_law_901 : decode cL_law 901 = .ok (.iconst 2, 1) := by decide +kernel
theorem dL_law_902 : decode cL_law 902 = .ok (.iadd, 1) := by decide +kernel
theorem dL_law_903 : decode cL_law 903 = .ok (.iaload, 1) := by decide +kernel
theorem dL_law_904 : decode cL_law 904 = .ok (.aload_n 0, 1) := by decide +kernel
theorem dL_law_905 : decode cL_law 905 = .ok (.iload_n 3, 1) := by decide +kernel
theorem dL_law_906 : decode cL_law 906 = .ok (.iconst 3, 1) := by decide +kernel
theorem dL_law_907 : decode cL_law 907 = .ok (.iadd, 1) := by decide +kernel
theorem dL_law_908 : decode cL_law 908 = .ok (.iaload, 1) := by decide +kernel
theorem dL_law_909 : decode cL_law 909 = .ok (.ifCond .eq 7, 3) := by decide +kernel
theorem dL_law_912 : decode cL_law 912 = .ok (.iconst 1, 1) := by decide +kernel
theorem dL_law_913 : decode cL_law 913 = .ok (.goto 4, 3) := by decide +kernel
theorem dL_law_916 : decode cL_law 916 = .ok (.iconst 0, 1) := by decide +kernel
theorem dL_law_917 : decode cL_law 917 = .ok (.invokevirtual 122, 3) := by decide +kernel
theorem dL_law_920 : decode cL_law 920 = .ok (.if_icmp .eq 151, 3) := by decide +kernel
theorem dL_law_923 : decode cL_law 923 = .ok (.iconst 0, 1) := by decide +kernel
theorem dL_law_924 : decode cL_law 924 = .ok (.ireturn, 1) := by decide +kernel
theorem dL_law_925 : decode cL_law 925 = .ok (.aload_n 1, 1) := by decide +kernel
theorem dL_law_926 : decode cL_law 926 = .ok (.aload_n 0, 1) := by decide +kernel
theorem dL_law_927 : decode cL_law 927 = .ok (.iload_n 3, 1) := by decide +kernel
theorem dL_law_928 : decode cL_law 928 = .ok (.iconst 1, 1) := by decide +kernel
theorem dL_law_929 : decode cL_law 929 = .ok (.iadd, 1) := by decide +kernel
theorem dL_law_930 : decode cL_law 930 = .ok (.iaload, 1) := by decide +kernel
theorem dL_law_931 : decode cL_law 931 = .ok (.i2l, 1) := by decide +kernel
theorem dL_law_932 : decode cL_law 932 = .ok (.bipush 32, 2) := by decide +kernel
theorem dL_law_934 : decode cL_law 934 = .ok (.lshl, 1) := by decide +kernel
theorem dL_law_935 : decode cL_law 935 = .ok (.aload_n 0, 1) := by decide +kernel
theorem dL_law_936 : decode cL_law 936 = .ok (.iload_n 3, 1) := by decide +kernel
theorem dL_law_937 : decode cL_law 937 = .ok (.iconst 2, 1) := by decide +kernel
theorem dL_law_938 : decode cL_law 938 = .ok (.iadd, 1) := by decide +kernel
theorem dL_law_939 : decode cL_law 939 = .ok (.iaload, 1) := by decide +kernel
theorem dL_law_940 : decode cL_law 940 = .ok (.i2l, 1) := by decide +kernel
theorem dL_law_941 : decode cL_law 941 = .ok (.ldc2_w 77, 3) := by decide +kernel
theorem dL_law_944 : decode cL_law 944 = .ok (.land, 1) := by decide +kernel
theorem dL_law_945 : decode cL_law 945 = .ok (.lor, 1) := by decide +kernel
theorem dL_law_946 : decode cL_law 946 = .ok (.invokevirtual 123, 3) := by decide +kernel
theorem dL_law_949 : decode cL_law 949 = .ok (.aload_n 2, 1) := by decide +kernel
theorem dL_law_950 : decode cL_law 950 = .ok (.aload_n 0, 1) := by decide +kernel
theorem dL_law_951 : decode cL_law 951 = .ok (.iload_n 3, 1) := by decide +kernel
theorem dL_law_952 : decode cL_law 952 = .ok (.iconst 1, 1) := by decide +kernel
theorem dL_law_953 : decode cL_law 953 = .ok (.iadd, 1) := by decide +kernel
theorem dL_law_954 : decode cL_law 954 = .ok (.iaload, 1) := by decide +kernel
theorem dL_law_955 : decode cL_law 955 = .ok (.i2l, 1) := by decide +kernel
theorem dL_law_956 : decode cL_law 956 = .ok (.bipush 32, 2) := by decide +kernel
theorem dL_law_958 : decode cL_law 958 = .ok (.lshl, 1) := by decide +kernel
theorem dL_law_959 : decode cL_law 959 = .ok (.aload_n 0, 1) := by decide +kernel
theorem dL_law_960 : decode cL_law 960 = .ok (.iload_n 3, 1) := by decide +kernel
theorem dL_law_961 : decode cL_law 961 = .ok (.iconst 2, 1) := by decide +kernel
theorem dL_law_962 : decode cL_law 962 = .ok (.iadd, 1) := by decide +kernel
theorem dL_law_963 : decode cL_law 963 = .ok (.iaload, 1) := by decide +kernel
theorem dL_law_964 : decode cL_law 964 = .ok (.i2l, 1) := by decide +kernel
theorem dL_law_965 : decode cL_law 965 = .ok (.ldc2_w 77, 3) := by decide +kernel
theorem dL_law_968 : decode cL_law 968 = .ok (.land, 1) := by decide +kernel
theorem dL_law_969 : decode cL_law 969 = .ok (.lor, 1) := by decide +kernel
theorem dL_law_970 : decode cL_law 970 = .ok (.invokevirtual 127, 3) := by decide +kernel
theorem dL_law_973 : decode cL_law 973 = .ok (.lcmp, 1) := by decide +kernel
theorem dL_law_974 : decode cL_law 974 = .ok (.ifCond .eq 97, 3) := by decide +kernel
theorem dL_law_977 : decode cL_law 977 = .ok (.iconst 0, 1) := by decide +kernel
theorem dL_law_978 : decode cL_law 978 = .ok (.ireturn, 1) := by decide +kernel
theorem dL_law_979 : decode cL_law 979 = .ok (.aload_n 1, 1) := by decide +kernel
theorem dL_law_980 : decode cL_law 980 = .ok (.aload_n 0, 1) := by decide +kernel
theorem dL_law_981 : decode cL_law 981 = .ok (.iload_n 3, 1) := by decide +kernel
theorem dL_law_982 : decode cL_law 982 = .ok (.iconst 1, 1) := by decide +kernel
theorem dL_law_983 : decode cL_law 983 = .ok (.iadd, 1) := by decide +kernel
theorem dL_law_984 : decode cL_law 984 = .ok (.iaload, 1) := by decide +kernel
theorem dL_law_985 : decode cL_law 985 = .ok (.invokevirtual 128, 3) := by decide +kernel
theorem dL_law_988 : decode cL_law 988 = .ok (.aload_n 2, 1) := by decide +kernel
theorem dL_law_989 : decode cL_law 989 = .ok (.aload_n 0, 1) := by decide +kernel
theorem dL_law_990 : decode cL_law 990 = .ok (.iload_n 3, 1) := by decide +kernel
theorem dL_law_991 : decode cL_law 991 = .ok (.iconst 1, 1) := by decide +kernel
theorem dL_law_992 : decode cL_law 992 = .ok (.iadd, 1) := by decide +kernel
theorem dL_law_993 : decode cL_law 993 = .ok (.iaload, 1) := by decide +kernel
theorem dL_law_994 : decode cL_law 994 = .ok (.invokevirtual 131, 3) := by decide +kernel
theorem dL_law_997 : decode cL_law 997 = .ok (.if_icmp .eq 74, 3) := by decide +kernel
theorem dL_law_1000 : decode cL_law 1000 = .ok (.iconst 0, 1) := by decide +kernel
theorem dL_law_1001 : decode cL_law 1001 = .ok (.ireturn, 1) := by decide +kernel
theorem dL_law_1002 : decode cL_law 1002 = .ok (.aload_n 1, 1) := by decide +kernel
theorem dL_law_1003 : decode cL_law 1003 = .ok (.aload_n 0, 1) := by decide +kernel
theorem dL_law_1004 : decode cL_law 1004 = .ok (.iload_n 3, 1) := by decide +kernel
theorem dL_law_1005 : decode cL_law 1005 = .ok (.iconst 1, 1) := by decide +kernel
theorem dL_law_1006 : decode cL_law 1006 = .ok (.iadd, 1) := by decide +kernel
theorem dL_law_1007 : decode cL_law 1007 = .ok (.iaload, 1) := by decide +kernel
theorem dL_law_1008 : decode cL_law 1008 = .ok (.invokevirtual 132, 3) := by decide +kernel
theorem dL_law_1011 : decode cL_law 1011 = .ok (.aload_n 2, 1) := by decide +kernel
theorem dL_law_1012 : decode cL_law 1012 = .ok (.aload_n 0, 1) := by decide +kernel
theorem dL_law_1013 : decode cL_law 1013 = .ok (.iload_n 3, 1) := by decide +kernel
theorem dL_law_1014 : decode cL_law 1014 = .ok (.iconst 1, 1) := by decide +kernel
theorem dL_law_1015 : decode cL_law 1015 = .ok (.iadd, 1) := by decide +kernel
theorem dL_law_1016 : decode cL_law 1016 = .ok (.iaload, 1) := by decide +kernel
theorem dL_law_1017 : decode cL_law 1017 = .ok (.invokevirtual 135, 3) := by decide +kernel
theorem dL_law_1020 : decode cL_law 1020 = .ok (.if_icmp .eq 51, 3) := by decide +kernel
theorem dL_law_1023 : decode cL_law 1023 = .ok (.iconst 0, 1) := by decide +kernel
theorem dL_law_1024 : decode cL_law 1024 = .ok (.ireturn, 1) := by decide +kernel
theorem dL_law_1025 : decode cL_law 1025 = .ok (.aload_n 1, 1) := by decide +kernel
theorem dL_law_1026 : decode cL_law 1026 = .ok (.aload_n 0, 1) := by decide +kernel
theorem dL_law_1027 : decode cL_law 1027 = .ok (.iload_n 3, 1) := by decide +kernel
theorem dL_law_1028 : decode cL_law 1028 = .ok (.iconst 1, 1) := by decide +kernel
theorem dL_law_1029 : decode cL_law 1029 = .ok (.iadd, 1) := by decide +kernel
theorem dL_law_1030 : decode cL_law 1030 = .ok (.iaload, 1) := by decide +kernel
theorem dL_law_1031 : decode cL_law 1031 = .ok (.invokevirtual 136, 3) := by decide +kernel
theorem dL_law_1034 : decode cL_law 1034 = .ok (.aload_n 2, 1) := by decide +kernel
theorem dL_law_1035 : decode cL_law 1035 = .ok (.aload_n 0, 1) := by decide +kernel
theorem dL_law_1036 : decode cL_law 1036 = .ok (.iload_n 3, 1) := by decide +kernel
theorem dL_law_1037 : decode cL_law 1037 = .ok (.iconst 1, 1) := by decide +kernel
theorem dL_law_1038 : decode cL_law 1038 = .ok (.iadd, 1) := by decide +kernel
theorem dL_law_1039 : decode cL_law 1039 = .ok (.iaload, 1) := by decide +kernel
theorem dL_law_1040 : decode cL_law 1040 = .ok (.invokevirtual 139, 3) := by decide +kernel
theorem dL_law_1043 : decode cL_law 1043 = .ok (.if_icmp .eq 28, 3) := by decide +kernel
theorem dL_law_1046 : decode cL_law 1046 = .ok (.iconst 0, 1) := by decide +kernel
theorem dL_law_1047 : decode cL_law 1047 = .ok (.ireturn, 1) := by decide +kernel
theorem dL_law_1048 : decode cL_law 1048 = .ok (.aload_n 1, 1) := by decide +kernel
theorem dL_law_1049 : decode cL_law 1049 = .ok (.aload_n 0, 1) := by decide +kernel
theorem dL_law_1050 : decode cL_law 1050 = .ok (.iload_n 3, 1) := by decide +kernel
theorem dL_law_1051 : decode cL_law 1051 = .ok (.iconst 1, 1) := by decide +kernel
theorem dL_law_1052 : decode cL_law 1052 = .ok (.iadd, 1) := by decide +kernel
theorem dL_law_1053 : decode cL_law 1053 = .ok (.iaload, 1) := by decide +kernel
theorem dL_law_1054 : decode cL_law 1054 = .ok (.invokevirtual 140, 3) := by decide +kernel
theorem dL_law_1057 : decode cL_law 1057 = .ok (.aload_n 2, 1) := by decide +kernel
theorem dL_law_1058 : decode cL_law 1058 = .ok (.aload_n 0, 1) := by decide +kernel
theorem dL_law_1059 : decode cL_law 1059 = .ok (.iload_n 3, 1) := by decide +kernel
theorem dL_law_1060 : decode cL_law 1060 = .ok (.iconst 1, 1) := by decide +kernel
theorem dL_law_1061 : decode cL_law 1061 = .ok (.iadd, 1) := by decide +kernel
theorem dL_law_1062 : decode cL_law 1062 = .ok (.iaload, 1) := by decide +kernel
theorem dL_law_1063 : decode cL_law 1063 = .ok (.invokevirtual 143, 3) := by decide +kernel
theorem dL_law_1066 : decode cL_law 1066 = .ok (.if_icmp .eq 5, 3) := by decide +kernel
theorem dL_law_1069 : decode cL_law 1069 = .ok (.iconst 0, 1) := by decide +kernel
theorem dL_law_1070 : decode cL_law 1070 = .ok (.ireturn, 1) := by decide +kernel
theorem dL_law_1071 : decode cL_law 1071 = .ok (.iinc 3 5, 3) := by decide +kernel
theorem dL_law_1074 : decode cL_law 1074 = .ok (.goto (-1056), 3) := by decide +kernel
theorem dL_law_1077 : decode cL_law 1077 = .ok (.iconst 1, 1) := by decide +kernel
theorem dL_law_1078 : decode cL_law 1078 = .ok (.ireturn, 1) := by decide +kernel
end
section
/-! contracts by value: what a method answers, and what then holds of the world -/
abbrev Ei (cx : CX) (v : Int32) (P : ME → Prop) := Qi cx (fun r μ1 => r = v ∧ P μ1)
abbrev Pi (cx : CX) (μ : ME) (v : Int32) := Qi cx (fun r μ1 => r = v ∧ μ1 = μ)
abbrev El (cx : CX) (v : Int64) (P : ME → Prop) := Ql cx (fun r μ1 => r = v ∧ P μ1)
abbrev Pl (cx : CX) (μ : ME) (v : Int64) := Ql cx (fun r μ1 => r = v ∧ μ1 = μ)
section KIT2
variable {cx : CX} {p : Program} {l : Launch} {e : Env} {R : Room} {s : State} {m : MethodId} {args : Array Value} {below : List Frame} {meth : Method} {c : Code} {H : Heap} {locs : List Loc} {cells slots : Nat} {Q : State → Prop}
variable {cc : ByteArray} {pc nL : Nat} {ls : Array Slot} {rest st0 : List Value} {own : String} {μ : ME}
theorem cl_ie {v : Int32} {P : ME → Prop} {a : Array Value} (hr : va_Run p l e R s m args below meth c H locs cells slots 0 0 (F0 m pc ls st0) rest (Ei cx v P a) (xA cx)) (hW : St cx s μ H locs)
    (kk : ∀ (μ1 : ME) (H1 : Heap) (locs1 : List Loc), P μ1 → St cx s μ1 H1 locs1 → W p l e R s m args below meth c H1 locs1 cells slots Q (F0 m (pc + 3) ls (.int v :: rest))) : W p l e R s m args below meth c H locs cells slots Q (F0 m pc ls st0) :=
  cl_i hr hW (fun r μ1 H1 locs1 hq h => by rw [hq.1]; exact kk μ1 H1 locs1 hq.2 h)
theorem cl_ip {v : Int32} {a : Array Value} (hr : va_Run p l e R s m args below meth c H locs cells slots 0 0 (F0 m pc ls st0) rest (Pi cx μ v a) (xA cx)) (hW : St cx s μ H locs)
    (kk : ∀ (H1 : Heap) (locs1 : List Loc), St cx s μ H1 locs1 → W p l e R s m args below meth c H1 locs1 cells slots Q (F0 m (pc + 3) ls (.int v :: rest))) : W p l e R s m args below meth c H locs cells slots Q (F0 m pc ls st0) :=
  cl_i hr hW (fun r μ1 H1 locs1 hq h => by rw [hq.1]; exact kk H1 locs1 (by rw [← hq.2]; exact h))
theorem cl_lp {v : Int64} {a : Array Value} (hr : va_Run p l e R s m args below meth c H locs cells slots 0 0 (F0 m pc ls st0) rest (Pl cx μ v a) (xA cx)) (hW : St cx s μ H locs)
    (kk : ∀ (H1 : Heap) (locs1 : List Loc), St cx s μ H1 locs1 → W p l e R s m args below meth c H1 locs1 cells slots Q (F0 m (pc + 3) ls (.long v :: rest))) : W p l e R s m args below meth c H locs cells slots Q (F0 m pc ls st0) :=
  cl_l hr hW (fun r μ1 H1 locs1 hq h => by rw [hq.1]; exact kk H1 locs1 (by rw [← hq.2]; exact h))
theorem rt_ie {P : ME → Prop} {v w : Int32} (F : Fx cx p s m args c cc nL own) (hr : meth.sig.returnType = some .int) (hlk : meth.locks = false) (hW : St cx s μ H locs) (hv : v = w) (hp : P μ) (hdg : decode cc pc = .ok (.ireturn, 1)) :
    W p l e R s m args below meth c H locs 0 0 (MQ below (Ei cx w P) args s 0 0 (xA cx)) (F0 m pc ls [.int v]) := rt_i F hr hlk hW ⟨hv, hp⟩ hdg
theorem rt_ip {ν : ME} {v w : Int32} (F : Fx cx p s m args c cc nL own) (hr : meth.sig.returnType = some .int) (hlk : meth.locks = false) (hW : St cx s μ H locs) (hv : v = w) (hp : μ = ν) (hdg : decode cc pc = .ok (.ireturn, 1)) :
    W p l e R s m args below meth c H locs 0 0 (MQ below (Pi cx ν w) args s 0 0 (xA cx)) (F0 m pc ls [.int v]) := rt_i F hr hlk hW ⟨hv, hp⟩ hdg
theorem rt_ze {P : ME → Prop} {v : Int32} {w : Bool} (F : Fx cx p s m args c cc nL own) (hr : meth.sig.returnType = some .boolean) (hlk : meth.locks = false) (hW : St cx s μ H locs) (hv : v = b2 w) (hp : P μ) (hdg : decode cc pc = .ok (.ireturn, 1)) :
    W p l e R s m args below meth c H locs 0 0 (MQ below (Ei cx (b2 w) P) args s 0 0 (xA cx)) (F0 m pc ls [.int v]) := rt_z F hr hlk (by rw [hv]; exact b2_nar w) hW ⟨hv, hp⟩ hdg
theorem rt_zp {ν : ME} {v : Int32} {w : Bool} (F : Fx cx p s m args c cc nL own) (hr : meth.sig.returnType = some .boolean) (hlk : meth.locks = false) (hW : St cx s μ H locs) (hv : v = b2 w) (hp : μ = ν) (hdg : decode cc pc = .ok (.ireturn, 1)) :
    W p l e R s m args below meth c H locs 0 0 (MQ below (Pi cx ν (b2 w)) args s 0 0 (xA cx)) (F0 m pc ls [.int v]) := rt_z F hr hlk (by rw [hv]; exact b2_nar w) hW ⟨hv, hp⟩ hdg
theorem rt_cp {ν : ME} {v w : Int32} (F : Fx cx p s m args c cc nL own) (hr : meth.sig.returnType = some .char) (hlk : meth.locks = false) (hn : narrow .char (.int v) = .int v) (hW : St cx s μ H locs) (hv : v = w) (hp : μ = ν) (hdg : decode cc pc = .ok (.ireturn, 1)) :
    W p l e R s m args below meth c H locs 0 0 (MQ below (Pi cx ν w) args s 0 0 (xA cx)) (F0 m pc ls [.int v]) := rt_z F hr hlk hn hW ⟨hv, hp⟩ hdg
theorem rt_lp {ν : ME} {v w : Int64} (F : Fx cx p s m args c cc nL own) (hr : meth.sig.returnType = some .long) (hlk : meth.locks = false) (hW : St cx s μ H locs) (hv : v = w) (hp : μ = ν) (hdg : decode cc pc = .ok (.lreturn, 1)) :
    W p l e R s m args below meth c H locs 0 0 (MQ below (Pl cx ν w) args s 0 0 (xA cx)) (F0 m pc ls [.long v]) := rt_l F hr hlk hW ⟨hv, hp⟩ hdg
theorem rt_le {P : ME → Prop} {v w : Int64} (F : Fx cx p s m args c cc nL own) (hr : meth.sig.returnType = some .long) (hlk : meth.locks = false) (hW : St cx s μ H locs) (hv : v = w) (hp : P μ) (hdg : decode cc pc = .ok (.lreturn, 1)) :
    W p l e R s m args below meth c H locs 0 0 (MQ below (El cx w P) args s 0 0 (xA cx)) (F0 m pc ls [.long v]) := rt_l F hr hlk hW ⟨hv, hp⟩ hdg
end KIT2
section KIT3
variable {cx : CX} {p : Program} {l : Launch} {e : Env} {R : Room} {s : State} {m : MethodId} {args : Array Value} {below : List Frame} {meth : Method} {c : Code} {H : Heap} {locs : List Loc} {cells slots : Nat} {Q : State → Prop}
variable {cc : ByteArray} {pc nL fr lo : Nat} {ls : Array Slot} {rest st0 As : List Value} {own : String} {μ : ME} {lv : List (Nat × Value)}
theorem tw_nest : True := trivial
theorem cl_runN {Qc : Array Value → State → Outcome → State → Prop} (F : Fx cx p s m args c cc nL RX0) (hW : St cx s μ H locs) (_ : True) (hM : MT cx l yX4_isCarried cX4_isCarried 1 (some .boolean) fr lo As μ Qc) (hR : fr + 1 ≤ R.frames ∧ 8 + (1 + 11) + lo ≤ R.locals) (hn : As.length = 1) (hst : st0 = As.reverse ++ rest) (hl : lv_has ls nL lv) (hrm : (rest.map fun v => v.category).sum ≤ 8) (hdg : decode cc pc = .ok (.invokestatic 96, 3)) (hz : cells ≤ R.cells ∧ slots ≤ R.slots) :
    va_Run p l e R s m args below meth c H locs cells slots 0 0 (F0 m pc ls st0) rest (Qc As.toArray) (xA cx) :=
  va_runSN F.1 hM ⟨va_cnB 1 F.1.2.2.2.2 (wt_good tw_333) rfl rfl rfl F.2.1.2 (F.1.2.2.2.2 _ tw_44) (by decide +kernel) hR, F.1.2.2.2.2 _ tw_332, trivial⟩ ⟨WD_blind, fun U hU hV => ⟨rfl, WD_at hW.1 F.2.1 hU hV⟩⟩ rfl hn hl.1 hst (lv_room hrm) hdg hz
theorem nw_ladd (F : Fx cx p s m args c cc nL own) {a b : Nat} (hdg : decode cc pc = .ok (.ladd, 1)) (k : W p l e R s m args below meth c H locs cells slots Q (F0 m (pc + 1) ls (.long (lN (a + b)) :: rest))) : W p l e R s m args below meth c H locs cells slots Q (F0 m pc ls (.long (lN b) :: .long (lN a) :: rest)) := lv_ladd F.1.1 F.1.2.1 hdg (by rw [lN_add]; exact k)
theorem nw_lmul (F : Fx cx p s m args c cc nL own) {a b : Nat} (hdg : decode cc pc = .ok (.lmul, 1)) (k : W p l e R s m args below meth c H locs cells slots Q (F0 m (pc + 1) ls (.long (lN (a * b)) :: rest))) : W p l e R s m args below meth c H locs cells slots Q (F0 m pc ls (.long (lN b) :: .long (lN a) :: rest)) := lv_lmul F.1.1 F.1.2.1 hdg (by rw [lN_mul]; exact k)
theorem nw_lsub (F : Fx cx p s m args c cc nL own) {a b : Nat} (h : b ≤ a) (hdg : decode cc pc = .ok (.lsub, 1)) (k : W p l e R s m args below meth c H locs cells slots Q (F0 m (pc + 1) ls (.long (lN (a - b)) :: rest))) : W p l e R s m args below meth c H locs cells slots Q (F0 m pc ls (.long (lN b) :: .long (lN a) :: rest)) := lv_lsub F.1.1 F.1.2.1 hdg (by rw [lN_sub h]; exact k)
theorem nw_ldiv (F : Fx cx p s m args c cc nL own) {a b : Nat} (ha : a < 9223372036854775808) (h0 : 0 < b) (hd : b < 9223372036854775808) (hdg : decode cc pc = .ok (.ldiv, 1)) (k : W p l e R s m args below meth c H locs cells slots Q (F0 m (pc + 1) ls (.long (lN (a / b)) :: rest))) : W p l e R s m args below meth c H locs cells slots Q (F0 m pc ls (.long (lN b) :: .long (lN a) :: rest)) := lv_ldiv F.1.1 F.1.2.1 hdg (fun q => absurd ((pk_lEQ hd (by decide)).mp (show lN b = lN 0 from q)) (by omega)) (by rw [pk_lDiv ha h0 hd]; exact k)
theorem nw_lrem (F : Fx cx p s m args c cc nL own) {a b : Nat} (ha : a < 9223372036854775808) (h0 : 0 < b) (hd : b < 9223372036854775808) (hdg : decode cc pc = .ok (.lrem, 1)) (k : W p l e R s m args below meth c H locs cells slots Q (F0 m (pc + 1) ls (.long (lN (a % b)) :: rest))) : W p l e R s m args below meth c H locs cells slots Q (F0 m pc ls (.long (lN b) :: .long (lN a) :: rest)) := lv_lrem F.1.1 F.1.2.1 hdg (fun q => absurd ((pk_lEQ hd (by decide)).mp (show lN b = lN 0 from q)) (by omega)) (by rw [pk_lRem ha h0 hd]; exact k)
end KIT3
section NUM2
variable {cx : CX} {p : Program} {l : Launch} {e : Env} {R : Room} {s : State} {m : MethodId} {args : Array Value} {below : List Frame} {meth : Method} {c : Code} {H : Heap} {locs : List Loc} {cells slots : Nat} {Q : State → Prop}
variable {cc : ByteArray} {pc nL : Nat} {ls : Array Slot} {rest : List Value} {own : String}
theorem nv_b1eq (F : Fx cx p s m args c cc nL own) {b : Bool} {off : Int} {tgt : Nat} (hdg : decode cc pc = .ok (.if_icmp .eq off, 3)) (ht : (pc : Int) + off = (tgt : Int)) (kt : b = true → W p l e R s m args below meth c H locs cells slots Q (F0 m tgt ls rest)) (kf : b = false → W p l e R s m args below meth c H locs cells slots Q (F0 m (pc + 3) ls rest)) : W p l e R s m args below meth c H locs cells slots Q (F0 m pc ls (.int (nI 1) :: .int (b2 b) :: rest)) := lv_icmp_eq F.1.1 F.1.2.1 hdg ht (fun h => kt (by cases b <;> revert h <;> decide)) (fun h => kf (by cases b <;> revert h <;> decide))
theorem nv_b1ne (F : Fx cx p s m args c cc nL own) {b : Bool} {off : Int} {tgt : Nat} (hdg : decode cc pc = .ok (.if_icmp .ne off, 3)) (ht : (pc : Int) + off = (tgt : Int)) (kt : b = false → W p l e R s m args below meth c H locs cells slots Q (F0 m tgt ls rest)) (kf : b = true → W p l e R s m args below meth c H locs cells slots Q (F0 m (pc + 3) ls rest)) : W p l e R s m args below meth c H locs cells slots Q (F0 m pc ls (.int (nI 1) :: .int (b2 b) :: rest)) := lv_icmp_ne F.1.1 F.1.2.1 hdg ht (fun h => kt (by cases b <;> revert h <;> decide)) (fun h => kf (by cases b <;> revert h <;> decide))
end NUM2
theorem bit_and (U j : Nat) : (U / 2 ^ j &&& 1) = if U.testBit j then 1 else 0 := by
  rw [Nat.and_one_is_mod, Nat.testBit_eq_decide_div_mod_eq]
  by_cases h : U / 2 ^ j % 2 = 1
  · simp [h]
  · simp [h]; omega
theorem bit_b2 (U j : Nat) : nI (U / 2 ^ j &&& 1) = b2 (U.testBit j) := by rw [bit_and, b2_n]
def gvI (k : Nat) (x : Int32) : Int32 := if k = 0 then x / nI 2 else if k = 1 then (if x ≤ nI 3 then nI 0 else x - nI 3) else if k = 3 then x - x / nI 2 else nI 0
end
section
/-! the lane as numbers: houses, kinds, stones, strengths, deeds, loads, who stands (bits), the hour -/
abbrev LN : Type := Nat × (Nat → Nat) × (Nat → Nat) × (Nat → Nat) × (Nat → Nat) × (Nat → Nat) × Nat × Nat
abbrev Ln (L : LN) : Nat := L.1
abbrev Lk (L : LN) : Nat → Nat := L.2.1
abbrev Ls (L : LN) : Nat → Nat := L.2.2.1
abbrev Lg (L : LN) : Nat → Nat := L.2.2.2.1
abbrev Ld (L : LN) : Nat → Nat := L.2.2.2.2.1
abbrev Ll (L : LN) : Nat → Nat := L.2.2.2.2.2.1
abbrev LU (L : LN) : Nat := L.2.2.2.2.2.2.1
abbrev Lh (L : LN) : Nat := L.2.2.2.2.2.2.2
def gv (k l : Nat) : Nat := if k = 0 then l / 2 else if k = 1 then l - 3 else if k = 3 then l - l / 2 else 0
def lst (L : LN) (h : Nat) : Bool := decide (h < Ln L) && (LU L).testBit h
def lsst (L : LN) (h : Nat) : Bool := if Ld L h = 0 then decide (0 < h) && lst L (h - 1) else if Ld L h = 1 then lst L (h + 1) else false
def lgi (L : LN) (h : Nat) : Nat := if lst L h then gv (Lk L h) (Ll L h) else 0
def lgr (L : LN) (h : Nat) : Nat := if lst L h then Ll L h - gv (Lk L h) (Ll L h) else 0
def lfrL (L : LN) (h : Nat) : Nat := if 0 < h ∧ Ld L (h - 1) = 1 then lgi L (h - 1) else 0
def lfrR (L : LN) (h : Nat) : Nat := if Ld L (h + 1) = 0 then lgi L (h + 1) else 0
def lnew (L : LN) (h : Nat) : Nat := Ls L h + lfrL L h + lfrR L h
def setl (L : LN) (f : Nat → Nat) : LN := (Ln L, Lk L, Ls L, Lg L, Ld L, f, LU L, Lh L)
def sets (L : LN) (f : Nat → Nat) : LN := (Ln L, Lk L, f, Lg L, Ld L, Ll L, LU L, Lh L)
def setd (L : LN) (f : Nat → Nat) : LN := (Ln L, Lk L, Ls L, Lg L, f, Ll L, LU L, Lh L)
def lstep (L : LN) : LN := setl L (fun h => if lst L h then lnew L h else 0)
def lfall (L : LN) (h : Nat) : Bool := lst L h && ((decide (Lk L h ≠ 2) && !(decide (Ld L h = 2) || lsst L h)) || decide (3 * Lg L h < lgr L h))
def bitsOf (P : Nat → Bool) : Nat → Nat
  | 0 => 0
  | n + 1 => bitsOf P n ||| (if P n then 2 ^ n else 0)
def hF (L : LN) : Nat := bitsOf (lfall (lstep L)) (Ln L)
def hour (L : LN) : LN := (Ln L, Lk L, Ls L, Lg L, Ld L, fun h => if (hF L).testBit h then 0 else Ll (lstep L) h, bitsOf (fun h => lst L h && !(hF L).testBit h) (Ln L), Lh L + 1)
def hrs : Nat → LN → LN
  | 0, L => L
  | n + 1, L => hour (hrs n L)
/-- houses at most 6; small numbers; who does not stand has no load; all loads together at most B -/
def lok (L : LN) (B : Nat) : Prop := Ln L ≤ 6 ∧ LU L < 2 ^ Ln L ∧ Lh L ≤ B ∧ (∀ i, i < Ln L → Lk L i ≤ 4 ∧ Ls L i ≤ 99 ∧ Lg L i ≤ 9 ∧ Ld L i ≤ 3) ∧ (∀ i, lst L i = true → Lk L i ≠ 4) ∧ (∀ i, lst L i = false → Ll L i = 0) ∧ Ll L 0 + Ll L 1 + Ll L 2 + Ll L 3 + Ll L 4 + Ll L 5 ≤ B
theorem testBit_bitsOf (P : Nat → Bool) (n h : Nat) : (bitsOf P n).testBit h = (decide (h < n) && P h) := by
  induction n with
  | zero => simp [bitsOf]
  | succ n ih =>
    simp only [bitsOf, Nat.testBit_or, ih]
    by_cases hh : h = n
    · subst hh
      cases hP : P h <;> simp [Nat.testBit_two_pow_self]
    · have h2 : (if P n = true then 2 ^ n else 0).testBit h = false := by
        split
        · exact Nat.testBit_two_pow_of_ne (fun q => hh q.symm)
        · simp
      rw [h2, Bool.or_false]
      congr 1
      simp only [decide_eq_decide]
      omega
theorem bitsOf_lt (P : Nat → Bool) (n : Nat) : bitsOf P n < 2 ^ n := by
  induction n with
  | zero => simp [bitsOf]
  | succ n ih =>
    simp only [bitsOf]
    apply Nat.or_lt_two_pow
    · exact Nat.lt_trans ih (Nat.pow_lt_pow_right (by decide) (by omega))
    · split
      · exact Nat.pow_lt_pow_right (by decide) (by omega)
      · exact Nat.two_pow_pos _
theorem pow_le64 {n : Nat} (h : n ≤ 6) : 2 ^ n ≤ 64 := by
  rcases (show n = 0 ∨ n = 1 ∨ n = 2 ∨ n = 3 ∨ n = 4 ∨ n = 5 ∨ n = 6 by omega) with rfl | rfl | rfl | rfl | rfl | rfl | rfl <;> decide
theorem lst_n {L : LN} {h : Nat} (e : lst L h = true) : h < Ln L := by
  unfold lst at e
  simp only [Bool.and_eq_true, decide_eq_true_eq] at e
  exact e.1
theorem lok_l {L : LN} {B : Nat} (hk : lok L B) (i : Nat) : Ll L i ≤ B := by
  obtain ⟨h1, -, -, -, -, h6, h7⟩ := hk
  by_cases hi : i < 6
  · rcases (show i = 0 ∨ i = 1 ∨ i = 2 ∨ i = 3 ∨ i = 4 ∨ i = 5 by omega) with rfl | rfl | rfl | rfl | rfl | rfl <;> omega
  · rw [h6 i (by
      cases q : lst L i with
      | false => rfl
      | true => exact absurd (lst_n q) (by omega))]
    omega
theorem gv_le (k l : Nat) : gv k l ≤ l := by
  unfold gv
  split
  · omega
  · split
    · omega
    · split <;> omega
theorem lok_U {L : LN} {B : Nat} (hk : lok L B) : LU L < 64 := Nat.lt_of_lt_of_le hk.2.1 (pow_le64 hk.1)
/-- the lane in the heap, its cells at b .. b+6 -/
def laneR (cx : CX) (μ : ME) (b : Nat) (L : LN) : Prop := ∃ fk fs fg fd fl fc : Nat → Int32,
  μ b = .inr (0, [.ref (xa cx (b + 1)), .ref (xa cx (b + 2)), .ref (xa cx (b + 3)), .ref (xa cx (b + 4)), .ref (xa cx (b + 5)), .ref (xa cx (b + 6)), .int (nI (Ln L)), .int (nI (LU L)), .int (nI (Lh L))]) ∧
  μ (b + 1) = .inl (xT cx 0, 6, .inl fk) ∧ μ (b + 2) = .inl (xT cx 0, 6, .inl fs) ∧ μ (b + 3) = .inl (xT cx 0, 6, .inl fg) ∧ μ (b + 4) = .inl (xT cx 0, 6, .inl fd) ∧ μ (b + 5) = .inl (xT cx 0, 6, .inl fl) ∧ μ (b + 6) = .inl (xT cx 0, 6, .inl fc) ∧
  (∀ i, i < Ln L → fk i = nI (Lk L i) ∧ fs i = nI (Ls L i) ∧ fg i = nI (Lg L i) ∧ fd i = nI (Ld L i)) ∧ (∀ i, lst L i = true → fl i = nI (Ll L i))
/-- all cells but those from b on, n of them, are as they were -/
def off (b n : Nat) (μ μ1 : ME) : Prop := ∀ i, (i < b ∨ b + n ≤ i) → μ1 i = μ i
theorem off_rf {b n : Nat} {μ : ME} : off b n μ μ := fun _ _ => rfl
theorem off_tr {b n : Nat} {μ μ1 μ2 : ME} (h1 : off b n μ μ1) (h2 : off b n μ1 μ2) : off b n μ μ2 := fun i hi => (h2 i hi).trans (h1 i hi)
theorem off_up {b n i : Nat} {μ μ1 : ME} {e : va_E} (h : off b n μ μ1) (h1 : b ≤ i) (h2 : i < b + n) : off b n μ (va_up μ1 i e) := fun j hj => (va_up_ne _ _ (by omega)).trans (h j hj)
theorem laneR_off {cx : CX} {μ μ1 : ME} {b a n : Nat} {L : LN} (h : laneR cx μ b L) (ho : off a n μ μ1) (hd : a + n ≤ b ∨ b + 7 ≤ a) : laneR cx μ1 b L := by
  obtain ⟨fk, fs, fg, fd, fl, fc, h0, h1, h2, h3, h4, h5, h6, h7, h8⟩ := h
  exact ⟨fk, fs, fg, fd, fl, fc, (ho _ (by omega)).trans h0, (ho _ (by omega)).trans h1, (ho _ (by omega)).trans h2, (ho _ (by omega)).trans h3, (ho _ (by omega)).trans h4, (ho _ (by omega)).trans h5, (ho _ (by omega)).trans h6, h7, h8⟩
end
section
set_option maxHeartbeats 4000000 in
set_option maxRecDepth 100000 in
theorem c_has {cx : CX} (hI : xI cx) (l : Launch) {μ : ME} {b : Nat} {L : LN} {B : Nat} (hb7 : b + 7 ≤ xN cx) (hL : laneR cx μ b L) (hk : lok L B) (h : Int32) : MT cx l yX0_has cX0_has 2 (some .boolean) 0 0 [.ref (xa cx b), .int h] μ (Pi cx μ (b2 (inR h (Ln L)))) := by
  refine mt_of hI (by decide) (Nat.le_of_ble_eq_true rfl) ?_
  intro p e s m below meth c ls F hr hlk hW hl
  have hx := F.1.1
  have hb := F.1.2.1
  have hts := F.1.2.2.2.2
  obtain ⟨fk, fs, fg, fd, fl, fc, h0, h1, h2, h3, h4, h5, h6, hv, hv2⟩ := id hL
  have hn6 := hk.1
  have hU := lok_U hk
  have hl : lv_has ls 2 [(0, .ref (xa cx b)), (1, .int h)] := hl
  refine lv_iload_n hx hb dX0_has_0 rfl (lv_at hl 1 rfl) ?_
  refine lv_if_lt (tgt := 16) hx hb dX0_has_1 (by decide) (fun c_1 => ?_) (fun c_1 => ?_)
  · skip
    refine lv_iconst (v := nI 0) hx hb dX0_has_16 (by decide) ?_
    exact rt_zp F hr hlk hW (by first | (rw [inR_neg (by assumption)]; rfl) | (rw [inR_ge (by omega) (by assumption)]; rfl)) rfl dX0_has_17
  · skip
    refine lv_iload_n hx hb dX0_has_4 rfl (lv_at hl 1 rfl) ?_
    refine lv_aload_n hx hb dX0_has_5 rfl (lv_at hl 0 rfl) ?_
    refine nv_get F hW (by omega) h0 rfl iX0 6 (by decide) tw_87 rfl dX0_has_6 ?_
    refine lv_icmp_ge (tgt := 16) hx hb dX0_has_9 (by decide) (fun c_2 => ?_) (fun c_2 => ?_)
    · skip
      refine lv_iconst (v := nI 0) hx hb dX0_has_16 (by decide) ?_
      exact rt_zp F hr hlk hW (by first | (rw [inR_neg (by assumption)]; rfl) | (rw [inR_ge (by omega) (by assumption)]; rfl)) rfl dX0_has_17
    · skip
      refine lv_iconst (v := nI 1) hx hb dX0_has_12 (by decide) ?_
      refine lv_goto (tgt := 17) hx hb dX0_has_13 (by decide) ?_
      exact rt_zp F hr hlk hW (by rw [inR_in (by omega) c_1 c_2]; rfl) rfl dX0_has_17

def lstI (L : LN) (h : Int32) : Bool := inR h (Ln L) && (LU L).testBit h.toNatClampNeg
theorem lstI_nI {L : LN} {j : Nat} (hj : j < 2147483648) : lstI L (nI j) = lst L j := by
  unfold lstI lst
  rw [inR_nI hj, nI_clamp hj]

set_option maxHeartbeats 4000000 in
set_option maxRecDepth 100000 in
theorem c_stands {cx : CX} (hI : xI cx) (l : Launch) {μ : ME} {b : Nat} {L : LN} {B : Nat} (hb7 : b + 7 ≤ xN cx) (hL : laneR cx μ b L) (hk : lok L B) (h : Int32) : MT cx l yX0_stands cX0_stands 2 (some .boolean) 0 0 [.ref (xa cx b), .int h] μ (Pi cx μ (b2 (lstI L h))) := by
  refine mt_of hI (by decide) (Nat.le_of_ble_eq_true rfl) ?_
  intro p e s m below meth c ls F hr hlk hW hl
  have hx := F.1.1
  have hb := F.1.2.1
  have hts := F.1.2.2.2.2
  obtain ⟨fk, fs, fg, fd, fl, fc, h0, h1, h2, h3, h4, h5, h6, hv, hv2⟩ := id hL
  have hn6 := hk.1
  have hU := lok_U hk
  have hl : lv_has ls 2 [(0, .ref (xa cx b)), (1, .int h)] := hl
  refine lv_iload_n hx hb dX0_stands_0 rfl (lv_at hl 1 rfl) ?_
  refine lv_if_lt (tgt := 28) hx hb dX0_stands_1 (by decide) (fun c_1 => ?_) (fun c_1 => ?_)
  · skip
    refine lv_iconst (v := nI 0) hx hb dX0_stands_28 (by decide) ?_
    exact rt_zp F hr hlk hW (by unfold lstI; first | (rw [inR_neg (by assumption)]; rfl) | (rw [inR_ge (by omega) (by assumption)]; rfl) | (rw [nI_clamp (by omega), c_3, Bool.and_false]; rfl)) rfl dX0_stands_29
  · skip
    refine lv_iload_n hx hb dX0_stands_4 rfl (lv_at hl 1 rfl) ?_
    refine lv_aload_n hx hb dX0_stands_5 rfl (lv_at hl 0 rfl) ?_
    refine nv_get F hW (by omega) h0 rfl iX0 6 (by decide) tw_87 rfl dX0_stands_6 ?_
    refine lv_icmp_ge (tgt := 28) hx hb dX0_stands_9 (by decide) (fun c_2 => ?_) (fun c_2 => ?_)
    · skip
      refine lv_iconst (v := nI 0) hx hb dX0_stands_28 (by decide) ?_
      exact rt_zp F hr hlk hW (by unfold lstI; first | (rw [inR_neg (by assumption)]; rfl) | (rw [inR_ge (by omega) (by assumption)]; rfl) | (rw [nI_clamp (by omega), c_3, Bool.and_false]; rfl)) rfl dX0_stands_29
    · skip
      obtain ⟨j, hj, rfl⟩ := inR_of (inR_in (n := Ln L) (by omega) c_1 c_2) (by omega)
      refine lv_aload_n hx hb dX0_stands_12 rfl (lv_at hl 0 rfl) ?_
      refine nv_get F hW (by omega) h0 rfl iX0 7 (by decide) tw_88 rfl dX0_stands_13 ?_
      refine lv_iload_n hx hb dX0_stands_16 rfl (lv_at hl 1 rfl) ?_
      refine nv_shr F (by omega) (by omega) dX0_stands_17 ?_
      refine lv_iconst (v := nI 1) hx hb dX0_stands_18 (by decide) ?_
      refine nv_and F dX0_stands_19 ?_
      refine nv_top (y := ((b2 ((LU L).testBit j)))) (bit_b2 _ _) ?_
      refine lv_iconst (v := nI 1) hx hb dX0_stands_20 (by decide) ?_
      refine nv_b1ne (tgt := 28) F dX0_stands_21 (by decide) (fun c_3 => ?_) (fun c_3 => ?_)
      · skip
        refine lv_iconst (v := nI 0) hx hb dX0_stands_28 (by decide) ?_
        exact rt_zp F hr hlk hW (by unfold lstI; first | (rw [inR_neg (by assumption)]; rfl) | (rw [inR_ge (by omega) (by assumption)]; rfl) | (rw [nI_clamp (by omega), c_3, Bool.and_false]; rfl)) rfl dX0_stands_29
      · skip
        refine lv_iconst (v := nI 1) hx hb dX0_stands_24 (by decide) ?_
        refine lv_goto (tgt := 29) hx hb dX0_stands_25 (by decide) ?_
        exact rt_zp F hr hlk hW (by rw [lstI_nI (by omega)]; unfold lst; rw [decide_eq_true hj, c_3]; rfl) rfl dX0_stands_29

set_option maxHeartbeats 4000000 in
set_option maxRecDepth 100000 in
theorem c_size {cx : CX} (hI : xI cx) (l : Launch) {μ : ME} {b : Nat} {L : LN} {B : Nat} (hb7 : b + 7 ≤ xN cx) (hL : laneR cx μ b L) (hk : lok L B) : MT cx l yX0_size cX0_size 1 (some .int) 0 0 [.ref (xa cx b)] μ (Pi cx μ (nI (Ln L))) := by
  refine mt_of hI (by decide) (Nat.le_of_ble_eq_true rfl) ?_
  intro p e s m below meth c ls F hr hlk hW hl
  have hx := F.1.1
  have hb := F.1.2.1
  have hts := F.1.2.2.2.2
  obtain ⟨fk, fs, fg, fd, fl, fc, h0, h1, h2, h3, h4, h5, h6, hv, hv2⟩ := id hL
  have hn6 := hk.1
  have hU := lok_U hk
  have hl : lv_has ls 1 [(0, .ref (xa cx b))] := hl
  refine lv_aload_n hx hb dX0_size_0 rfl (lv_at hl 0 rfl) ?_
  refine nv_get F hW (by omega) h0 rfl iX0 6 (by decide) tw_87 rfl dX0_size_1 ?_
  exact rt_ip F hr hlk hW rfl rfl dX0_size_4

set_option maxHeartbeats 4000000 in
set_option maxRecDepth 100000 in
theorem c_standingBits {cx : CX} (hI : xI cx) (l : Launch) {μ : ME} {b : Nat} {L : LN} {B : Nat} (hb7 : b + 7 ≤ xN cx) (hL : laneR cx μ b L) (hk : lok L B) : MT cx l yX0_standingBits cX0_standingBits 1 (some .int) 0 0 [.ref (xa cx b)] μ (Pi cx μ (nI (LU L))) := by
  refine mt_of hI (by decide) (Nat.le_of_ble_eq_true rfl) ?_
  intro p e s m below meth c ls F hr hlk hW hl
  have hx := F.1.1
  have hb := F.1.2.1
  have hts := F.1.2.2.2.2
  obtain ⟨fk, fs, fg, fd, fl, fc, h0, h1, h2, h3, h4, h5, h6, hv, hv2⟩ := id hL
  have hn6 := hk.1
  have hU := lok_U hk
  have hl : lv_has ls 1 [(0, .ref (xa cx b))] := hl
  refine lv_aload_n hx hb dX0_standingBits_0 rfl (lv_at hl 0 rfl) ?_
  refine nv_get F hW (by omega) h0 rfl iX0 7 (by decide) tw_88 rfl dX0_standingBits_1 ?_
  exact rt_ip F hr hlk hW rfl rfl dX0_standingBits_4

set_option maxHeartbeats 4000000 in
set_option maxRecDepth 100000 in
theorem c_hoursPassed {cx : CX} (hI : xI cx) (l : Launch) {μ : ME} {b : Nat} {L : LN} {B : Nat} (hb7 : b + 7 ≤ xN cx) (hL : laneR cx μ b L) (hk : lok L B) : MT cx l yX0_hoursPassed cX0_hoursPassed 1 (some .int) 0 0 [.ref (xa cx b)] μ (Pi cx μ (nI (Lh L))) := by
  refine mt_of hI (by decide) (Nat.le_of_ble_eq_true rfl) ?_
  intro p e s m below meth c ls F hr hlk hW hl
  have hx := F.1.1
  have hb := F.1.2.1
  have hts := F.1.2.2.2.2
  obtain ⟨fk, fs, fg, fd, fl, fc, h0, h1, h2, h3, h4, h5, h6, hv, hv2⟩ := id hL
  have hn6 := hk.1
  have hU := lok_U hk
  have hl : lv_has ls 1 [(0, .ref (xa cx b))] := hl
  refine lv_aload_n hx hb dX0_hoursPassed_0 rfl (lv_at hl 0 rfl) ?_
  refine nv_get F hW (by omega) h0 rfl iX0 8 (by decide) tw_89 rfl dX0_hoursPassed_1 ?_
  exact rt_ip F hr hlk hW rfl rfl dX0_hoursPassed_4

set_option maxHeartbeats 4000000 in
set_option maxRecDepth 100000 in
theorem c_given {cx : CX} (hI : xI cx) (l : Launch) {μ : ME} (k : Nat) (x : Int32) (hk : k ≤ 4) : MT cx l yX0_given cX0_given 2 (some .int) 0 0 [.int (nI k), .int x] μ (Pi cx μ (gvI k x)) := by
  refine mt_of hI (by decide) (Nat.le_of_ble_eq_true rfl) ?_
  intro p e s m below meth c ls F hr hlk hW hl
  have hx := F.1.1
  have hb := F.1.2.1
  have hts := F.1.2.2.2.2
  have hl : lv_has ls 2 [(0, .int (nI k)), (1, .int x)] := hl
  rcases (show k = 0 ∨ k = 1 ∨ k = 2 ∨ k = 3 ∨ k = 4 by omega) with rfl | rfl | rfl | rfl | rfl
  · skip
    refine lv_iload_n hx hb dX0_given_0 rfl (lv_at hl 0 rfl) ?_
    refine lv_tableIn (tgt := 32) hx hb dX0_given_1 (by decide) (by decide) rfl (by decide) ?_
    refine lv_iload_n hx hb dX0_given_32 rfl (lv_at hl 1 rfl) ?_
    refine lv_iconst (v := nI 2) hx hb dX0_given_33 (by decide) ?_
    refine lv_idiv hx hb dX0_given_34 (by decide) ?_
    exact rt_ip F hr hlk hW (by first | rfl | (simp [gvI, *])) rfl dX0_given_35
  · skip
    refine lv_iload_n hx hb dX0_given_0 rfl (lv_at hl 0 rfl) ?_
    refine lv_tableIn (tgt := 36) hx hb dX0_given_1 (by decide) (by decide) rfl (by decide) ?_
    refine lv_iload_n hx hb dX0_given_36 rfl (lv_at hl 1 rfl) ?_
    refine lv_iconst (v := nI 3) hx hb dX0_given_37 (by decide) ?_
    refine lv_icmp_le (tgt := 47) hx hb dX0_given_38 (by decide) (fun c_1 => ?_) (fun c_1 => ?_)
    · skip
      refine lv_iconst (v := nI 0) hx hb dX0_given_47 (by decide) ?_
      exact rt_ip F hr hlk hW (by first | rfl | (simp [gvI, *])) rfl dX0_given_48
    · skip
      refine lv_iload_n hx hb dX0_given_41 rfl (lv_at hl 1 rfl) ?_
      refine lv_iconst (v := nI 3) hx hb dX0_given_42 (by decide) ?_
      refine lv_isub hx hb dX0_given_43 ?_
      refine lv_goto (tgt := 48) hx hb dX0_given_44 (by decide) ?_
      exact rt_ip F hr hlk hW (by first | rfl | (simp [gvI, *])) rfl dX0_given_48
  · skip
    refine lv_iload_n hx hb dX0_given_0 rfl (lv_at hl 0 rfl) ?_
    refine lv_tableIn (tgt := 55) hx hb dX0_given_1 (by decide) (by decide) rfl (by decide) ?_
    refine lv_iconst (v := nI 0) hx hb dX0_given_55 (by decide) ?_
    exact rt_ip F hr hlk hW (by first | rfl | (simp [gvI, *])) rfl dX0_given_56
  · skip
    refine lv_iload_n hx hb dX0_given_0 rfl (lv_at hl 0 rfl) ?_
    refine lv_tableIn (tgt := 49) hx hb dX0_given_1 (by decide) (by decide) rfl (by decide) ?_
    refine lv_iload_n hx hb dX0_given_49 rfl (lv_at hl 1 rfl) ?_
    refine lv_iload_n hx hb dX0_given_50 rfl (lv_at hl 1 rfl) ?_
    refine lv_iconst (v := nI 2) hx hb dX0_given_51 (by decide) ?_
    refine lv_idiv hx hb dX0_given_52 (by decide) ?_
    refine lv_isub hx hb dX0_given_53 ?_
    exact rt_ip F hr hlk hW (by first | rfl | (simp [gvI, *])) rfl dX0_given_54
  · skip
    refine lv_iload_n hx hb dX0_given_0 rfl (lv_at hl 0 rfl) ?_
    refine lv_tableOut (tgt := 55) hx hb dX0_given_1 (by decide) (by decide) ?_
    refine lv_iconst (v := nI 0) hx hb dX0_given_55 (by decide) ?_
    exact rt_ip F hr hlk hW (by first | rfl | (simp [gvI, *])) rfl dX0_given_56
end
section
theorem gvI_nI {k l : Nat} (hl : l < 2147483648) : gvI k (nI l) = nI (gv k l) := by
  unfold gvI gv
  split
  · exact pk_div hl (by decide) (by decide)
  · split
    · split
      · rename_i h
        rw [nI_leI hl (by decide)] at h
        rw [show l - 3 = 0 by omega]
      · rename_i h
        rw [nI_leI hl (by decide)] at h
        exact pk_sub (by omega)
    · split
      · rw [pk_div hl (by decide) (by decide)]
        exact pk_sub (by omega)
      · rfl
theorem pow2_6 {j : Nat} (h : j < 6) : 2 ^ j ≤ 32 := by
  rcases (show j = 0 ∨ j = 1 ∨ j = 2 ∨ j = 3 ∨ j = 4 ∨ j = 5 by omega) with rfl | rfl | rfl | rfl | rfl | rfl <;> decide
theorem pow2_lt {j : Nat} (h : j < 6) : 1 * 2 ^ j < 4294967296 := by
  have := pow2_6 h
  omega
def pop (x : Nat) : Nat := x % 2 + x / 2 % 2 + x / 4 % 2 + x / 8 % 2 + x / 16 % 2 + x / 32 % 2
theorem pop_le (x : Nat) : pop x ≤ 6 := by
  unfold pop
  omega
theorem pop_0 : ∀ x, x < 64 → (pop x = 0 ↔ x = 0) := by decide +kernel
def carI (v : Int32) : Bool := decide (1 ≤ v.toInt ∧ v.toInt ≤ 9)
theorem carI_nI {v : Nat} (hv : v < 2147483648) : carI (nI v) = decide (1 ≤ v ∧ v ≤ 9) := by
  unfold carI
  rw [nI_toInt hv]
  congr 1
  apply propext
  omega
theorem carI_of {v : Int32} (h : carI v = true) : ∃ j : Nat, 1 ≤ j ∧ j ≤ 9 ∧ v = nI j := by
  have h2 := of_decide_eq_true h
  obtain ⟨j, hj, rfl⟩ := vp_in_of (x := v) (n := 10) (vp_in_iff.mpr (by omega)) (by decide)
  rw [nI_toInt (by omega)] at h2
  exact ⟨j, by omega, by omega, rfl⟩
theorem car_lo {v : Int32} (c : v < nI 1) : carI v = false := by
  rw [Int32.lt_iff_toInt_lt, nI_toInt (by decide)] at c
  apply decide_eq_false
  omega
theorem car_hi {v : Int32} (c : nI 9 < v) : carI v = false := by
  rw [Int32.lt_iff_toInt_lt, nI_toInt (by decide)] at c
  apply decide_eq_false
  omega
theorem car_in {v : Int32} (c : ¬ v < nI 1) (d : ¬ nI 9 < v) : carI v = true := by
  rw [Int32.lt_iff_toInt_lt, nI_toInt (by decide)] at c d
  apply decide_eq_true
  omega
/-- on what a house leans, as the class tells it -/
def supI (d j : Nat) : Int32 := if d = 0 then nI j - nI 1 else if d = 1 then nI (j + 1) else if d = 2 then (-2) else (-1)
theorem sup_0 : nI 0 - nI 1 = -1 := by decide
theorem inR_m1 (n : Nat) : inR (-1) n = false := by
  apply decide_eq_false
  have : (-1 : Int32).toInt = -1 := by decide
  omega
theorem inR_m2 (n : Nat) : inR (-2) n = false := by
  apply decide_eq_false
  have : (-2 : Int32).toInt = -2 := by decide
  omega
theorem sup_st {L : LN} {j : Nat} (hj : j < 2147483647) : lstI L (supI (Ld L j) j) = lsst L j := by
  unfold supI lsst
  split
  · by_cases h0 : j = 0
    · subst h0
      rw [sup_0]
      unfold lstI
      rw [inR_m1]
      rfl
    · rw [pk_sub (by omega), lstI_nI (by omega), decide_eq_true (by omega)]
      simp
  · split
    · exact lstI_nI (by omega)
    · split
      · unfold lstI
        rw [inR_m2]
        rfl
      · unfold lstI
        rw [inR_m1]
        rfl
theorem sup_monk {d j : Nat} (hd : d ≤ 3) (hj : j < 2147483647) : supI d j = -2 ↔ d = 2 := by
  unfold supI
  split
  · by_cases h0 : j = 0
    · subst h0
      rw [sup_0]
      constructor
      · intro h; exact absurd h (by decide)
      · intro h; omega
    · rw [pk_sub (by omega)]
      constructor
      · intro h
        have := congrArg Int32.toInt h
        rw [nI_toInt (by omega)] at this
        have e : (-2 : Int32).toInt = -2 := by decide
        omega
      · intro h; omega
  · split
    · constructor
      · intro h
        have := congrArg Int32.toInt h
        rw [nI_toInt (by omega)] at this
        have e : (-2 : Int32).toInt = -2 := by decide
        omega
      · intro h; omega
    · split
      · constructor
        · intro _; assumption
        · intro _; rfl
      · constructor
        · intro h; exact absurd h (by decide)
        · intro h; omega
/-- loads that have come from the first i houses -/
def lpart (L : LN) (i t : Nat) : Nat := Ls L t + (if t - 1 < i ∧ 0 < t ∧ lst L t = true ∧ Ld L (t - 1) = 1 then lgi L (t - 1) else 0) + (if t + 1 < i ∧ lst L t = true ∧ Ld L (t + 1) = 0 then lgi L (t + 1) else 0)
theorem lpart_0 (L : LN) (t : Nat) : lpart L 0 t = Ls L t := by
  unfold lpart
  rw [if_neg (by omega), if_neg (by omega)]
  rfl
theorem lpart_n {L : LN} {t : Nat} (ht : lst L t = true) : lpart L (Ln L) t = lnew L t := by
  have h1 := lst_n ht
  unfold lpart lnew lfrL lfrR
  congr 1
  · congr 1
    by_cases h : 0 < t ∧ Ld L (t - 1) = 1
    · rw [if_pos ⟨by omega, h.1, ht, h.2⟩, if_pos h]
    · rw [if_neg (fun q => h ⟨q.2.1, q.2.2.2⟩), if_neg h]
  · by_cases h : Ld L (t + 1) = 0
    · rw [if_pos h]
      by_cases h2 : t + 1 < Ln L
      · rw [if_pos ⟨h2, ht, h⟩]
      · rw [if_neg (fun q => h2 q.1)]
        unfold lgi
        rw [if_neg]
        intro q
        exact h2 (lst_n q)
    · rw [if_neg h, if_neg (fun q => h q.2.2)]
theorem lpart_stay {L : LN} {i : Nat} (h : lst L i = false ∨ lsst L i = false) (t : Nat) : lpart L (i + 1) t = lpart L i t := by
  unfold lpart
  congr 1
  · congr 1
    by_cases c : t - 1 < i ∧ 0 < t ∧ lst L t = true ∧ Ld L (t - 1) = 1
    · rw [if_pos c, if_pos ⟨by omega, c.2⟩]
    · rw [if_neg c]
      by_cases c2 : t - 1 < i + 1 ∧ 0 < t ∧ lst L t = true ∧ Ld L (t - 1) = 1
      · rw [if_pos c2]
        have e : t - 1 = i := by
          by_cases q : t - 1 < i
          · exact absurd ⟨q, c2.2⟩ c
          · omega
        rw [e]
        rcases h with h | h
        · unfold lgi; rw [h]; rfl
        · exfalso
          unfold lsst at h
          have hd : Ld L i = 1 := by rw [← e]; exact c2.2.2.2
          rw [if_neg (by omega), if_pos hd, show i + 1 = t by omega, c2.2.2.1] at h
          cases h
      · rw [if_neg c2]
  · by_cases c : t + 1 < i ∧ lst L t = true ∧ Ld L (t + 1) = 0
    · rw [if_pos c, if_pos ⟨by omega, c.2⟩]
    · rw [if_neg c]
      by_cases c2 : t + 1 < i + 1 ∧ lst L t = true ∧ Ld L (t + 1) = 0
      · rw [if_pos c2]
        have e : t + 1 = i := by
          by_cases q : t + 1 < i
          · exact absurd ⟨q, c2.2⟩ c
          · omega
        rw [e]
        rcases h with h | h
        · unfold lgi; rw [h]; rfl
        · exfalso
          unfold lsst at h
          have hd : Ld L i = 0 := by rw [← e]; exact c2.2.2
          rw [if_pos hd, show i - 1 = t by omega, c2.2.1, decide_eq_true (by omega)] at h
          cases h
      · rw [if_neg c2]
theorem lpart_go {L : LN} {i t : Nat} (hi : lst L i = true) (ht : lst L t = true) (hs : supI (Ld L i) i = nI t) (h31 : i < 2147483646) (h32 : t < 2147483646) (hd : Ld L i ≤ 3) (q : Nat) : lpart L (i + 1) q = if q = t then lpart L i t + gv (Lk L i) (Ll L i) else lpart L i q := by
  have hg : lgi L i = gv (Lk L i) (Ll L i) := by unfold lgi; rw [if_pos hi]
  have key : (Ld L i = 0 ∧ i = t + 1) ∨ (Ld L i = 1 ∧ t = i + 1) := by
    unfold supI at hs
    split at hs
    · left
      by_cases h0 : i = 0
      · subst h0
        rw [sup_0] at hs
        have := congrArg Int32.toInt hs
        rw [nI_toInt (by omega)] at this
        have e : (-1 : Int32).toInt = -1 := by decide
        omega
      · rw [pk_sub (by omega), nI_eq (by omega) (by omega)] at hs
        exact ⟨by assumption, by omega⟩
    · split at hs
      · right
        rw [nI_eq (by omega) (by omega)] at hs
        exact ⟨by assumption, by omega⟩
      · exfalso
        split at hs
        · have := congrArg Int32.toInt hs
          rw [nI_toInt (by omega)] at this
          have e : (-2 : Int32).toInt = -2 := by decide
          omega
        · have := congrArg Int32.toInt hs
          rw [nI_toInt (by omega)] at this
          have e : (-1 : Int32).toInt = -1 := by decide
          omega
  by_cases hq : q = t
  · subst hq
    rw [if_pos rfl]
    unfold lpart
    rcases key with ⟨k1, k2⟩ | ⟨k1, k2⟩
    · subst k2
      rw [if_pos (c := q + 1 < q + 1 + 1 ∧ lst L q = true ∧ Ld L (q + 1) = 0) ⟨by omega, ht, k1⟩, if_neg (c := q + 1 < q + 1 ∧ lst L q = true ∧ Ld L (q + 1) = 0) (by omega), hg]
      by_cases c : 0 < q ∧ Ld L (q - 1) = 1
      · rw [if_pos ⟨by omega, c.1, ht, c.2⟩, if_pos ⟨by omega, c.1, ht, c.2⟩]
        omega
      · rw [if_neg (fun z => c ⟨z.2.1, z.2.2.2⟩), if_neg (fun z => c ⟨z.2.1, z.2.2.2⟩)]
        all_goals omega
    · subst k2
      rw [if_pos (c := i + 1 - 1 < i + 1 ∧ 0 < i + 1 ∧ lst L (i + 1) = true ∧ Ld L (i + 1 - 1) = 1) ⟨by omega, by omega, ht, by rw [Nat.add_sub_cancel]; exact k1⟩, if_neg (c := i + 1 - 1 < i ∧ 0 < i + 1 ∧ lst L (i + 1) = true ∧ Ld L (i + 1 - 1) = 1) (by omega), Nat.add_sub_cancel, hg, if_neg (by omega), if_neg (by omega)]
      omega
  · rw [if_neg hq]
    unfold lpart
    congr 1
    · congr 1
      by_cases c : t + 1 = q ∧ False
      · exact c.2.elim
      · by_cases e : q - 1 = i ∧ 0 < q
        · have hdn : ¬ Ld L (q - 1) = 1 := by
            rw [e.1]
            intro z
            rcases key with ⟨k1, k2⟩ | ⟨k1, k2⟩
            · omega
            · exact hq (by omega)
          rw [if_neg (fun z => hdn z.2.2.2), if_neg (fun z => hdn z.2.2.2)]
        · by_cases e2 : q - 1 < i ∧ 0 < q ∧ lst L q = true ∧ Ld L (q - 1) = 1
          · rw [if_pos e2, if_pos ⟨by omega, e2.2⟩]
          · rw [if_neg e2, if_neg (fun z => e2 ⟨by have := z.1; have := z.2.1; omega, z.2⟩)]
    · by_cases e : q + 1 = i
      · have hdn : ¬ Ld L (q + 1) = 0 := by
          rw [e]
          intro z
          rcases key with ⟨k1, k2⟩ | ⟨k1, k2⟩
          · exact hq (by omega)
          · omega
        rw [if_neg (fun z => hdn z.2.2), if_neg (fun z => hdn z.2.2)]
      · by_cases e2 : q + 1 < i ∧ lst L q = true ∧ Ld L (q + 1) = 0
        · rw [if_pos e2, if_pos ⟨by omega, e2.2⟩]
        · rw [if_neg e2, if_neg (fun z => e2 ⟨by have := z.1; omega, z.2⟩)]
theorem lst_setl (L : LN) (f : Nat → Nat) : lst (setl L f) = lst L := rfl
theorem lgi_le (L : LN) (h : Nat) : lgi L h ≤ Ll L h := by
  unfold lgi
  split
  · exact gv_le _ _
  · omega
theorem lsum_new {L : LN} (hn : Ln L ≤ 6) (hs : ∀ i, i < Ln L → Ls L i ≤ 99) : Ll (lstep L) 0 + Ll (lstep L) 1 + Ll (lstep L) 2 + Ll (lstep L) 3 + Ll (lstep L) 4 + Ll (lstep L) 5 ≤ Ll L 0 + Ll L 1 + Ll L 2 + Ll L 3 + Ll L 4 + Ll L 5 + 594 := by
  have hb : ∀ h, Ll (lstep L) h ≤ 99 + lfrL L h + lfrR L h := by
    intro h
    show (if lst L h = true then lnew L h else 0) ≤ _
    split
    · rename_i q
      have := hs h (lst_n q)
      unfold lnew
      omega
    · omega
  have key : ∀ e, lfrL L (e + 1) + (if 0 < e then lfrR L (e - 1) else 0) ≤ Ll L e := by
    intro e
    have h1 : lfrL L (e + 1) = if Ld L e = 1 then lgi L e else 0 := by
      unfold lfrL
      simp
    have h2 : (if 0 < e then lfrR L (e - 1) else 0) ≤ if Ld L e = 0 then lgi L e else 0 := by
      split
      · unfold lfrR
        rw [show e - 1 + 1 = e by omega]
        exact Nat.le_refl _
      · omega
    rw [h1]
    have := lgi_le L e
    by_cases d0 : Ld L e = 0
    · rw [if_neg (by omega)]
      rw [if_pos d0] at h2
      omega
    · rw [if_neg d0] at h2
      split <;> omega
  have z0 : lfrL L 0 = 0 := by unfold lfrL; simp
  have z5 : lfrR L 5 = 0 := by
    unfold lfrR lgi
    have : lst L 6 = false := by
      cases q : lst L 6 with
      | false => rfl
      | true => exact absurd (lst_n q) (by omega)
    rw [this]
    simp
  have k0 := key 0
  have k1 := key 1
  have k2 := key 2
  have k3 := key 3
  have k4 := key 4
  have k5 := key 5
  have b0 := hb 0
  have b1 := hb 1
  have b2 := hb 2
  have b3 := hb 3
  have b4 := hb 4
  have b5 := hb 5
  simp at k0 k1 k2 k3 k4 k5
  omega
theorem lok_step {L : LN} {B : Nat} (h : lok L B) : lok (lstep L) (B + 600) := by
  obtain ⟨h1, h2, h3, h4, h5, h6, h7⟩ := h
  refine ⟨h1, h2, by show Lh L ≤ _; omega, h4, h5, fun i hi => ?_, ?_⟩
  · show (if lst L i = true then lnew L i else 0) = 0
    rw [if_neg]
    rw [show lst L i = false from hi]
    decide
  · have := lsum_new h1 (fun i hi => (h4 i hi).2.1)
    omega
theorem lst_hour {L : LN} (i : Nat) : lst (hour L) i = (lst L i && !(hF L).testBit i) := by
  show (decide (i < Ln L) && (bitsOf _ (Ln L)).testBit i) = _
  rw [testBit_bitsOf]
  by_cases h : i < Ln L
  · simp [h]
  · have : lst L i = false := by
      cases q : lst L i with
      | false => rfl
      | true => exact absurd (lst_n q) h
    simp [h, this]
theorem lok_hour {L : LN} {B : Nat} (h : lok L B) : lok (hour L) (B + 600) := by
  have hs := lok_step h
  obtain ⟨h1, h2, h3, h4, h5, h6, h7⟩ := h
  refine ⟨h1, bitsOf_lt _ _, by show Lh L + 1 ≤ _; omega, h4, fun i hi => ?_, fun i hi => ?_, ?_⟩
  · rw [lst_hour] at hi
    simp only [Bool.and_eq_true] at hi
    exact h5 i hi.1
  · rw [lst_hour] at hi
    show (if (hF L).testBit i = true then 0 else Ll (lstep L) i) = 0
    cases q : (hF L).testBit i with
    | true => rfl
    | false =>
      rw [q] at hi
      rw [if_neg (by decide)]
      exact hs.2.2.2.2.2.1 i (show lst L i = false by simpa using hi)
  · have e : ∀ i, Ll (hour L) i ≤ Ll (lstep L) i := by
      intro i
      show (if (hF L).testBit i = true then 0 else Ll (lstep L) i) ≤ _
      split <;> omega
    have := hs.2.2.2.2.2.2
    have e0 := e 0
    have e1 := e 1
    have e2 := e 2
    have e3 := e 3
    have e4 := e 4
    have e5 := e 5
    omega
theorem lok_hrs {L : LN} {B : Nat} (h : lok L B) (n : Nat) : lok (hrs n L) (B + 600 * n) := by
  induction n with
  | zero => exact h
  | succ n ih =>
    have := lok_hour ih
    rw [show B + 600 * (n + 1) = B + 600 * n + 600 by omega]
    exact this
theorem hF_lt {L : LN} (hn : Ln L ≤ 6) : hF L < 64 := Nat.lt_of_lt_of_le (bitsOf_lt _ _) (pow_le64 hn)
def calm : Nat → LN → Bool
  | 0, _ => true
  | n + 1, L => calm n L && decide (hF (hrs n L) = 0)
theorem calm_f {L : LN} {i n : Nat} (h : calm i L = false) (hi : i ≤ n) : calm n L = false := by
  induction n with
  | zero => rw [show i = 0 by omega] at h; exact h
  | succ n ih =>
    by_cases e : i = n + 1
    · rw [← e]; exact h
    · show (calm n L && _) = false
      rw [ih (by omega)]
      rfl
theorem lok_mono {L : LN} {B C : Nat} (h : lok L B) (hBC : B ≤ C) : lok L C := by
  obtain ⟨h1, h2, h3, h4, h5, h6, h7⟩ := h
  exact ⟨h1, h2, by omega, h4, h5, h6, by omega⟩
theorem andnot : ∀ a, a < 64 → ∀ b, b < 64 → nI a &&& (nI b ^^^ (-1)) = nI (bitsOf (fun h => a.testBit h && !b.testBit h) 6) := by decide +kernel
theorem bitsOf_n {P : Nat → Bool} {n : Nat} (hn : n ≤ 6) (h : ∀ i, n ≤ i → P i = false) : bitsOf P 6 = bitsOf P n := by
  apply Nat.eq_of_testBit_eq
  intro i
  rw [testBit_bitsOf, testBit_bitsOf]
  by_cases hi : i < n
  · rw [decide_eq_true hi, decide_eq_true (show i < 6 by omega)]
  · rw [h i (by omega)]
    simp
end
section
theorem b2_t {p : Prop} [Decidable p] (h : p) : nI 1 = b2 (decide p) := by rw [decide_eq_true h]; rfl
theorem b2_f {p : Prop} [Decidable p] (h : ¬ p) : nI 0 = b2 (decide p) := by rw [decide_eq_false h]; rfl

theorem c_hasN {cx : CX} (hI : xI cx) (l : Launch) {μ : ME} {b : Nat} {L : LN} {B : Nat} (hb7 : b + 7 ≤ xN cx) (hL : laneR cx μ b L) (hk : lok L B) (j : Nat) (hj : j < 2147483648) : MT cx l yX0_has cX0_has 2 (some .boolean) 0 0 [.ref (xa cx b), .int (nI j)] μ (Pi cx μ (b2 (decide (j < Ln L)))) := by
  rw [← inR_nI hj]
  exact c_has hI l hb7 hL hk (nI j)
theorem c_standsN {cx : CX} (hI : xI cx) (l : Launch) {μ : ME} {b : Nat} {L : LN} {B : Nat} (hb7 : b + 7 ≤ xN cx) (hL : laneR cx μ b L) (hk : lok L B) (j : Nat) (hj : j < 2147483648) : MT cx l yX0_stands cX0_stands 2 (some .boolean) 0 0 [.ref (xa cx b), .int (nI j)] μ (Pi cx μ (b2 (lst L j))) := by
  rw [← lstI_nI hj]
  exact c_stands hI l hb7 hL hk (nI j)

set_option maxHeartbeats 4000000 in
set_option maxRecDepth 100000 in
theorem c_kindOf {cx : CX} (hI : xI cx) (l : Launch) {μ : ME} {b : Nat} {L : LN} {B : Nat} (hb7 : b + 7 ≤ xN cx) (hL : laneR cx μ b L) (hk : lok L B) (j : Nat) (hj : j < Ln L) : MT cx l yX0_kindOf cX0_kindOf 2 (some .int) 1 21 [.ref (xa cx b), .int (nI j)] μ (Pi cx μ (nI (Lk L j))) := by
  refine mt_of hI (by decide) (Nat.le_of_ble_eq_true rfl) ?_
  intro p e s m below meth c ls F hr hlk hW hl
  have hx := F.1.1
  have hb := F.1.2.1
  have hts := F.1.2.2.2.2
  obtain ⟨fk, fs, fg, fd, fl, fc, h0, h1, h2, h3, h4, h5, h6, hv, hv2⟩ := id hL
  have hn6 := hk.1
  have hU := lok_U hk
  have hk4 := hk.2.2.2.1
  have hl : lv_has ls 2 [(0, .ref (xa cx b)), (1, .int (nI j))] := hl
  refine lv_aload_n hx hb dX0_kindOf_0 rfl (lv_at hl 0 rfl) ?_
  refine lv_iload_n hx hb dX0_kindOf_1 rfl (lv_at hl 1 rfl) ?_
  refine cl_ip (cl_run (rest := []) F hW e_X0_63 (c_hasN hI l hb7 hL hk j (by omega)) ⟨Nat.le_of_ble_eq_true rfl, Nat.le_of_ble_eq_true rfl⟩ (by omega) h0 rfl rfl rfl hl (Nat.le_of_ble_eq_true rfl) dX0_kindOf_2 ⟨Nat.zero_le _, Nat.zero_le _⟩) hW (fun H locs hW => ?_)
  refine nv_beq (tgt := 17) F dX0_kindOf_5 (by decide) (fun c_1 => ?_) (fun c_1 => ?_)
  · skip
    exact absurd hj (of_decide_eq_false c_1)
  · skip
    refine lv_aload_n hx hb dX0_kindOf_8 rfl (lv_at hl 0 rfl) ?_
    refine nv_get F hW (by omega) h0 rfl iX0 0 (by decide) tw_81 rfl dX0_kindOf_9 ?_
    refine lv_iload_n hx hb dX0_kindOf_12 rfl (lv_at hl 1 rfl) ?_
    refine nv_ialdN (x := ((nI (Lk L j)))) F hW (by omega) h1 (by omega) (by decide) (hv j (by omega)).1 dX0_kindOf_13 ?_
    refine lv_goto (tgt := 19) hx hb dX0_kindOf_14 (by decide) ?_
    exact rt_ip F hr hlk hW rfl rfl dX0_kindOf_19

set_option maxHeartbeats 4000000 in
set_option maxRecDepth 100000 in
theorem c_stonesOf {cx : CX} (hI : xI cx) (l : Launch) {μ : ME} {b : Nat} {L : LN} {B : Nat} (hb7 : b + 7 ≤ xN cx) (hL : laneR cx μ b L) (hk : lok L B) (j : Nat) (hj : j < Ln L) : MT cx l yX0_stonesOf cX0_stonesOf 2 (some .int) 1 21 [.ref (xa cx b), .int (nI j)] μ (Pi cx μ (nI (Ls L j))) := by
  refine mt_of hI (by decide) (Nat.le_of_ble_eq_true rfl) ?_
  intro p e s m below meth c ls F hr hlk hW hl
  have hx := F.1.1
  have hb := F.1.2.1
  have hts := F.1.2.2.2.2
  obtain ⟨fk, fs, fg, fd, fl, fc, h0, h1, h2, h3, h4, h5, h6, hv, hv2⟩ := id hL
  have hn6 := hk.1
  have hU := lok_U hk
  have hk4 := hk.2.2.2.1
  have hl : lv_has ls 2 [(0, .ref (xa cx b)), (1, .int (nI j))] := hl
  refine lv_aload_n hx hb dX0_stonesOf_0 rfl (lv_at hl 0 rfl) ?_
  refine lv_iload_n hx hb dX0_stonesOf_1 rfl (lv_at hl 1 rfl) ?_
  refine cl_ip (cl_run (rest := []) F hW e_X0_63 (c_hasN hI l hb7 hL hk j (by omega)) ⟨Nat.le_of_ble_eq_true rfl, Nat.le_of_ble_eq_true rfl⟩ (by omega) h0 rfl rfl rfl hl (Nat.le_of_ble_eq_true rfl) dX0_stonesOf_2 ⟨Nat.zero_le _, Nat.zero_le _⟩) hW (fun H locs hW => ?_)
  refine nv_beq (tgt := 17) F dX0_stonesOf_5 (by decide) (fun c_1 => ?_) (fun c_1 => ?_)
  · skip
    exact absurd hj (of_decide_eq_false c_1)
  · skip
    refine lv_aload_n hx hb dX0_stonesOf_8 rfl (lv_at hl 0 rfl) ?_
    refine nv_get F hW (by omega) h0 rfl iX0 1 (by decide) tw_82 rfl dX0_stonesOf_9 ?_
    refine lv_iload_n hx hb dX0_stonesOf_12 rfl (lv_at hl 1 rfl) ?_
    refine nv_ialdN (x := ((nI (Ls L j)))) F hW (by omega) h2 (by omega) (by decide) (hv j (by omega)).2.1 dX0_stonesOf_13 ?_
    refine lv_goto (tgt := 18) hx hb dX0_stonesOf_14 (by decide) ?_
    exact rt_ip F hr hlk hW rfl rfl dX0_stonesOf_18

set_option maxHeartbeats 4000000 in
set_option maxRecDepth 100000 in
theorem c_strengthOf {cx : CX} (hI : xI cx) (l : Launch) {μ : ME} {b : Nat} {L : LN} {B : Nat} (hb7 : b + 7 ≤ xN cx) (hL : laneR cx μ b L) (hk : lok L B) (j : Nat) (hj : j < Ln L) : MT cx l yX0_strengthOf cX0_strengthOf 2 (some .int) 1 21 [.ref (xa cx b), .int (nI j)] μ (Pi cx μ (nI (Lg L j))) := by
  refine mt_of hI (by decide) (Nat.le_of_ble_eq_true rfl) ?_
  intro p e s m below meth c ls F hr hlk hW hl
  have hx := F.1.1
  have hb := F.1.2.1
  have hts := F.1.2.2.2.2
  obtain ⟨fk, fs, fg, fd, fl, fc, h0, h1, h2, h3, h4, h5, h6, hv, hv2⟩ := id hL
  have hn6 := hk.1
  have hU := lok_U hk
  have hk4 := hk.2.2.2.1
  have hl : lv_has ls 2 [(0, .ref (xa cx b)), (1, .int (nI j))] := hl
  refine lv_aload_n hx hb dX0_strengthOf_0 rfl (lv_at hl 0 rfl) ?_
  refine lv_iload_n hx hb dX0_strengthOf_1 rfl (lv_at hl 1 rfl) ?_
  refine cl_ip (cl_run (rest := []) F hW e_X0_63 (c_hasN hI l hb7 hL hk j (by omega)) ⟨Nat.le_of_ble_eq_true rfl, Nat.le_of_ble_eq_true rfl⟩ (by omega) h0 rfl rfl rfl hl (Nat.le_of_ble_eq_true rfl) dX0_strengthOf_2 ⟨Nat.zero_le _, Nat.zero_le _⟩) hW (fun H locs hW => ?_)
  refine nv_beq (tgt := 17) F dX0_strengthOf_5 (by decide) (fun c_1 => ?_) (fun c_1 => ?_)
  · skip
    exact absurd hj (of_decide_eq_false c_1)
  · skip
    refine lv_aload_n hx hb dX0_strengthOf_8 rfl (lv_at hl 0 rfl) ?_
    refine nv_get F hW (by omega) h0 rfl iX0 2 (by decide) tw_83 rfl dX0_strengthOf_9 ?_
    refine lv_iload_n hx hb dX0_strengthOf_12 rfl (lv_at hl 1 rfl) ?_
    refine nv_ialdN (x := ((nI (Lg L j)))) F hW (by omega) h3 (by omega) (by decide) (hv j (by omega)).2.2.1 dX0_strengthOf_13 ?_
    refine lv_goto (tgt := 18) hx hb dX0_strengthOf_14 (by decide) ?_
    exact rt_ip F hr hlk hW rfl rfl dX0_strengthOf_18

set_option maxHeartbeats 4000000 in
set_option maxRecDepth 100000 in
theorem c_deedOf {cx : CX} (hI : xI cx) (l : Launch) {μ : ME} {b : Nat} {L : LN} {B : Nat} (hb7 : b + 7 ≤ xN cx) (hL : laneR cx μ b L) (hk : lok L B) (j : Nat) (hj : j < Ln L) : MT cx l yX0_deedOf cX0_deedOf 2 (some .int) 1 21 [.ref (xa cx b), .int (nI j)] μ (Pi cx μ (nI (Ld L j))) := by
  refine mt_of hI (by decide) (Nat.le_of_ble_eq_true rfl) ?_
  intro p e s m below meth c ls F hr hlk hW hl
  have hx := F.1.1
  have hb := F.1.2.1
  have hts := F.1.2.2.2.2
  obtain ⟨fk, fs, fg, fd, fl, fc, h0, h1, h2, h3, h4, h5, h6, hv, hv2⟩ := id hL
  have hn6 := hk.1
  have hU := lok_U hk
  have hk4 := hk.2.2.2.1
  have hl : lv_has ls 2 [(0, .ref (xa cx b)), (1, .int (nI j))] := hl
  refine lv_aload_n hx hb dX0_deedOf_0 rfl (lv_at hl 0 rfl) ?_
  refine lv_iload_n hx hb dX0_deedOf_1 rfl (lv_at hl 1 rfl) ?_
  refine cl_ip (cl_run (rest := []) F hW e_X0_63 (c_hasN hI l hb7 hL hk j (by omega)) ⟨Nat.le_of_ble_eq_true rfl, Nat.le_of_ble_eq_true rfl⟩ (by omega) h0 rfl rfl rfl hl (Nat.le_of_ble_eq_true rfl) dX0_deedOf_2 ⟨Nat.zero_le _, Nat.zero_le _⟩) hW (fun H locs hW => ?_)
  refine nv_beq (tgt := 17) F dX0_deedOf_5 (by decide) (fun c_1 => ?_) (fun c_1 => ?_)
  · skip
    exact absurd hj (of_decide_eq_false c_1)
  · skip
    refine lv_aload_n hx hb dX0_deedOf_8 rfl (lv_at hl 0 rfl) ?_
    refine nv_get F hW (by omega) h0 rfl iX0 3 (by decide) tw_84 rfl dX0_deedOf_9 ?_
    refine lv_iload_n hx hb dX0_deedOf_12 rfl (lv_at hl 1 rfl) ?_
    refine nv_ialdN (x := ((nI (Ld L j)))) F hW (by omega) h4 (by omega) (by decide) (hv j (by omega)).2.2.2 dX0_deedOf_13 ?_
    refine lv_goto (tgt := 18) hx hb dX0_deedOf_14 (by decide) ?_
    exact rt_ip F hr hlk hW rfl rfl dX0_deedOf_18

set_option maxHeartbeats 4000000 in
set_option maxRecDepth 100000 in
theorem c_loadOf {cx : CX} (hI : xI cx) (l : Launch) {μ : ME} {b : Nat} {L : LN} {B : Nat} (hb7 : b + 7 ≤ xN cx) (hL : laneR cx μ b L) (hk : lok L B) (j : Nat) (hj : j < Ln L) : MT cx l yX0_loadOf cX0_loadOf 2 (some .int) 1 21 [.ref (xa cx b), .int (nI j)] μ (Pi cx μ (nI (Ll L j))) := by
  refine mt_of hI (by decide) (Nat.le_of_ble_eq_true rfl) ?_
  intro p e s m below meth c ls F hr hlk hW hl
  have hx := F.1.1
  have hb := F.1.2.1
  have hts := F.1.2.2.2.2
  obtain ⟨fk, fs, fg, fd, fl, fc, h0, h1, h2, h3, h4, h5, h6, hv, hv2⟩ := id hL
  have hn6 := hk.1
  have hU := lok_U hk
  have hk4 := hk.2.2.2.1
  have hl : lv_has ls 2 [(0, .ref (xa cx b)), (1, .int (nI j))] := hl
  refine lv_aload_n hx hb dX0_loadOf_0 rfl (lv_at hl 0 rfl) ?_
  refine lv_iload_n hx hb dX0_loadOf_1 rfl (lv_at hl 1 rfl) ?_
  refine cl_ip (cl_run (rest := []) F hW e_X0_67 (c_standsN hI l hb7 hL hk j (by omega)) ⟨Nat.le_of_ble_eq_true rfl, Nat.le_of_ble_eq_true rfl⟩ (by omega) h0 rfl rfl rfl hl (Nat.le_of_ble_eq_true rfl) dX0_loadOf_2 ⟨Nat.zero_le _, Nat.zero_le _⟩) hW (fun H locs hW => ?_)
  refine nv_beq (tgt := 17) F dX0_loadOf_5 (by decide) (fun c_1 => ?_) (fun c_1 => ?_)
  · skip
    refine lv_iconst (v := nI 0) hx hb dX0_loadOf_17 (by decide) ?_
    exact rt_ip F hr hlk hW (by rw [hk.2.2.2.2.2.1 j c_1]) rfl dX0_loadOf_18
  · skip
    refine lv_aload_n hx hb dX0_loadOf_8 rfl (lv_at hl 0 rfl) ?_
    refine nv_get F hW (by omega) h0 rfl iX0 4 (by decide) tw_85 rfl dX0_loadOf_9 ?_
    refine lv_iload_n hx hb dX0_loadOf_12 rfl (lv_at hl 1 rfl) ?_
    refine nv_ialdN (x := ((nI (Ll L j)))) F hW (by omega) h5 (by omega) (by decide) (hv2 j c_1) dX0_loadOf_13 ?_
    refine lv_goto (tgt := 18) hx hb dX0_loadOf_14 (by decide) ?_
    exact rt_ip F hr hlk hW rfl rfl dX0_loadOf_18

set_option maxHeartbeats 4000000 in
set_option maxRecDepth 100000 in
theorem c_givesOf {cx : CX} (hI : xI cx) (l : Launch) {μ : ME} {b : Nat} {L : LN} {B : Nat} (hb7 : b + 7 ≤ xN cx) (hL : laneR cx μ b L) (hk : lok L B) (hB : B < 1000000000) (j : Nat) (hj : j < Ln L) : MT cx l yX0_givesOf cX0_givesOf 2 (some .int) 1 21 [.ref (xa cx b), .int (nI j)] μ (Pi cx μ (nI (lgi L j))) := by
  refine mt_of hI (by decide) (Nat.le_of_ble_eq_true rfl) ?_
  intro p e s m below meth c ls F hr hlk hW hl
  have hx := F.1.1
  have hb := F.1.2.1
  have hts := F.1.2.2.2.2
  obtain ⟨fk, fs, fg, fd, fl, fc, h0, h1, h2, h3, h4, h5, h6, hv, hv2⟩ := id hL
  have hn6 := hk.1
  have hU := lok_U hk
  have hk4 := hk.2.2.2.1
  have hl : lv_has ls 2 [(0, .ref (xa cx b)), (1, .int (nI j))] := hl
  refine lv_aload_n hx hb dX0_givesOf_0 rfl (lv_at hl 0 rfl) ?_
  refine lv_iload_n hx hb dX0_givesOf_1 rfl (lv_at hl 1 rfl) ?_
  refine cl_ip (cl_run (rest := []) F hW e_X0_67 (c_standsN hI l hb7 hL hk j (by omega)) ⟨Nat.le_of_ble_eq_true rfl, Nat.le_of_ble_eq_true rfl⟩ (by omega) h0 rfl rfl rfl hl (Nat.le_of_ble_eq_true rfl) dX0_givesOf_2 ⟨Nat.zero_le _, Nat.zero_le _⟩) hW (fun H locs hW => ?_)
  refine nv_beq (tgt := 26) F dX0_givesOf_5 (by decide) (fun c_1 => ?_) (fun c_1 => ?_)
  · skip
    refine lv_iconst (v := nI 0) hx hb dX0_givesOf_26 (by decide) ?_
    exact rt_ip F hr hlk hW (by unfold lgi; rw [c_1]; rfl) rfl dX0_givesOf_27
  · skip
    refine lv_aload_n hx hb dX0_givesOf_8 rfl (lv_at hl 0 rfl) ?_
    refine nv_get F hW (by omega) h0 rfl iX0 0 (by decide) tw_81 rfl dX0_givesOf_9 ?_
    refine lv_iload_n hx hb dX0_givesOf_12 rfl (lv_at hl 1 rfl) ?_
    refine nv_ialdN (x := ((nI (Lk L j)))) F hW (by omega) h1 (by omega) (by decide) (hv j (by omega)).1 dX0_givesOf_13 ?_
    refine lv_aload_n hx hb dX0_givesOf_14 rfl (lv_at hl 0 rfl) ?_
    refine nv_get F hW (by omega) h0 rfl iX0 4 (by decide) tw_85 rfl dX0_givesOf_15 ?_
    refine lv_iload_n hx hb dX0_givesOf_18 rfl (lv_at hl 1 rfl) ?_
    refine nv_ialdN (x := ((nI (Ll L j)))) F hW (by omega) h5 (by omega) (by decide) (hv2 j c_1) dX0_givesOf_19 ?_
    refine cl_ip (cl_runS (rest := []) F hW e_X0_70 (c_given hI l (Lk L j) ((nI (Ll L j))) (hk4 _ (by omega)).1) ⟨Nat.le_of_ble_eq_true rfl, Nat.le_of_ble_eq_true rfl⟩ rfl rfl hl (Nat.le_of_ble_eq_true rfl) dX0_givesOf_20 ⟨Nat.zero_le _, Nat.zero_le _⟩) hW (fun H locs hW => ?_)
    refine nv_top (y := ((nI (gv (Lk L j) (Ll L j))))) (gvI_nI (by have := lok_l hk j; omega)) ?_
    refine lv_goto (tgt := 27) hx hb dX0_givesOf_23 (by decide) ?_
    exact rt_ip F hr hlk hW (by unfold lgi; rw [c_1]; rfl) rfl dX0_givesOf_27

theorem lgr_eq {L : LN} {B : Nat} (hk : lok L B) {j : Nat} : lgr L j = Ll L j - lgi L j := by
  unfold lgr lgi
  cases q : lst L j with
  | true => rfl
  | false => rw [hk.2.2.2.2.2.1 j q]; rfl

set_option maxHeartbeats 4000000 in
set_option maxRecDepth 100000 in
theorem c_groundOf {cx : CX} (hI : xI cx) (l : Launch) {μ : ME} {b : Nat} {L : LN} {B : Nat} (hb7 : b + 7 ≤ xN cx) (hL : laneR cx μ b L) (hk : lok L B) (hB : B < 1000000000) (j : Nat) (hj : j < Ln L) : MT cx l yX0_groundOf cX0_groundOf 2 (some .int) 2 42 [.ref (xa cx b), .int (nI j)] μ (Pi cx μ (nI (lgr L j))) := by
  refine mt_of hI (by decide) (Nat.le_of_ble_eq_true rfl) ?_
  intro p e s m below meth c ls F hr hlk hW hl
  have hx := F.1.1
  have hb := F.1.2.1
  have hts := F.1.2.2.2.2
  obtain ⟨fk, fs, fg, fd, fl, fc, h0, h1, h2, h3, h4, h5, h6, hv, hv2⟩ := id hL
  have hn6 := hk.1
  have hU := lok_U hk
  have hk4 := hk.2.2.2.1
  have hl : lv_has ls 2 [(0, .ref (xa cx b)), (1, .int (nI j))] := hl
  refine lv_aload_n hx hb dX0_groundOf_0 rfl (lv_at hl 0 rfl) ?_
  refine lv_iload_n hx hb dX0_groundOf_1 rfl (lv_at hl 1 rfl) ?_
  refine cl_ip (cl_run (rest := []) F hW e_X0_73 (c_loadOf hI l hb7 hL hk j (by omega)) ⟨Nat.le_of_ble_eq_true rfl, Nat.le_of_ble_eq_true rfl⟩ (by omega) h0 rfl rfl rfl hl (Nat.le_of_ble_eq_true rfl) dX0_groundOf_2 ⟨Nat.zero_le _, Nat.zero_le _⟩) hW (fun H locs hW => ?_)
  refine lv_aload_n hx hb dX0_groundOf_5 rfl (lv_at hl 0 rfl) ?_
  refine lv_iload_n hx hb dX0_groundOf_6 rfl (lv_at hl 1 rfl) ?_
  refine cl_ip (cl_run (rest := [.int (nI (Ll L j))]) F hW e_X0_76 (c_givesOf hI l hb7 hL hk (by omega) j (by omega)) ⟨Nat.le_of_ble_eq_true rfl, Nat.le_of_ble_eq_true rfl⟩ (by omega) h0 rfl rfl rfl hl (Nat.le_of_ble_eq_true rfl) dX0_groundOf_7 ⟨Nat.zero_le _, Nat.zero_le _⟩) hW (fun H locs hW => ?_)
  refine nv_sub F (lgi_le L j) dX0_groundOf_10 ?_
  exact rt_ip F hr hlk hW (by rw [lgr_eq hk]) rfl dX0_groundOf_11

set_option maxHeartbeats 4000000 in
set_option maxRecDepth 100000 in
theorem c_supportOf {cx : CX} (hI : xI cx) (l : Launch) {μ : ME} {b : Nat} {L : LN} {B : Nat} (hb7 : b + 7 ≤ xN cx) (hL : laneR cx μ b L) (hk : lok L B) (j : Nat) (hj : j < Ln L) : MT cx l yX0_supportOf cX0_supportOf 2 (some .int) 0 0 [.ref (xa cx b), .int (nI j)] μ (Pi cx μ (supI (Ld L j) j)) := by
  refine mt_of hI (by decide) (Nat.le_of_ble_eq_true rfl) ?_
  intro p e s m below meth c ls F hr hlk hW hl
  have hx := F.1.1
  have hb := F.1.2.1
  have hts := F.1.2.2.2.2
  obtain ⟨fk, fs, fg, fd, fl, fc, h0, h1, h2, h3, h4, h5, h6, hv, hv2⟩ := id hL
  have hn6 := hk.1
  have hU := lok_U hk
  have hk4 := hk.2.2.2.1
  have hl : lv_has ls 2 [(0, .ref (xa cx b)), (1, .int (nI j))] := hl
  refine lv_iload_n hx hb dX0_supportOf_0 rfl (lv_at hl 1 rfl) ?_
  refine nv_zlt (tgt := 12) F (by omega) dX0_supportOf_1 (by decide) (fun c_1 => ?_) (fun c_1 => ?_)
  · skip
    exact absurd c_1 (by omega)
  · skip
    refine lv_iload_n hx hb dX0_supportOf_4 rfl (lv_at hl 1 rfl) ?_
    refine lv_aload_n hx hb dX0_supportOf_5 rfl (lv_at hl 0 rfl) ?_
    refine nv_get F hW (by omega) h0 rfl iX0 6 (by decide) tw_87 rfl dX0_supportOf_6 ?_
    refine nv_clt (tgt := 14) F (by omega) (by omega) dX0_supportOf_9 (by decide) (fun c_2 => ?_) (fun c_2 => ?_)
    · skip
      refine lv_aload_n hx hb dX0_supportOf_14 rfl (lv_at hl 0 rfl) ?_
      refine nv_get F hW (by omega) h0 rfl iX0 3 (by decide) tw_84 rfl dX0_supportOf_15 ?_
      refine lv_iload_n hx hb dX0_supportOf_18 rfl (lv_at hl 1 rfl) ?_
      obtain ⟨dj, edj⟩ : ∃ z, z = Ld L j := ⟨_, rfl⟩
      refine nv_ialdN (x := ((nI dj))) F hW (by omega) h4 (by omega) (by decide) (by rw [edj]; exact (hv j hj).2.2.2) dX0_supportOf_19 ?_
      have hd3 : dj ≤ 3 := by rw [edj]; exact (hk4 j hj).2.2.2
      rcases (show dj = 0 ∨ dj = 1 ∨ dj = 2 ∨ dj = 3 by omega) with rfl | rfl | rfl | rfl
      · skip
        refine lv_tableIn (tgt := 48) hx hb dX0_supportOf_20 (by decide) (by decide) rfl (by decide) ?_
        refine lv_iload_n hx hb dX0_supportOf_48 rfl (lv_at hl 1 rfl) ?_
        refine lv_iconst (v := nI 1) hx hb dX0_supportOf_49 (by decide) ?_
        refine lv_isub hx hb dX0_supportOf_50 ?_
        exact rt_ip F hr hlk hW (by rw [← edj]; rfl) rfl dX0_supportOf_51
      · skip
        refine lv_tableIn (tgt := 52) hx hb dX0_supportOf_20 (by decide) (by decide) rfl (by decide) ?_
        refine lv_iload_n hx hb dX0_supportOf_52 rfl (lv_at hl 1 rfl) ?_
        refine lv_iconst (v := nI 1) hx hb dX0_supportOf_53 (by decide) ?_
        refine nv_add F dX0_supportOf_54 ?_
        exact rt_ip F hr hlk hW (by rw [← edj]; rfl) rfl dX0_supportOf_55
      · skip
        refine lv_tableIn (tgt := 56) hx hb dX0_supportOf_20 (by decide) (by decide) rfl (by decide) ?_
        refine lv_bipush (v := (-2)) hx hb dX0_supportOf_56 (by decide) ?_
        exact rt_ip F hr hlk hW (by rw [← edj]; rfl) rfl dX0_supportOf_58
      · skip
        refine lv_tableOut (tgt := 59) hx hb dX0_supportOf_20 (by decide) (by decide) ?_
        refine lv_iconst (v := (-1)) hx hb dX0_supportOf_59 (by decide) ?_
        exact rt_ip F hr hlk hW (by rw [← edj]; rfl) rfl dX0_supportOf_60
    · skip
      exact absurd c_2 (by omega)

set_option maxHeartbeats 4000000 in
set_option maxRecDepth 100000 in
theorem c_isCarried {cx : CX} (hI : xI cx) (l : Launch) {μ : ME} (v : Int32) : MT cx l yX4_isCarried cX4_isCarried 1 (some .boolean) 0 0 [.int v] μ (Pi cx μ (b2 (carI v))) := by
  refine mt_of hI (by decide) (Nat.le_of_ble_eq_true rfl) ?_
  intro p e s m below meth c ls F hr hlk hW hl
  have hx := F.1.1
  have hb := F.1.2.1
  have hts := F.1.2.2.2.2
  have hl : lv_has ls 1 [(0, .int v)] := hl
  refine lv_iload_n hx hb dX4_isCarried_0 rfl (lv_at hl 0 rfl) ?_
  refine lv_iconst (v := nI 1) hx hb dX4_isCarried_1 (by decide) ?_
  refine lv_icmp_lt (tgt := 15) hx hb dX4_isCarried_2 (by decide) (fun c_1 => ?_) (fun c_1 => ?_)
  · skip
    refine lv_iconst (v := nI 0) hx hb dX4_isCarried_15 (by decide) ?_
    exact rt_zp F hr hlk hW (by first | (rw [car_lo (by assumption)]; rfl) | (rw [car_hi (by assumption)]; rfl)) rfl dX4_isCarried_16
  · skip
    refine lv_iload_n hx hb dX4_isCarried_5 rfl (lv_at hl 0 rfl) ?_
    refine lv_bipush (v := nI 9) hx hb dX4_isCarried_6 (by decide) ?_
    refine lv_icmp_gt (tgt := 15) hx hb dX4_isCarried_8 (by decide) (fun c_2 => ?_) (fun c_2 => ?_)
    · skip
      refine lv_iconst (v := nI 0) hx hb dX4_isCarried_15 (by decide) ?_
      exact rt_zp F hr hlk hW (by first | (rw [car_lo (by assumption)]; rfl) | (rw [car_hi (by assumption)]; rfl)) rfl dX4_isCarried_16
    · skip
      refine lv_iconst (v := nI 1) hx hb dX4_isCarried_11 (by decide) ?_
      refine lv_goto (tgt := 16) hx hb dX4_isCarried_12 (by decide) ?_
      exact rt_zp F hr hlk hW (by rw [car_in c_1 c_2]; rfl) rfl dX4_isCarried_16

theorem c_isCarriedN {cx : CX} (hI : xI cx) (l : Launch) {μ : ME} (v : Nat) (hv : v < 2147483648) : MT cx l yX4_isCarried cX4_isCarried 1 (some .boolean) 0 0 [.int (nI v)] μ (Pi cx μ (b2 (decide (1 ≤ v ∧ v ≤ 9)))) := by
  rw [← carI_nI hv]
  exact c_isCarried hI l (nI v)

set_option maxHeartbeats 4000000 in
set_option maxRecDepth 100000 in
theorem c_canAdd {cx : CX} (hI : xI cx) (l : Launch) {μ : ME} {b : Nat} {L : LN} {B : Nat} (hb7 : b + 7 ≤ xN cx) (hL : laneR cx μ b L) (hk : lok L B) (j v : Nat) (hjj : j < 2147483648) (hvv : v < 2147483648) : MT cx l yX0_canAdd cX0_canAdd 3 (some .boolean) 1 21 [.ref (xa cx b), .int (nI j), .int (nI v)] μ (Pi cx μ (b2 (decide (j < Ln L ∧ (1 ≤ v ∧ v ≤ 9) ∧ Ls L j + v ≤ 99)))) := by
  refine mt_of hI (by decide) (Nat.le_of_ble_eq_true rfl) ?_
  intro p e s m below meth c ls F hr hlk hW hl
  have hx := F.1.1
  have hb := F.1.2.1
  have hts := F.1.2.2.2.2
  obtain ⟨fk, fs, fg, fd, fl, fc, h0, h1, h2, h3, h4, h5, h6, hv, hv2⟩ := id hL
  have hn6 := hk.1
  have hU := lok_U hk
  have hk4 := hk.2.2.2.1
  have hl : lv_has ls 3 [(0, .ref (xa cx b)), (1, .int (nI j)), (2, .int (nI v))] := hl
  refine lv_aload_n hx hb dX0_canAdd_0 rfl (lv_at hl 0 rfl) ?_
  refine lv_iload_n hx hb dX0_canAdd_1 rfl (lv_at hl 1 rfl) ?_
  refine cl_ip (cl_run (rest := []) F hW e_X0_63 (c_hasN hI l hb7 hL hk j (by omega)) ⟨Nat.le_of_ble_eq_true rfl, Nat.le_of_ble_eq_true rfl⟩ (by omega) h0 rfl rfl rfl hl (Nat.le_of_ble_eq_true rfl) dX0_canAdd_2 ⟨Nat.zero_le _, Nat.zero_le _⟩) hW (fun H locs hW => ?_)
  refine nv_beq (tgt := 32) F dX0_canAdd_5 (by decide) (fun c_1 => ?_) (fun c_1 => ?_)
  · skip
    refine lv_iconst (v := nI 0) hx hb dX0_canAdd_32 (by decide) ?_
    exact rt_zp F hr hlk hW (b2_f (fun q => by first | exact (of_decide_eq_false ‹decide (j < Ln L) = false›) q.1 | exact (of_decide_eq_false ‹decide (1 ≤ v ∧ v ≤ 9) = false›) q.2.1 | omega)) rfl dX0_canAdd_33
  · skip
    have hj := of_decide_eq_true c_1
    refine lv_iload_n hx hb dX0_canAdd_8 rfl (lv_at hl 2 rfl) ?_
    refine cl_ip (cl_runN (rest := []) F hW tw_nest (c_isCarriedN hI l v (by omega)) ⟨Nat.le_of_ble_eq_true rfl, Nat.le_of_ble_eq_true rfl⟩ rfl rfl hl (Nat.le_of_ble_eq_true rfl) dX0_canAdd_9 ⟨Nat.zero_le _, Nat.zero_le _⟩) hW (fun H locs hW => ?_)
    refine nv_beq (tgt := 32) F dX0_canAdd_12 (by decide) (fun c_2 => ?_) (fun c_2 => ?_)
    · skip
      refine lv_iconst (v := nI 0) hx hb dX0_canAdd_32 (by decide) ?_
      exact rt_zp F hr hlk hW (b2_f (fun q => by first | exact (of_decide_eq_false ‹decide (j < Ln L) = false›) q.1 | exact (of_decide_eq_false ‹decide (1 ≤ v ∧ v ≤ 9) = false›) q.2.1 | omega)) rfl dX0_canAdd_33
    · skip
      have hv19 := of_decide_eq_true c_2
      refine lv_aload_n hx hb dX0_canAdd_15 rfl (lv_at hl 0 rfl) ?_
      refine nv_get F hW (by omega) h0 rfl iX0 1 (by decide) tw_82 rfl dX0_canAdd_16 ?_
      refine lv_iload_n hx hb dX0_canAdd_19 rfl (lv_at hl 1 rfl) ?_
      refine nv_ialdN (x := ((nI (Ls L j)))) F hW (by omega) h2 (by omega) (by decide) (hv j (by omega)).2.1 dX0_canAdd_20 ?_
      refine lv_iload_n hx hb dX0_canAdd_21 rfl (lv_at hl 2 rfl) ?_
      refine nv_add F dX0_canAdd_22 ?_
      refine lv_bipush (v := nI 99) hx hb dX0_canAdd_23 (by decide) ?_
      refine nv_cgt (tgt := 32) F (by have := (hk4 j hj).2.1; omega) (by omega) dX0_canAdd_25 (by decide) (fun c_3 => ?_) (fun c_3 => ?_)
      · skip
        refine lv_iconst (v := nI 0) hx hb dX0_canAdd_32 (by decide) ?_
        exact rt_zp F hr hlk hW (b2_f (fun q => by first | exact (of_decide_eq_false ‹decide (j < Ln L) = false›) q.1 | exact (of_decide_eq_false ‹decide (1 ≤ v ∧ v ≤ 9) = false›) q.2.1 | omega)) rfl dX0_canAdd_33
      · skip
        refine lv_iconst (v := nI 1) hx hb dX0_canAdd_28 (by decide) ?_
        refine lv_goto (tgt := 33) hx hb dX0_canAdd_29 (by decide) ?_
        exact rt_zp F hr hlk hW (b2_t ⟨hj, hv19, by omega⟩) rfl dX0_canAdd_33

set_option maxHeartbeats 4000000 in
set_option maxRecDepth 100000 in
theorem c_canRemove {cx : CX} (hI : xI cx) (l : Launch) {μ : ME} {b : Nat} {L : LN} {B : Nat} (hb7 : b + 7 ≤ xN cx) (hL : laneR cx μ b L) (hk : lok L B) (j v : Nat) (hjj : j < 2147483648) (hvv : v < 2147483648) : MT cx l yX0_canRemove cX0_canRemove 3 (some .boolean) 1 21 [.ref (xa cx b), .int (nI j), .int (nI v)] μ (Pi cx μ (b2 (decide (j < Ln L ∧ (1 ≤ v ∧ v ≤ 9) ∧ v ≤ Ls L j)))) := by
  refine mt_of hI (by decide) (Nat.le_of_ble_eq_true rfl) ?_
  intro p e s m below meth c ls F hr hlk hW hl
  have hx := F.1.1
  have hb := F.1.2.1
  have hts := F.1.2.2.2.2
  obtain ⟨fk, fs, fg, fd, fl, fc, h0, h1, h2, h3, h4, h5, h6, hv, hv2⟩ := id hL
  have hn6 := hk.1
  have hU := lok_U hk
  have hk4 := hk.2.2.2.1
  have hl : lv_has ls 3 [(0, .ref (xa cx b)), (1, .int (nI j)), (2, .int (nI v))] := hl
  refine lv_aload_n hx hb dX0_canRemove_0 rfl (lv_at hl 0 rfl) ?_
  refine lv_iload_n hx hb dX0_canRemove_1 rfl (lv_at hl 1 rfl) ?_
  refine cl_ip (cl_run (rest := []) F hW e_X0_63 (c_hasN hI l hb7 hL hk j (by omega)) ⟨Nat.le_of_ble_eq_true rfl, Nat.le_of_ble_eq_true rfl⟩ (by omega) h0 rfl rfl rfl hl (Nat.le_of_ble_eq_true rfl) dX0_canRemove_2 ⟨Nat.zero_le _, Nat.zero_le _⟩) hW (fun H locs hW => ?_)
  refine nv_beq (tgt := 29) F dX0_canRemove_5 (by decide) (fun c_1 => ?_) (fun c_1 => ?_)
  · skip
    refine lv_iconst (v := nI 0) hx hb dX0_canRemove_29 (by decide) ?_
    exact rt_zp F hr hlk hW (b2_f (fun q => by first | exact (of_decide_eq_false ‹decide (j < Ln L) = false›) q.1 | exact (of_decide_eq_false ‹decide (1 ≤ v ∧ v ≤ 9) = false›) q.2.1 | omega)) rfl dX0_canRemove_30
  · skip
    have hj := of_decide_eq_true c_1
    refine lv_iload_n hx hb dX0_canRemove_8 rfl (lv_at hl 2 rfl) ?_
    refine cl_ip (cl_runN (rest := []) F hW tw_nest (c_isCarriedN hI l v (by omega)) ⟨Nat.le_of_ble_eq_true rfl, Nat.le_of_ble_eq_true rfl⟩ rfl rfl hl (Nat.le_of_ble_eq_true rfl) dX0_canRemove_9 ⟨Nat.zero_le _, Nat.zero_le _⟩) hW (fun H locs hW => ?_)
    refine nv_beq (tgt := 29) F dX0_canRemove_12 (by decide) (fun c_2 => ?_) (fun c_2 => ?_)
    · skip
      refine lv_iconst (v := nI 0) hx hb dX0_canRemove_29 (by decide) ?_
      exact rt_zp F hr hlk hW (b2_f (fun q => by first | exact (of_decide_eq_false ‹decide (j < Ln L) = false›) q.1 | exact (of_decide_eq_false ‹decide (1 ≤ v ∧ v ≤ 9) = false›) q.2.1 | omega)) rfl dX0_canRemove_30
    · skip
      have hv19 := of_decide_eq_true c_2
      refine lv_aload_n hx hb dX0_canRemove_15 rfl (lv_at hl 0 rfl) ?_
      refine nv_get F hW (by omega) h0 rfl iX0 1 (by decide) tw_82 rfl dX0_canRemove_16 ?_
      refine lv_iload_n hx hb dX0_canRemove_19 rfl (lv_at hl 1 rfl) ?_
      refine nv_ialdN (x := ((nI (Ls L j)))) F hW (by omega) h2 (by omega) (by decide) (hv j (by omega)).2.1 dX0_canRemove_20 ?_
      refine lv_iload_n hx hb dX0_canRemove_21 rfl (lv_at hl 2 rfl) ?_
      refine nv_clt (tgt := 29) F (by have := (hk4 j hj).2.1; omega) (by omega) dX0_canRemove_22 (by decide) (fun c_3 => ?_) (fun c_3 => ?_)
      · skip
        refine lv_iconst (v := nI 0) hx hb dX0_canRemove_29 (by decide) ?_
        exact rt_zp F hr hlk hW (b2_f (fun q => by first | exact (of_decide_eq_false ‹decide (j < Ln L) = false›) q.1 | exact (of_decide_eq_false ‹decide (1 ≤ v ∧ v ≤ 9) = false›) q.2.1 | omega)) rfl dX0_canRemove_30
      · skip
        refine lv_iconst (v := nI 1) hx hb dX0_canRemove_25 (by decide) ?_
        refine lv_goto (tgt := 30) hx hb dX0_canRemove_26 (by decide) ?_
        exact rt_zp F hr hlk hW (b2_t ⟨hj, hv19, by omega⟩) rfl dX0_canRemove_30
end
section
theorem upd_va {f : Nat → Int32} {g : Nat → Nat} {n j v : Nat} (h : ∀ i, i < n → f i = nI (g i)) : ∀ i, i < n → upd f j (nI v) i = nI (va_up g j v i) := by
  intro i hi
  unfold upd va_up
  split
  · rfl
  · exact h i hi
def canA (L : LN) (j v : Nat) : Bool := decide (j < Ln L ∧ (1 ≤ v ∧ v ≤ 9) ∧ Ls L j + v ≤ 99)
def addS (L : LN) (j v : Nat) : LN := if canA L j v then sets L (va_up (Ls L) j (Ls L j + v)) else L
def canS (L : LN) (j v : Nat) : Bool := decide (j < Ln L ∧ (1 ≤ v ∧ v ≤ 9) ∧ v ≤ Ls L j)
def subS (L : LN) (j v : Nat) : LN := if canS L j v then sets L (va_up (Ls L) j (Ls L j - v)) else L
def canD (L : LN) (j d : Nat) : Bool := decide (j < Ln L ∧ d < 3 ∧ ¬ Ld L j = d)
def setD (L : LN) (j d : Nat) : LN := if canD L j d then setd L (va_up (Ld L) j d) else L
def canR (L : LN) (j : Nat) : Bool := decide (j < Ln L) && !lst L j
def upL (L : LN) (j : Nat) : LN := (Ln L, Lk L, Ls L, Lg L, Ld L, va_up (Ll L) j (Ls L j), LU L ||| 2 ^ j, Lh L)
def raiseL (L : LN) (j : Nat) : LN := if canR L j then upL (Ln L, (if Lk L j = 4 then va_up (Lk L) j 0 else Lk L), Ls L, Lg L, Ld L, Ll L, LU L, Lh L) j else L
def emptyL (L : LN) (bits : Nat) : LN := sets L (fun i => if bits.testBit i then Ls L i else 0)
def failL (L : LN) (bits : Nat) : LN := setd L (fun i => if bits.testBit i then 3 else Ld L i)
theorem lst_up {L : LN} {j i : Nat} (hj : j < Ln L) : lst (upL L j) i = (lst L i || decide (i = j)) := by
  show (decide (i < Ln L) && (LU L ||| 2 ^ j).testBit i) = ((decide (i < Ln L) && (LU L).testBit i) || decide (i = j))
  rw [Nat.testBit_or, Nat.testBit_two_pow]
  by_cases h : i = j
  · subst h
    simp [hj]
  · have : ¬ j = i := fun q => h q.symm
    simp [h, this]

set_option maxHeartbeats 4000000 in
set_option maxRecDepth 100000 in
theorem c_addStones {cx : CX} (hI : xI cx) (l : Launch) {μ : ME} {b : Nat} {L : LN} {B : Nat} (hb7 : b + 7 ≤ xN cx) (hL : laneR cx μ b L) (hk : lok L B) (j v : Nat) (hjj : j < 2147483648) (hvv : v < 2147483648) : MT cx l yX0_addStones cX0_addStones 3 (some .boolean) 2 43 [.ref (xa cx b), .int (nI j), .int (nI v)] μ (Ei cx (b2 (canA L j v)) (fun μ1 => laneR cx μ1 b (addS L j v) ∧ off b 7 μ μ1)) := by
  refine mt_of hI (by decide) (Nat.le_of_ble_eq_true rfl) ?_
  intro p e s m below meth c ls F hr hlk hW hl
  have hx := F.1.1
  have hb := F.1.2.1
  have hts := F.1.2.2.2.2
  obtain ⟨fk, fs, fg, fd, fl, fc, h0, h1, h2, h3, h4, h5, h6, hv, hv2⟩ := id hL
  have hn6 := hk.1
  have hU := lok_U hk
  have hk4 := hk.2.2.2.1
  have hl : lv_has ls 3 [(0, .ref (xa cx b)), (1, .int (nI j)), (2, .int (nI v))] := hl
  refine lv_aload_n hx hb dX0_addStones_0 rfl (lv_at hl 0 rfl) ?_
  refine lv_iload_n hx hb dX0_addStones_1 rfl (lv_at hl 1 rfl) ?_
  refine lv_iload_n hx hb dX0_addStones_2 rfl (lv_at hl 2 rfl) ?_
  refine cl_ip (cl_run (rest := []) F hW e_X0_99 (c_canAdd hI l hb7 hL hk j v (by omega) (by omega)) ⟨Nat.le_of_ble_eq_true rfl, Nat.le_of_ble_eq_true rfl⟩ (by omega) h0 rfl rfl rfl hl (Nat.le_of_ble_eq_true rfl) dX0_addStones_3 ⟨Nat.zero_le _, Nat.zero_le _⟩) hW (fun H locs hW => ?_)
  refine nv_bne (tgt := 11) F dX0_addStones_6 (by decide) (fun c_1 => ?_) (fun c_1 => ?_)
  · skip
    have hc := of_decide_eq_true c_1
    have hj := hc.1
    have hc2 := hc.2.2
    have c_1 : canA L j v = true := c_1
    refine lv_aload_n hx hb dX0_addStones_11 rfl (lv_at hl 0 rfl) ?_
    refine nv_get F hW (by omega) h0 rfl iX0 1 (by decide) tw_82 rfl dX0_addStones_12 ?_
    refine lv_iload_n hx hb dX0_addStones_15 rfl (lv_at hl 1 rfl) ?_
    refine lv_dup2_11 hx hb dX0_addStones_16 rfl rfl ?_
    refine nv_ialdN (x := ((nI (Ls L j)))) F hW (by omega) h2 (by omega) (by decide) (hv j (by omega)).2.1 dX0_addStones_17 ?_
    refine lv_iload_n hx hb dX0_addStones_18 rfl (lv_at hl 2 rfl) ?_
    refine nv_add F dX0_addStones_19 ?_
    refine nv_iastN F hW (by omega) h2 (by omega) (by decide) dX0_addStones_20 (fun H locs hW => ?_)
    obtain ⟨μ2, eμ2⟩ : ∃ z : ME, z = va_up μ (b + 2) (.inl (xT cx 0, 6, .inl (upd fs j ((nI ((Ls L j) + v)))))) := ⟨_, rfl⟩
    have hW : St cx s μ2 H locs := by rw [eμ2]; exact hW
    have hb_2 := (congrFun eμ2 b).trans ((va_up_ne _ _ (by omega)).trans h0)
    have hb_1_2 := (congrFun eμ2 (b + 1)).trans ((va_up_ne _ _ (by omega)).trans h1)
    have hb_2_2 : μ2 (b + 2) = .inl (xT cx 0, 6, .inl (upd fs j ((nI ((Ls L j) + v))))) := by rw [eμ2, va_up_self]
    have hb_3_2 := (congrFun eμ2 (b + 3)).trans ((va_up_ne _ _ (by omega)).trans h3)
    have hb_4_2 := (congrFun eμ2 (b + 4)).trans ((va_up_ne _ _ (by omega)).trans h4)
    have hb_5_2 := (congrFun eμ2 (b + 5)).trans ((va_up_ne _ _ (by omega)).trans h5)
    have hb_6_2 := (congrFun eμ2 (b + 6)).trans ((va_up_ne _ _ (by omega)).trans h6)
    refine lv_iconst (v := nI 1) hx hb dX0_addStones_21 (by decide) ?_
    exact rt_ze F hr hlk hW (by rw [c_1]; rfl) ⟨by unfold addS; rw [if_pos c_1]; exact ⟨fk, (upd fs j ((nI ((Ls L j) + v)))), fg, fd, fl, fc, hb_2, hb_1_2, hb_2_2, hb_3_2, hb_4_2, hb_5_2, hb_6_2, fun i hi => ⟨(hv i hi).1, upd_va (g := Ls L) (fun i hi => (hv i hi).2.1) i hi, (hv i hi).2.2⟩, hv2⟩, (fun z hz => by rw [eμ2, va_up_ne _ _ (by omega)])⟩ dX0_addStones_22
  · skip
    have c_1 : canA L j v = false := c_1
    refine lv_iconst (v := nI 0) hx hb dX0_addStones_9 (by decide) ?_
    exact rt_ze F hr hlk hW (by rw [c_1]; rfl) ⟨by unfold addS; rw [if_neg (by rw [c_1]; decide)]; exact hL, off_rf⟩ dX0_addStones_10

set_option maxHeartbeats 4000000 in
set_option maxRecDepth 100000 in
theorem c_removeStones {cx : CX} (hI : xI cx) (l : Launch) {μ : ME} {b : Nat} {L : LN} {B : Nat} (hb7 : b + 7 ≤ xN cx) (hL : laneR cx μ b L) (hk : lok L B) (j v : Nat) (hjj : j < 2147483648) (hvv : v < 2147483648) : MT cx l yX0_removeStones cX0_removeStones 3 (some .boolean) 2 43 [.ref (xa cx b), .int (nI j), .int (nI v)] μ (Ei cx (b2 (canS L j v)) (fun μ1 => laneR cx μ1 b (subS L j v) ∧ off b 7 μ μ1)) := by
  refine mt_of hI (by decide) (Nat.le_of_ble_eq_true rfl) ?_
  intro p e s m below meth c ls F hr hlk hW hl
  have hx := F.1.1
  have hb := F.1.2.1
  have hts := F.1.2.2.2.2
  obtain ⟨fk, fs, fg, fd, fl, fc, h0, h1, h2, h3, h4, h5, h6, hv, hv2⟩ := id hL
  have hn6 := hk.1
  have hU := lok_U hk
  have hk4 := hk.2.2.2.1
  have hl : lv_has ls 3 [(0, .ref (xa cx b)), (1, .int (nI j)), (2, .int (nI v))] := hl
  refine lv_aload_n hx hb dX0_removeStones_0 rfl (lv_at hl 0 rfl) ?_
  refine lv_iload_n hx hb dX0_removeStones_1 rfl (lv_at hl 1 rfl) ?_
  refine lv_iload_n hx hb dX0_removeStones_2 rfl (lv_at hl 2 rfl) ?_
  refine cl_ip (cl_run (rest := []) F hW e_X0_103 (c_canRemove hI l hb7 hL hk j v (by omega) (by omega)) ⟨Nat.le_of_ble_eq_true rfl, Nat.le_of_ble_eq_true rfl⟩ (by omega) h0 rfl rfl rfl hl (Nat.le_of_ble_eq_true rfl) dX0_removeStones_3 ⟨Nat.zero_le _, Nat.zero_le _⟩) hW (fun H locs hW => ?_)
  refine nv_bne (tgt := 11) F dX0_removeStones_6 (by decide) (fun c_1 => ?_) (fun c_1 => ?_)
  · skip
    have hc := of_decide_eq_true c_1
    have hj := hc.1
    have hc2 := hc.2.2
    have c_1 : canS L j v = true := c_1
    refine lv_aload_n hx hb dX0_removeStones_11 rfl (lv_at hl 0 rfl) ?_
    refine nv_get F hW (by omega) h0 rfl iX0 1 (by decide) tw_82 rfl dX0_removeStones_12 ?_
    refine lv_iload_n hx hb dX0_removeStones_15 rfl (lv_at hl 1 rfl) ?_
    refine lv_dup2_11 hx hb dX0_removeStones_16 rfl rfl ?_
    refine nv_ialdN (x := ((nI (Ls L j)))) F hW (by omega) h2 (by omega) (by decide) (hv j (by omega)).2.1 dX0_removeStones_17 ?_
    refine lv_iload_n hx hb dX0_removeStones_18 rfl (lv_at hl 2 rfl) ?_
    refine nv_sub F (by omega) dX0_removeStones_19 ?_
    refine nv_iastN F hW (by omega) h2 (by omega) (by decide) dX0_removeStones_20 (fun H locs hW => ?_)
    obtain ⟨μ2, eμ2⟩ : ∃ z : ME, z = va_up μ (b + 2) (.inl (xT cx 0, 6, .inl (upd fs j ((nI ((Ls L j) - v)))))) := ⟨_, rfl⟩
    have hW : St cx s μ2 H locs := by rw [eμ2]; exact hW
    have hb_2 := (congrFun eμ2 b).trans ((va_up_ne _ _ (by omega)).trans h0)
    have hb_1_2 := (congrFun eμ2 (b + 1)).trans ((va_up_ne _ _ (by omega)).trans h1)
    have hb_2_2 : μ2 (b + 2) = .inl (xT cx 0, 6, .inl (upd fs j ((nI ((Ls L j) - v))))) := by rw [eμ2, va_up_self]
    have hb_3_2 := (congrFun eμ2 (b + 3)).trans ((va_up_ne _ _ (by omega)).trans h3)
    have hb_4_2 := (congrFun eμ2 (b + 4)).trans ((va_up_ne _ _ (by omega)).trans h4)
    have hb_5_2 := (congrFun eμ2 (b + 5)).trans ((va_up_ne _ _ (by omega)).trans h5)
    have hb_6_2 := (congrFun eμ2 (b + 6)).trans ((va_up_ne _ _ (by omega)).trans h6)
    refine lv_iconst (v := nI 1) hx hb dX0_removeStones_21 (by decide) ?_
    exact rt_ze F hr hlk hW (by rw [c_1]; rfl) ⟨by unfold subS; rw [if_pos c_1]; exact ⟨fk, (upd fs j ((nI ((Ls L j) - v)))), fg, fd, fl, fc, hb_2, hb_1_2, hb_2_2, hb_3_2, hb_4_2, hb_5_2, hb_6_2, fun i hi => ⟨(hv i hi).1, upd_va (g := Ls L) (fun i hi => (hv i hi).2.1) i hi, (hv i hi).2.2⟩, hv2⟩, (fun z hz => by rw [eμ2, va_up_ne _ _ (by omega)])⟩ dX0_removeStones_22
  · skip
    have c_1 : canS L j v = false := c_1
    refine lv_iconst (v := nI 0) hx hb dX0_removeStones_9 (by decide) ?_
    exact rt_ze F hr hlk hW (by rw [c_1]; rfl) ⟨by unfold subS; rw [if_neg (by rw [c_1]; decide)]; exact hL, off_rf⟩ dX0_removeStones_10

theorem deed_hi {d : Int32} (c : nI 2 < d) : inR d 3 = false := by
  rw [Int32.lt_iff_toInt_lt, nI_toInt (by decide)] at c
  apply decide_eq_false
  omega
theorem deed_in {d : Int32} (c : ¬ d < 0) (e : ¬ nI 2 < d) : inR d 3 = true := by
  rw [Int32.lt_iff_toInt_lt, nI_toInt (by decide)] at e
  rw [Int32.lt_iff_toInt_lt] at c
  have z : (0 : Int32).toInt = 0 := rfl
  apply decide_eq_true
  omega

set_option maxHeartbeats 4000000 in
set_option maxRecDepth 100000 in
theorem c_isDeed {cx : CX} (hI : xI cx) (l : Launch) {μ : ME} (d : Int32) : MT cx l yX0_isDeed cX0_isDeed 1 (some .boolean) 0 0 [.int d] μ (Pi cx μ (b2 (inR d 3))) := by
  refine mt_of hI (by decide) (Nat.le_of_ble_eq_true rfl) ?_
  intro p e s m below meth c ls F hr hlk hW hl
  have hx := F.1.1
  have hb := F.1.2.1
  have hts := F.1.2.2.2.2
  have hl : lv_has ls 1 [(0, .int d)] := hl
  refine lv_iload_n hx hb dX0_isDeed_0 rfl (lv_at hl 0 rfl) ?_
  refine lv_if_lt (tgt := 13) hx hb dX0_isDeed_1 (by decide) (fun c_1 => ?_) (fun c_1 => ?_)
  · skip
    refine lv_iconst (v := nI 0) hx hb dX0_isDeed_13 (by decide) ?_
    exact rt_zp F hr hlk hW (by first | (rw [inR_neg (by assumption)]; rfl) | (rw [deed_hi (by assumption)]; rfl)) rfl dX0_isDeed_14
  · skip
    refine lv_iload_n hx hb dX0_isDeed_4 rfl (lv_at hl 0 rfl) ?_
    refine lv_iconst (v := nI 2) hx hb dX0_isDeed_5 (by decide) ?_
    refine lv_icmp_gt (tgt := 13) hx hb dX0_isDeed_6 (by decide) (fun c_2 => ?_) (fun c_2 => ?_)
    · skip
      refine lv_iconst (v := nI 0) hx hb dX0_isDeed_13 (by decide) ?_
      exact rt_zp F hr hlk hW (by first | (rw [inR_neg (by assumption)]; rfl) | (rw [deed_hi (by assumption)]; rfl)) rfl dX0_isDeed_14
    · skip
      refine lv_iconst (v := nI 1) hx hb dX0_isDeed_9 (by decide) ?_
      refine lv_goto (tgt := 14) hx hb dX0_isDeed_10 (by decide) ?_
      exact rt_zp F hr hlk hW (by rw [deed_in c_1 c_2]; rfl) rfl dX0_isDeed_14

theorem c_isDeedN {cx : CX} (hI : xI cx) (l : Launch) {μ : ME} (d : Nat) (hd : d < 2147483648) : MT cx l yX0_isDeed cX0_isDeed 1 (some .boolean) 0 0 [.int (nI d)] μ (Pi cx μ (b2 (decide (d < 3)))) := by
  rw [← inR_nI hd]
  exact c_isDeed hI l (nI d)

set_option maxHeartbeats 4000000 in
set_option maxRecDepth 100000 in
theorem c_writeDeed {cx : CX} (hI : xI cx) (l : Launch) {μ : ME} {b : Nat} {L : LN} {B : Nat} (hb7 : b + 7 ≤ xN cx) (hL : laneR cx μ b L) (hk : lok L B) (j d : Nat) (hjj : j < 2147483648) (hdd : d < 2147483648) : MT cx l yX0_writeDeed cX0_writeDeed 3 (some .boolean) 1 21 [.ref (xa cx b), .int (nI j), .int (nI d)] μ (Ei cx (b2 (canD L j d)) (fun μ1 => laneR cx μ1 b (setD L j d) ∧ off b 7 μ μ1)) := by
  refine mt_of hI (by decide) (Nat.le_of_ble_eq_true rfl) ?_
  intro p e s m below meth c ls F hr hlk hW hl
  have hx := F.1.1
  have hb := F.1.2.1
  have hts := F.1.2.2.2.2
  obtain ⟨fk, fs, fg, fd, fl, fc, h0, h1, h2, h3, h4, h5, h6, hv, hv2⟩ := id hL
  have hn6 := hk.1
  have hU := lok_U hk
  have hk4 := hk.2.2.2.1
  have hl : lv_has ls 3 [(0, .ref (xa cx b)), (1, .int (nI j)), (2, .int (nI d))] := hl
  refine lv_aload_n hx hb dX0_writeDeed_0 rfl (lv_at hl 0 rfl) ?_
  refine lv_iload_n hx hb dX0_writeDeed_1 rfl (lv_at hl 1 rfl) ?_
  refine cl_ip (cl_run (rest := []) F hW e_X0_63 (c_hasN hI l hb7 hL hk j (by omega)) ⟨Nat.le_of_ble_eq_true rfl, Nat.le_of_ble_eq_true rfl⟩ (by omega) h0 rfl rfl rfl hl (Nat.le_of_ble_eq_true rfl) dX0_writeDeed_2 ⟨Nat.zero_le _, Nat.zero_le _⟩) hW (fun H locs hW => ?_)
  refine nv_beq (tgt := 25) F dX0_writeDeed_5 (by decide) (fun c_1 => ?_) (fun c_1 => ?_)
  · skip
    refine lv_iconst (v := nI 0) hx hb dX0_writeDeed_25 (by decide) ?_
    have hc : canD L j d = false := decide_eq_false (fun q => by first | exact (of_decide_eq_false ‹decide (j < Ln L) = false›) q.1 | exact (of_decide_eq_false ‹decide (d < 3) = false›) q.2.1 | exact q.2.2 (by assumption))
    exact rt_ze F hr hlk hW (by rw [hc]; rfl) ⟨by unfold setD; rw [if_neg (by rw [hc]; decide)]; exact hL, off_rf⟩ dX0_writeDeed_26
  · skip
    have hj := of_decide_eq_true c_1
    refine lv_iload_n hx hb dX0_writeDeed_8 rfl (lv_at hl 2 rfl) ?_
    refine cl_ip (cl_runS (rest := []) F hW e_X0_106 (c_isDeedN hI l d (by omega)) ⟨Nat.le_of_ble_eq_true rfl, Nat.le_of_ble_eq_true rfl⟩ rfl rfl hl (Nat.le_of_ble_eq_true rfl) dX0_writeDeed_9 ⟨Nat.zero_le _, Nat.zero_le _⟩) hW (fun H locs hW => ?_)
    refine nv_beq (tgt := 25) F dX0_writeDeed_12 (by decide) (fun c_2 => ?_) (fun c_2 => ?_)
    · skip
      refine lv_iconst (v := nI 0) hx hb dX0_writeDeed_25 (by decide) ?_
      have hc : canD L j d = false := decide_eq_false (fun q => by first | exact (of_decide_eq_false ‹decide (j < Ln L) = false›) q.1 | exact (of_decide_eq_false ‹decide (d < 3) = false›) q.2.1 | exact q.2.2 (by assumption))
      exact rt_ze F hr hlk hW (by rw [hc]; rfl) ⟨by unfold setD; rw [if_neg (by rw [hc]; decide)]; exact hL, off_rf⟩ dX0_writeDeed_26
    · skip
      have hd3 := of_decide_eq_true c_2
      refine lv_aload_n hx hb dX0_writeDeed_15 rfl (lv_at hl 0 rfl) ?_
      refine nv_get F hW (by omega) h0 rfl iX0 3 (by decide) tw_84 rfl dX0_writeDeed_16 ?_
      refine lv_iload_n hx hb dX0_writeDeed_19 rfl (lv_at hl 1 rfl) ?_
      refine nv_ialdN (x := ((nI (Ld L j)))) F hW (by omega) h4 (by omega) (by decide) (hv j (by omega)).2.2.2 dX0_writeDeed_20 ?_
      refine lv_iload_n hx hb dX0_writeDeed_21 rfl (lv_at hl 2 rfl) ?_
      refine nv_cne (tgt := 27) F (by have := (hk4 j hj).2.2.2; omega) (by omega) dX0_writeDeed_22 (by decide) (fun c_3 => ?_) (fun c_3 => ?_)
      · skip
        refine lv_aload_n hx hb dX0_writeDeed_27 rfl (lv_at hl 0 rfl) ?_
        refine nv_get F hW (by omega) h0 rfl iX0 3 (by decide) tw_84 rfl dX0_writeDeed_28 ?_
        refine lv_iload_n hx hb dX0_writeDeed_31 rfl (lv_at hl 1 rfl) ?_
        refine lv_iload_n hx hb dX0_writeDeed_32 rfl (lv_at hl 2 rfl) ?_
        refine nv_iastN F hW (by omega) h4 (by omega) (by decide) dX0_writeDeed_33 (fun H locs hW => ?_)
        obtain ⟨μ4, eμ4⟩ : ∃ z : ME, z = va_up μ (b + 4) (.inl (xT cx 0, 6, .inl (upd fd j ((nI d))))) := ⟨_, rfl⟩
        have hW : St cx s μ4 H locs := by rw [eμ4]; exact hW
        have hb_4 := (congrFun eμ4 b).trans ((va_up_ne _ _ (by omega)).trans h0)
        have hb_1_4 := (congrFun eμ4 (b + 1)).trans ((va_up_ne _ _ (by omega)).trans h1)
        have hb_2_4 := (congrFun eμ4 (b + 2)).trans ((va_up_ne _ _ (by omega)).trans h2)
        have hb_3_4 := (congrFun eμ4 (b + 3)).trans ((va_up_ne _ _ (by omega)).trans h3)
        have hb_4_4 : μ4 (b + 4) = .inl (xT cx 0, 6, .inl (upd fd j ((nI d)))) := by rw [eμ4, va_up_self]
        have hb_5_4 := (congrFun eμ4 (b + 5)).trans ((va_up_ne _ _ (by omega)).trans h5)
        have hb_6_4 := (congrFun eμ4 (b + 6)).trans ((va_up_ne _ _ (by omega)).trans h6)
        refine lv_iconst (v := nI 1) hx hb dX0_writeDeed_34 (by decide) ?_
        have hc : canD L j d = true := decide_eq_true ⟨hj, hd3, c_3⟩
        exact rt_ze F hr hlk hW (by rw [hc]; rfl) ⟨by unfold setD; rw [if_pos hc]; exact ⟨fk, fs, fg, (upd fd j ((nI d))), fl, fc, hb_4, hb_1_4, hb_2_4, hb_3_4, hb_4_4, hb_5_4, hb_6_4, fun i hi => ⟨(hv i hi).1, (hv i hi).2.1, (hv i hi).2.2.1, upd_va (g := Ld L) (fun i hi => (hv i hi).2.2.2) i hi⟩, hv2⟩, (fun z hz => by rw [eμ4, va_up_ne _ _ (by omega)])⟩ dX0_writeDeed_35
      · skip
        refine lv_iconst (v := nI 0) hx hb dX0_writeDeed_25 (by decide) ?_
        have hc : canD L j d = false := decide_eq_false (fun q => by first | exact (of_decide_eq_false ‹decide (j < Ln L) = false›) q.1 | exact (of_decide_eq_false ‹decide (d < 3) = false›) q.2.1 | exact q.2.2 (by assumption))
        exact rt_ze F hr hlk hW (by rw [hc]; rfl) ⟨by unfold setD; rw [if_neg (by rw [hc]; decide)]; exact hL, off_rf⟩ dX0_writeDeed_26

set_option maxHeartbeats 4000000 in
set_option maxRecDepth 100000 in
theorem c_standUp {cx : CX} (hI : xI cx) (l : Launch) {μ : ME} {b : Nat} {L : LN} {B : Nat} (hb7 : b + 7 ≤ xN cx) (hL : laneR cx μ b L) (hk : lok L B) (j : Nat) (hj : j < Ln L) : MT cx l yX0_standUp cX0_standUp 2 none 0 0 [.ref (xa cx b), .int (nI j)] μ (Qv cx (fun μ1 => laneR cx μ1 b (upL L j) ∧ off b 7 μ μ1)) := by
  refine mt_of hI (by decide) (Nat.le_of_ble_eq_true rfl) ?_
  intro p e s m below meth c ls F hr hlk hW hl
  have hx := F.1.1
  have hb := F.1.2.1
  have hts := F.1.2.2.2.2
  obtain ⟨fk, fs, fg, fd, fl, fc, h0, h1, h2, h3, h4, h5, h6, hv, hv2⟩ := id hL
  have hn6 := hk.1
  have hU := lok_U hk
  have hk4 := hk.2.2.2.1
  have hl : lv_has ls 2 [(0, .ref (xa cx b)), (1, .int (nI j))] := hl
  refine lv_aload_n hx hb dX0_standUp_0 rfl (lv_at hl 0 rfl) ?_
  refine lv_dup hx hb dX0_standUp_1 rfl ?_
  refine nv_get F hW (by omega) h0 rfl iX0 7 (by decide) tw_88 rfl dX0_standUp_2 ?_
  refine lv_iconst (v := nI 1) hx hb dX0_standUp_5 (by decide) ?_
  refine lv_iload_n hx hb dX0_standUp_6 rfl (lv_at hl 1 rfl) ?_
  refine nv_shl F (by omega) (pow2_lt (by omega)) dX0_standUp_7 ?_
  refine nv_top (y := ((nI (2 ^ j)))) (by rw [Nat.one_mul]) ?_
  refine nv_or F dX0_standUp_8 ?_
  refine nv_put F hW (by omega) h0 rfl iX0 tyX0 tyX0_ok nmX0 7 (by decide) tw_88 rfl rfl rfl (Nat.le_of_ble_eq_true rfl) dX0_standUp_9 (fun H locs hW => ?_)
  obtain ⟨μ1, eμ1⟩ : ∃ z : ME, z = va_up μ b (.inr (0, [.ref (xa cx (b + 1)), .ref (xa cx (b + 2)), .ref (xa cx (b + 3)), .ref (xa cx (b + 4)), .ref (xa cx (b + 5)), .ref (xa cx (b + 6)), .int (nI (Ln L)), .int (nI ((LU L) ||| (2 ^ j))), .int (nI (Lh L))])) := ⟨_, rfl⟩
  have hW : St cx s μ1 H locs := by rw [eμ1]; exact hW
  have hb_1 : μ1 b = .inr (0, [.ref (xa cx (b + 1)), .ref (xa cx (b + 2)), .ref (xa cx (b + 3)), .ref (xa cx (b + 4)), .ref (xa cx (b + 5)), .ref (xa cx (b + 6)), .int (nI (Ln L)), .int (nI ((LU L) ||| (2 ^ j))), .int (nI (Lh L))]) := by rw [eμ1, va_up_self]
  have hb_1_1 := (congrFun eμ1 (b + 1)).trans ((va_up_ne _ _ (by omega)).trans h1)
  have hb_2_1 := (congrFun eμ1 (b + 2)).trans ((va_up_ne _ _ (by omega)).trans h2)
  have hb_3_1 := (congrFun eμ1 (b + 3)).trans ((va_up_ne _ _ (by omega)).trans h3)
  have hb_4_1 := (congrFun eμ1 (b + 4)).trans ((va_up_ne _ _ (by omega)).trans h4)
  have hb_5_1 := (congrFun eμ1 (b + 5)).trans ((va_up_ne _ _ (by omega)).trans h5)
  have hb_6_1 := (congrFun eμ1 (b + 6)).trans ((va_up_ne _ _ (by omega)).trans h6)
  refine lv_aload_n hx hb dX0_standUp_12 rfl (lv_at hl 0 rfl) ?_
  refine nv_get F hW (by omega) hb_1 rfl iX0 4 (by decide) tw_85 rfl dX0_standUp_13 ?_
  refine lv_iload_n hx hb dX0_standUp_16 rfl (lv_at hl 1 rfl) ?_
  refine lv_aload_n hx hb dX0_standUp_17 rfl (lv_at hl 0 rfl) ?_
  refine nv_get F hW (by omega) hb_1 rfl iX0 1 (by decide) tw_82 rfl dX0_standUp_18 ?_
  refine lv_iload_n hx hb dX0_standUp_21 rfl (lv_at hl 1 rfl) ?_
  refine nv_ialdN (x := ((nI (Ls L j)))) F hW (by omega) hb_2_1 (by omega) (by decide) (hv j (by omega)).2.1 dX0_standUp_22 ?_
  refine nv_iastN F hW (by omega) hb_5_1 (by omega) (by decide) dX0_standUp_23 (fun H locs hW => ?_)
  obtain ⟨μ2, eμ2⟩ : ∃ z : ME, z = va_up μ1 (b + 5) (.inl (xT cx 0, 6, .inl (upd fl j ((nI (Ls L j)))))) := ⟨_, rfl⟩
  have hW : St cx s μ2 H locs := by rw [eμ2]; exact hW
  have hb_2 := (congrFun eμ2 b).trans ((va_up_ne _ _ (by omega)).trans hb_1)
  have hb_1_2 := (congrFun eμ2 (b + 1)).trans ((va_up_ne _ _ (by omega)).trans hb_1_1)
  have hb_2_2 := (congrFun eμ2 (b + 2)).trans ((va_up_ne _ _ (by omega)).trans hb_2_1)
  have hb_3_2 := (congrFun eμ2 (b + 3)).trans ((va_up_ne _ _ (by omega)).trans hb_3_1)
  have hb_4_2 := (congrFun eμ2 (b + 4)).trans ((va_up_ne _ _ (by omega)).trans hb_4_1)
  have hb_5_2 : μ2 (b + 5) = .inl (xT cx 0, 6, .inl (upd fl j ((nI (Ls L j))))) := by rw [eμ2, va_up_self]
  have hb_6_2 := (congrFun eμ2 (b + 6)).trans ((va_up_ne _ _ (by omega)).trans hb_6_1)
  exact rt_v F hr hlk hW ⟨⟨fk, fs, fg, fd, (upd fl j ((nI (Ls L j)))), fc, hb_2, hb_1_2, hb_2_2, hb_3_2, hb_4_2, hb_5_2, hb_6_2, hv, fun i hi => by
      rw [lst_up hj] at hi
      unfold upd
      show (if i = j then nI (Ls L j) else fl i) = nI (if i = j then Ls L j else Ll L i)
      by_cases e : i = j
      · rw [if_pos e, if_pos e]
      · rw [if_neg e, if_neg e]
        exact hv2 i (by simpa [e] using hi)⟩, (fun z hz => by rw [eμ2, va_up_ne _ _ (by omega)]; rw [eμ1, va_up_ne _ _ (by omega)])⟩ dX0_standUp_24
end
section
theorem lok_addS {L : LN} {B : Nat} (hk : lok L B) (j v : Nat) : lok (addS L j v) B := by
  unfold addS
  split
  · rename_i h
    have hc := of_decide_eq_true h
    obtain ⟨h1, h2, h3, h4, h5, h6, h7⟩ := hk
    refine ⟨h1, h2, h3, fun i hi => ?_, h5, h6, h7⟩
    have := h4 i hi
    refine ⟨this.1, ?_, this.2.2⟩
    show va_up (Ls L) j (Ls L j + v) i ≤ 99
    unfold va_up
    split
    · exact hc.2.2
    · exact this.2.1
  · exact hk
theorem lok_subS {L : LN} {B : Nat} (hk : lok L B) (j v : Nat) : lok (subS L j v) B := by
  unfold subS
  split
  · rename_i h
    have hc := of_decide_eq_true h
    obtain ⟨h1, h2, h3, h4, h5, h6, h7⟩ := hk
    refine ⟨h1, h2, h3, fun i hi => ?_, h5, h6, h7⟩
    have := h4 i hi
    refine ⟨this.1, ?_, this.2.2⟩
    show va_up (Ls L) j (Ls L j - v) i ≤ 99
    unfold va_up
    split
    · rename_i e
      subst e
      omega
    · exact this.2.1
  · exact hk
theorem lok_setD {L : LN} {B : Nat} (hk : lok L B) (j v : Nat) : lok (setD L j v) B := by
  unfold setD
  split
  · rename_i h
    have hc := of_decide_eq_true h
    obtain ⟨h1, h2, h3, h4, h5, h6, h7⟩ := hk
    refine ⟨h1, h2, h3, fun i hi => ?_, h5, h6, h7⟩
    have := h4 i hi
    refine ⟨this.1, this.2.1, this.2.2.1, ?_⟩
    show va_up (Ld L) j v i ≤ 3
    unfold va_up
    split
    · omega
    · exact this.2.2.2
  · exact hk
theorem lok_emptyL {L : LN} {B : Nat} (hk : lok L B) (q : Nat) : lok (emptyL L q) B := by
  obtain ⟨h1, h2, h3, h4, h5, h6, h7⟩ := hk
  refine ⟨h1, h2, h3, fun i hi => ?_, h5, h6, h7⟩
  have := h4 i hi
  refine ⟨this.1, ?_, this.2.2⟩
  show (if q.testBit i = true then Ls L i else 0) ≤ 99
  split
  · exact this.2.1
  · omega
theorem lok_failL {L : LN} {B : Nat} (hk : lok L B) (q : Nat) : lok (failL L q) B := by
  obtain ⟨h1, h2, h3, h4, h5, h6, h7⟩ := hk
  refine ⟨h1, h2, h3, fun i hi => ?_, h5, h6, h7⟩
  have := h4 i hi
  refine ⟨this.1, this.2.1, this.2.2.1, ?_⟩
  show (if q.testBit i = true then 3 else Ld L i) ≤ 3
  split
  · omega
  · exact this.2.2.2
theorem lsum_up {f : Nat → Nat} {j v : Nat} (hj : j < 6) (hv : v ≤ 99) : va_up f j v 0 + va_up f j v 1 + va_up f j v 2 + va_up f j v 3 + va_up f j v 4 + va_up f j v 5 ≤ f 0 + f 1 + f 2 + f 3 + f 4 + f 5 + 99 := by
  unfold va_up
  rcases (show j = 0 ∨ j = 1 ∨ j = 2 ∨ j = 3 ∨ j = 4 ∨ j = 5 by omega) with rfl | rfl | rfl | rfl | rfl | rfl <;> simp <;> omega
theorem or_lt {U j n : Nat} (h : U < 2 ^ n) (hj : j < n) : U ||| 2 ^ j < 2 ^ n := Nat.or_lt_two_pow h (Nat.pow_lt_pow_right (by decide) hj)
theorem lok_raiseL {L : LN} {B : Nat} (hk : lok L B) (j : Nat) : lok (raiseL L j) (B + 600) := by
  unfold raiseL
  split
  · rename_i h
    unfold canR at h
    simp only [Bool.and_eq_true, decide_eq_true_eq] at h
    have hj := h.1
    obtain ⟨h1, h2, h3, h4, h5, h6, h7⟩ := hk
    generalize hM : ((Ln L, (if Lk L j = 4 then va_up (Lk L) j 0 else Lk L), Ls L, Lg L, Ld L, Ll L, LU L, Lh L) : LN) = M
    have e1 : Ln M = Ln L := by rw [← hM]
    have e2 : lst M = lst L := by rw [← hM]; rfl
    refine ⟨by show Ln M ≤ 6; omega, ?_, ?_, fun i hi => ?_, fun i hi => ?_, fun i hi => ?_, ?_⟩
    · show LU M ||| 2 ^ j < 2 ^ Ln M
      rw [← hM]
      exact or_lt h2 hj
    · show Lh M ≤ _
      rw [← hM]
      show Lh L ≤ _
      omega
    · have := h4 i (by rw [← e1]; exact hi)
      rw [← hM]
      refine ⟨?_, this.2⟩
      show (if Lk L j = 4 then va_up (Lk L) j 0 else Lk L) i ≤ 4
      split
      · unfold va_up
        split
        · omega
        · exact this.1
      · exact this.1
    · rw [lst_up (by rw [e1]; exact hj), e2] at hi
      show Lk M i ≠ 4
      rw [← hM]
      show (if Lk L j = 4 then va_up (Lk L) j 0 else Lk L) i ≠ 4
      by_cases e : i = j
      · subst e
        split
        · rw [va_up_self]; omega
        · assumption
      · have hl : lst L i = true := by simpa [e] using hi
        split
        · rw [va_up_ne _ _ e]; exact h5 i hl
        · exact h5 i hl
    · rw [lst_up (by rw [e1]; exact hj), e2] at hi
      show va_up (Ll M) j (Ls M j) i = 0
      rw [← hM]
      show va_up (Ll L) j (Ls L j) i = 0
      by_cases e : i = j
      · simp [e] at hi
      · rw [va_up_ne _ _ e]
        exact h6 i (by simpa [e] using hi)
    · show va_up (Ll M) j (Ls M j) 0 + va_up (Ll M) j (Ls M j) 1 + va_up (Ll M) j (Ls M j) 2 + va_up (Ll M) j (Ls M j) 3 + va_up (Ll M) j (Ls M j) 4 + va_up (Ll M) j (Ls M j) 5 ≤ B + 600
      rw [← hM]
      have := lsum_up (f := Ll L) (j := j) (v := Ls L j) (by omega) (h4 j hj).2.1
      show va_up (Ll L) j (Ls L j) 0 + va_up (Ll L) j (Ls L j) 1 + va_up (Ll L) j (Ls L j) 2 + va_up (Ll L) j (Ls L j) 3 + va_up (Ll L) j (Ls L j) 4 + va_up (Ll L) j (Ls L j) 5 ≤ B + 600
      omega
  · exact lok_mono hk (by omega)

theorem va_self {α : Type} (f : Nat → α) (k : Nat) : va_up f k (f k) = f := by
  funext j
  unfold va_up
  split
  · rename_i h; rw [h]
  · rfl

theorem lok_k0 {L : LN} {B : Nat} (hk : lok L B) (j : Nat) : lok (Ln L, va_up (Lk L) j 0, Ls L, Lg L, Ld L, Ll L, LU L, Lh L) B := by
  obtain ⟨h1, h2, h3, h4, h5, h6, h7⟩ := hk
  refine ⟨h1, h2, h3, fun i hi => ?_, fun i hi => ?_, h6, h7⟩
  · have := h4 i hi
    refine ⟨?_, this.2⟩
    show va_up (Lk L) j 0 i ≤ 4
    unfold va_up
    split
    · omega
    · exact this.1
  · show va_up (Lk L) j 0 i ≠ 4
    unfold va_up
    split
    · omega
    · exact h5 i hi

set_option maxHeartbeats 4000000 in
set_option maxRecDepth 100000 in
theorem c_raise {cx : CX} (hI : xI cx) (l : Launch) {μ : ME} {b : Nat} {L : LN} {B : Nat} (hb7 : b + 7 ≤ xN cx) (hL : laneR cx μ b L) (hk : lok L B) (j : Nat) (hjj : j < 2147483648) : MT cx l yX0_raise cX0_raise 2 (some .boolean) 1 21 [.ref (xa cx b), .int (nI j)] μ (Ei cx (b2 (canR L j)) (fun μ1 => laneR cx μ1 b (raiseL L j) ∧ off b 7 μ μ1)) := by
  refine mt_of hI (by decide) (Nat.le_of_ble_eq_true rfl) ?_
  intro p e s m below meth c ls F hr hlk hW hl
  have hx := F.1.1
  have hb := F.1.2.1
  have hts := F.1.2.2.2.2
  obtain ⟨fk, fs, fg, fd, fl, fc, h0, h1, h2, h3, h4, h5, h6, hv, hv2⟩ := id hL
  have hn6 := hk.1
  have hU := lok_U hk
  have hk4 := hk.2.2.2.1
  have hl : lv_has ls 2 [(0, .ref (xa cx b)), (1, .int (nI j))] := hl
  refine lv_aload_n hx hb dX0_raise_0 rfl (lv_at hl 0 rfl) ?_
  refine lv_iload_n hx hb dX0_raise_1 rfl (lv_at hl 1 rfl) ?_
  refine cl_ip (cl_run (rest := []) F hW e_X0_63 (c_hasN hI l hb7 hL hk j (by omega)) ⟨Nat.le_of_ble_eq_true rfl, Nat.le_of_ble_eq_true rfl⟩ (by omega) h0 rfl rfl rfl hl (Nat.le_of_ble_eq_true rfl) dX0_raise_2 ⟨Nat.zero_le _, Nat.zero_le _⟩) hW (fun H locs hW => ?_)
  refine nv_beq (tgt := 16) F dX0_raise_5 (by decide) (fun c_1 => ?_) (fun c_1 => ?_)
  · skip
    refine lv_iconst (v := nI 0) hx hb dX0_raise_16 (by decide) ?_
    have hcr : canR L j = false := by unfold canR; first | (rw [‹decide (j < Ln L) = false›]; rfl) | (rw [‹lst L j = true›]; simp)
    exact rt_ze F hr hlk hW (by rw [hcr]; rfl) ⟨by unfold raiseL; rw [if_neg (by rw [hcr]; decide)]; exact hL, off_rf⟩ dX0_raise_17
  · skip
    have hj := of_decide_eq_true c_1
    refine lv_aload_n hx hb dX0_raise_8 rfl (lv_at hl 0 rfl) ?_
    refine lv_iload_n hx hb dX0_raise_9 rfl (lv_at hl 1 rfl) ?_
    refine cl_ip (cl_run (rest := []) F hW e_X0_67 (c_standsN hI l hb7 hL hk j (by omega)) ⟨Nat.le_of_ble_eq_true rfl, Nat.le_of_ble_eq_true rfl⟩ (by omega) h0 rfl rfl rfl hl (Nat.le_of_ble_eq_true rfl) dX0_raise_10 ⟨Nat.zero_le _, Nat.zero_le _⟩) hW (fun H locs hW => ?_)
    refine nv_beq (tgt := 18) F dX0_raise_13 (by decide) (fun c_2 => ?_) (fun c_2 => ?_)
    · skip
      refine lv_aload_n hx hb dX0_raise_18 rfl (lv_at hl 0 rfl) ?_
      refine nv_get F hW (by omega) h0 rfl iX0 0 (by decide) tw_81 rfl dX0_raise_19 ?_
      refine lv_iload_n hx hb dX0_raise_22 rfl (lv_at hl 1 rfl) ?_
      refine nv_ialdN (x := ((nI (Lk L j)))) F hW (by omega) h1 (by omega) (by decide) (hv j (by omega)).1 dX0_raise_23 ?_
      refine lv_iconst (v := nI 4) hx hb dX0_raise_24 (by decide) ?_
      refine nv_cne (tgt := 35) F (by have := (hk4 j hj).1; omega) (by omega) dX0_raise_25 (by decide) (fun c_3 => ?_) (fun c_3 => ?_)
      · skip
        have hcr : canR L j = true := by unfold canR; rw [decide_eq_true hj, c_2]; rfl
        refine lv_aload_n hx hb dX0_raise_35 rfl (lv_at hl 0 rfl) ?_
        refine lv_iload_n hx hb dX0_raise_36 rfl (lv_at hl 1 rfl) ?_
        have hkm := lok_k0 hk j
        refine cl_v (cl_run (rest := []) F hW e_X0_59 (c_standUp hI l hb7 hL hk j hj) ⟨Nat.le_of_ble_eq_true rfl, Nat.le_of_ble_eq_true rfl⟩ (by omega) h0 rfl rfl rfl hl (Nat.le_of_ble_eq_true rfl) dX0_raise_37 ⟨Nat.zero_le _, Nat.zero_le _⟩) hW (fun μ4 H locs q_4 hW => ?_)
        obtain ⟨hLz, hoz⟩ := q_4
        refine lv_iconst (v := nI 1) hx hb dX0_raise_40 (by decide) ?_
        exact rt_ze F hr hlk hW (by rw [hcr]; rfl) ⟨by unfold raiseL; rw [if_pos hcr, if_neg c_3]; exact hLz, (fun z hz => by rw [hoz z (by omega)])⟩ dX0_raise_41
      · skip
        have hcr : canR L j = true := by unfold canR; rw [decide_eq_true hj, c_2]; rfl
        refine lv_aload_n hx hb dX0_raise_28 rfl (lv_at hl 0 rfl) ?_
        refine nv_get F hW (by omega) h0 rfl iX0 0 (by decide) tw_81 rfl dX0_raise_29 ?_
        refine lv_iload_n hx hb dX0_raise_32 rfl (lv_at hl 1 rfl) ?_
        refine lv_iconst (v := nI 0) hx hb dX0_raise_33 (by decide) ?_
        refine nv_iastN F hW (by omega) h1 (by omega) (by decide) dX0_raise_34 (fun H locs hW => ?_)
        obtain ⟨μ5, eμ5⟩ : ∃ z : ME, z = va_up μ (b + 1) (.inl (xT cx 0, 6, .inl (upd fk j ((nI 0))))) := ⟨_, rfl⟩
        have hW : St cx s μ5 H locs := by rw [eμ5]; exact hW
        have hb_5 := (congrFun eμ5 b).trans ((va_up_ne _ _ (by omega)).trans h0)
        have hb_1_5 : μ5 (b + 1) = .inl (xT cx 0, 6, .inl (upd fk j ((nI 0)))) := by rw [eμ5, va_up_self]
        have hb_2_5 := (congrFun eμ5 (b + 2)).trans ((va_up_ne _ _ (by omega)).trans h2)
        have hb_3_5 := (congrFun eμ5 (b + 3)).trans ((va_up_ne _ _ (by omega)).trans h3)
        have hb_4_5 := (congrFun eμ5 (b + 4)).trans ((va_up_ne _ _ (by omega)).trans h4)
        have hb_5_5 := (congrFun eμ5 (b + 5)).trans ((va_up_ne _ _ (by omega)).trans h5)
        have hb_6_5 := (congrFun eμ5 (b + 6)).trans ((va_up_ne _ _ (by omega)).trans h6)
        refine lv_aload_n hx hb dX0_raise_35 rfl (lv_at hl 0 rfl) ?_
        refine lv_iload_n hx hb dX0_raise_36 rfl (lv_at hl 1 rfl) ?_
        have hkm := lok_k0 hk j
        have hLm : laneR cx μ5 b (Ln L, va_up (Lk L) j 0, Ls L, Lg L, Ld L, Ll L, LU L, Lh L) := ⟨(upd fk j ((nI 0))), fs, fg, fd, fl, fc, hb_5, hb_1_5, hb_2_5, hb_3_5, hb_4_5, hb_5_5, hb_6_5, fun i hi => ⟨upd_va (g := Lk L) (fun i hi => (hv i hi).1) i hi, (hv i hi).2⟩, hv2⟩
        refine cl_v (cl_run (rest := []) F hW e_X0_59 (c_standUp hI l hb7 hLm hkm j hj) ⟨Nat.le_of_ble_eq_true rfl, Nat.le_of_ble_eq_true rfl⟩ (by omega) hb_5 rfl rfl rfl hl (Nat.le_of_ble_eq_true rfl) dX0_raise_37 ⟨Nat.zero_le _, Nat.zero_le _⟩) hW (fun μ6 H locs q_6 hW => ?_)
        obtain ⟨hLz, hoz⟩ := q_6
        refine lv_iconst (v := nI 1) hx hb dX0_raise_40 (by decide) ?_
        exact rt_ze F hr hlk hW (by rw [hcr]; rfl) ⟨by unfold raiseL; rw [if_pos hcr, if_pos c_3]; exact hLz, (fun z hz => by rw [hoz z (by omega)]; rw [eμ5, va_up_ne _ _ (by omega)])⟩ dX0_raise_41
    · skip
      refine lv_iconst (v := nI 0) hx hb dX0_raise_16 (by decide) ?_
      have hcr : canR L j = false := by unfold canR; first | (rw [‹decide (j < Ln L) = false›]; rfl) | (rw [‹lst L j = true›]; simp)
      exact rt_ze F hr hlk hW (by rw [hcr]; rfl) ⟨by unfold raiseL; rw [if_neg (by rw [hcr]; decide)]; exact hL, off_rf⟩ dX0_raise_17

set_option maxHeartbeats 4000000 in
set_option maxRecDepth 100000 in
theorem c_emptyAllBut {cx : CX} (hI : xI cx) (l : Launch) {μ : ME} {b : Nat} {L : LN} {B : Nat} (hb7 : b + 7 ≤ xN cx) (hL : laneR cx μ b L) (hk : lok L B) (bits : Nat) (hbits : bits < 64) : MT cx l yX0_emptyAllBut cX0_emptyAllBut 3 none 0 0 [.ref (xa cx b), .int (nI bits)] μ (Qv cx (fun μ1 => laneR cx μ1 b (emptyL L bits) ∧ off b 7 μ μ1)) := by
  refine mt_of hI (by decide) (Nat.le_of_ble_eq_true rfl) ?_
  intro p e s m below meth c ls F hr hlk hW hl
  have hx := F.1.1
  have hb := F.1.2.1
  have hts := F.1.2.2.2.2
  obtain ⟨fk, fs, fg, fd, fl, fc, h0, h1, h2, h3, h4, h5, h6, hv, hv2⟩ := id hL
  have hn6 := hk.1
  have hU := lok_U hk
  have hk4 := hk.2.2.2.1
  have hl : lv_has ls 3 [(0, .ref (xa cx b)), (1, .int (nI bits))] := hl
  refine lv_iconst (v := nI 0) hx hb dX0_emptyAllBut_0 (by decide) ?_
  refine lv_istore_n (lv' := [(2, .int (nI 0)), (0, .ref (xa cx b)), (1, .int (nI bits))]) hx hb dX0_emptyAllBut_1 rfl hl (by decide) rfl (fun ls hl => ?_)
  have LOOP : ∀ (d i : Nat) (g : Nat → Int32) (μ1 : ME) (H : Heap) (locs : List Loc) (ls : Array Slot), i + d = Ln L → (μ1 = va_up μ (b + 2) (.inl (xT cx 0, 6, .inl g))) → (∀ t, t < Ln L → g t = nI (if t < i then (if bits.testBit t then Ls L t else 0) else Ls L t)) → St cx s μ1 H locs → lv_has ls 3 [(0, .ref (xa cx b)), (1, .int (nI bits)), (2, .int (nI i))] → W p l e { frames := 0, cells := 0, slots := 0, locals := 0 } s m [.ref (xa cx b), .int (nI bits)].toArray below meth c H locs 0 0 (MQ below (Qv cx (fun μ1 => laneR cx μ1 b (emptyL L bits) ∧ off b 7 μ μ1)) [.ref (xa cx b), .int (nI bits)].toArray s 0 0 (xA cx)) (F0 m 2 ls []) := by
    intro d
    induction d with
    | zero =>
      intro i g μ1 H locs ls hid hm hg hW hl
      have k2 := (congrFun hm (b + 2)).trans (va_up_self _ _ _)
      have k0 := (congrFun hm (b)).trans ((va_up_ne _ _ (by omega)).trans h0)
      have k1 := (congrFun hm (b + 1)).trans ((va_up_ne _ _ (by omega)).trans h1)
      have k3 := (congrFun hm (b + 3)).trans ((va_up_ne _ _ (by omega)).trans h3)
      have k4 := (congrFun hm (b + 4)).trans ((va_up_ne _ _ (by omega)).trans h4)
      have k5 := (congrFun hm (b + 5)).trans ((va_up_ne _ _ (by omega)).trans h5)
      have k6 := (congrFun hm (b + 6)).trans ((va_up_ne _ _ (by omega)).trans h6)
      refine lv_iload_n hx hb dX0_emptyAllBut_2 rfl (lv_at hl 2 rfl) ?_
      refine lv_aload_n hx hb dX0_emptyAllBut_3 rfl (lv_at hl 0 rfl) ?_
      refine nv_get F hW (by omega) k0 rfl iX0 6 (by decide) tw_87 rfl dX0_emptyAllBut_4 ?_
      refine nv_cge (tgt := 31) F (by omega) (by omega) dX0_emptyAllBut_7 (by decide) (fun c_1 => ?_) (fun c_1 => ?_)
      · skip
        have hin : i = Ln L := by omega
        exact rt_v F hr hlk hW ⟨⟨fk, g, fg, fd, fl, fc, k0, k1, k2, k3, k4, k5, k6, fun q hq => ⟨(hv q hq).1, (hg q hq).trans (by rw [if_pos (show q < i from by rw [hin]; exact hq)]; rfl), (hv q hq).2.2⟩, hv2⟩, fun z hz => by rw [hm, va_up_ne _ _ (by omega)]⟩ dX0_emptyAllBut_31
      · skip
        exact absurd c_1 (by omega)
    | succ d ih =>
      intro i g μ1 H locs ls hid hm hg hW hl
      have k2 := (congrFun hm (b + 2)).trans (va_up_self _ _ _)
      have k0 := (congrFun hm (b)).trans ((va_up_ne _ _ (by omega)).trans h0)
      have k1 := (congrFun hm (b + 1)).trans ((va_up_ne _ _ (by omega)).trans h1)
      have k3 := (congrFun hm (b + 3)).trans ((va_up_ne _ _ (by omega)).trans h3)
      have k4 := (congrFun hm (b + 4)).trans ((va_up_ne _ _ (by omega)).trans h4)
      have k5 := (congrFun hm (b + 5)).trans ((va_up_ne _ _ (by omega)).trans h5)
      have k6 := (congrFun hm (b + 6)).trans ((va_up_ne _ _ (by omega)).trans h6)
      refine lv_iload_n hx hb dX0_emptyAllBut_2 rfl (lv_at hl 2 rfl) ?_
      refine lv_aload_n hx hb dX0_emptyAllBut_3 rfl (lv_at hl 0 rfl) ?_
      refine nv_get F hW (by omega) k0 rfl iX0 6 (by decide) tw_87 rfl dX0_emptyAllBut_4 ?_
      refine nv_cge (tgt := 31) F (by omega) (by omega) dX0_emptyAllBut_7 (by decide) (fun c_2 => ?_) (fun c_2 => ?_)
      · skip
        exact absurd c_2 (by omega)
      · skip
        refine lv_iload_n hx hb dX0_emptyAllBut_10 rfl (lv_at hl 1 rfl) ?_
        refine lv_iload_n hx hb dX0_emptyAllBut_11 rfl (lv_at hl 2 rfl) ?_
        refine nv_shr F (by omega) (by omega) dX0_emptyAllBut_12 ?_
        refine lv_iconst (v := nI 1) hx hb dX0_emptyAllBut_13 (by decide) ?_
        refine nv_and F dX0_emptyAllBut_14 ?_
        refine nv_top (y := ((b2 (bits.testBit i)))) (bit_b2 _ _) ?_
        refine nv_bne (tgt := 25) F dX0_emptyAllBut_15 (by decide) (fun c_3 => ?_) (fun c_3 => ?_)
        · skip
          refine lv_iinc (v := ((nI (i + 1)))) (lv' := [(2, .int (nI (i + 1))), (0, .ref (xa cx b)), (1, .int (nI bits))]) hx hb dX0_emptyAllBut_25 hl (k := 2) rfl (nI_add _ _) (by decide) rfl (fun ls hl => ?_)
          refine lv_goto (tgt := 2) hx hb dX0_emptyAllBut_28 (by decide) ?_
          exact ih (i + 1) g μ1 _ _ _ (by omega) hm (fun t ht => by
              rw [hg t ht]
              by_cases e : t = i
              · subst e; rw [if_neg (show ¬ t < t by omega), if_pos (show t < t + 1 by omega), c_3]; rfl
              · by_cases e2 : t < i
                · rw [if_pos e2, if_pos (show t < i + 1 by omega)]
                · rw [if_neg e2, if_neg (show ¬ t < i + 1 by omega)]) hW (lv_sub hl [1, 2, 0] rfl)
        · skip
          refine lv_aload_n hx hb dX0_emptyAllBut_18 rfl (lv_at hl 0 rfl) ?_
          refine nv_get F hW (by omega) k0 rfl iX0 1 (by decide) tw_82 rfl dX0_emptyAllBut_19 ?_
          refine lv_iload_n hx hb dX0_emptyAllBut_22 rfl (lv_at hl 2 rfl) ?_
          refine lv_iconst (v := nI 0) hx hb dX0_emptyAllBut_23 (by decide) ?_
          refine nv_iastN F hW (by omega) k2 (by omega) (by decide) dX0_emptyAllBut_24 (fun H locs hW => ?_)
          obtain ⟨μ4, eμ4⟩ : ∃ z : ME, z = va_up μ1 (b + 2) (.inl (xT cx 0, 6, .inl (upd g i ((nI 0))))) := ⟨_, rfl⟩
          have hW : St cx s μ4 H locs := by rw [eμ4]; exact hW
          have hb_4 := (congrFun eμ4 b).trans ((va_up_ne _ _ (by omega)).trans k0)
          have hb_1_4 := (congrFun eμ4 (b + 1)).trans ((va_up_ne _ _ (by omega)).trans k1)
          have hb_2_4 : μ4 (b + 2) = .inl (xT cx 0, 6, .inl (upd g i ((nI 0)))) := by rw [eμ4, va_up_self]
          have hb_3_4 := (congrFun eμ4 (b + 3)).trans ((va_up_ne _ _ (by omega)).trans k3)
          have hb_4_4 := (congrFun eμ4 (b + 4)).trans ((va_up_ne _ _ (by omega)).trans k4)
          have hb_5_4 := (congrFun eμ4 (b + 5)).trans ((va_up_ne _ _ (by omega)).trans k5)
          have hb_6_4 := (congrFun eμ4 (b + 6)).trans ((va_up_ne _ _ (by omega)).trans k6)
          refine lv_iinc (v := ((nI (i + 1)))) (lv' := [(2, .int (nI (i + 1))), (0, .ref (xa cx b)), (1, .int (nI bits))]) hx hb dX0_emptyAllBut_25 hl (k := 2) rfl (nI_add _ _) (by decide) rfl (fun ls hl => ?_)
          refine lv_goto (tgt := 2) hx hb dX0_emptyAllBut_28 (by decide) ?_
          exact ih (i + 1) (upd g i ((nI 0))) μ4 _ _ _ (by omega) (by rw [eμ4, hm, bx_uu]) (fun t ht => by
              show upd g i _ t = _
              unfold upd
              by_cases e : t = i
              · subst e; rw [if_pos rfl, if_pos (show t < t + 1 by omega), c_3]; rfl
              · rw [if_neg e, hg t ht]
                by_cases e2 : t < i
                · rw [if_pos e2, if_pos (show t < i + 1 by omega)]
                · rw [if_neg e2, if_neg (show ¬ t < i + 1 by omega)]) hW (lv_sub hl [1, 2, 0] rfl)
  exact LOOP (Ln L) 0 fs μ _ _ _ (by omega) (by rw [← h2]; exact (va_self _ _).symm) (fun t ht => by rw [if_neg (by omega)]; exact (hv t ht).2.1) hW (lv_sub hl [1, 2, 0] rfl)

set_option maxHeartbeats 4000000 in
set_option maxRecDepth 100000 in
theorem c_failDeeds {cx : CX} (hI : xI cx) (l : Launch) {μ : ME} {b : Nat} {L : LN} {B : Nat} (hb7 : b + 7 ≤ xN cx) (hL : laneR cx μ b L) (hk : lok L B) (bits : Nat) (hbits : bits < 64) : MT cx l yX0_failDeeds cX0_failDeeds 3 none 0 0 [.ref (xa cx b), .int (nI bits)] μ (Qv cx (fun μ1 => laneR cx μ1 b (failL L bits) ∧ off b 7 μ μ1)) := by
  refine mt_of hI (by decide) (Nat.le_of_ble_eq_true rfl) ?_
  intro p e s m below meth c ls F hr hlk hW hl
  have hx := F.1.1
  have hb := F.1.2.1
  have hts := F.1.2.2.2.2
  obtain ⟨fk, fs, fg, fd, fl, fc, h0, h1, h2, h3, h4, h5, h6, hv, hv2⟩ := id hL
  have hn6 := hk.1
  have hU := lok_U hk
  have hk4 := hk.2.2.2.1
  have hl : lv_has ls 3 [(0, .ref (xa cx b)), (1, .int (nI bits))] := hl
  refine lv_iconst (v := nI 0) hx hb dX0_failDeeds_0 (by decide) ?_
  refine lv_istore_n (lv' := [(2, .int (nI 0)), (0, .ref (xa cx b)), (1, .int (nI bits))]) hx hb dX0_failDeeds_1 rfl hl (by decide) rfl (fun ls hl => ?_)
  have LOOP : ∀ (d i : Nat) (g : Nat → Int32) (μ1 : ME) (H : Heap) (locs : List Loc) (ls : Array Slot), i + d = Ln L → (μ1 = va_up μ (b + 4) (.inl (xT cx 0, 6, .inl g))) → (∀ t, t < Ln L → g t = nI (if t < i then (if bits.testBit t then 3 else Ld L t) else Ld L t)) → St cx s μ1 H locs → lv_has ls 3 [(0, .ref (xa cx b)), (1, .int (nI bits)), (2, .int (nI i))] → W p l e { frames := 0, cells := 0, slots := 0, locals := 0 } s m [.ref (xa cx b), .int (nI bits)].toArray below meth c H locs 0 0 (MQ below (Qv cx (fun μ1 => laneR cx μ1 b (failL L bits) ∧ off b 7 μ μ1)) [.ref (xa cx b), .int (nI bits)].toArray s 0 0 (xA cx)) (F0 m 2 ls []) := by
    intro d
    induction d with
    | zero =>
      intro i g μ1 H locs ls hid hm hg hW hl
      have k4 := (congrFun hm (b + 4)).trans (va_up_self _ _ _)
      have k0 := (congrFun hm (b)).trans ((va_up_ne _ _ (by omega)).trans h0)
      have k1 := (congrFun hm (b + 1)).trans ((va_up_ne _ _ (by omega)).trans h1)
      have k2 := (congrFun hm (b + 2)).trans ((va_up_ne _ _ (by omega)).trans h2)
      have k3 := (congrFun hm (b + 3)).trans ((va_up_ne _ _ (by omega)).trans h3)
      have k5 := (congrFun hm (b + 5)).trans ((va_up_ne _ _ (by omega)).trans h5)
      have k6 := (congrFun hm (b + 6)).trans ((va_up_ne _ _ (by omega)).trans h6)
      refine lv_iload_n hx hb dX0_failDeeds_2 rfl (lv_at hl 2 rfl) ?_
      refine lv_aload_n hx hb dX0_failDeeds_3 rfl (lv_at hl 0 rfl) ?_
      refine nv_get F hW (by omega) k0 rfl iX0 6 (by decide) tw_87 rfl dX0_failDeeds_4 ?_
      refine nv_cge (tgt := 32) F (by omega) (by omega) dX0_failDeeds_7 (by decide) (fun c_1 => ?_) (fun c_1 => ?_)
      · skip
        have hin : i = Ln L := by omega
        exact rt_v F hr hlk hW ⟨⟨fk, fs, fg, g, fl, fc, k0, k1, k2, k3, k4, k5, k6, fun q hq => ⟨(hv q hq).1, (hv q hq).2.1, (hv q hq).2.2.1, (hg q hq).trans (by rw [if_pos (show q < i from by rw [hin]; exact hq)]; rfl)⟩, hv2⟩, fun z hz => by rw [hm, va_up_ne _ _ (by omega)]⟩ dX0_failDeeds_32
      · skip
        exact absurd c_1 (by omega)
    | succ d ih =>
      intro i g μ1 H locs ls hid hm hg hW hl
      have k4 := (congrFun hm (b + 4)).trans (va_up_self _ _ _)
      have k0 := (congrFun hm (b)).trans ((va_up_ne _ _ (by omega)).trans h0)
      have k1 := (congrFun hm (b + 1)).trans ((va_up_ne _ _ (by omega)).trans h1)
      have k2 := (congrFun hm (b + 2)).trans ((va_up_ne _ _ (by omega)).trans h2)
      have k3 := (congrFun hm (b + 3)).trans ((va_up_ne _ _ (by omega)).trans h3)
      have k5 := (congrFun hm (b + 5)).trans ((va_up_ne _ _ (by omega)).trans h5)
      have k6 := (congrFun hm (b + 6)).trans ((va_up_ne _ _ (by omega)).trans h6)
      refine lv_iload_n hx hb dX0_failDeeds_2 rfl (lv_at hl 2 rfl) ?_
      refine lv_aload_n hx hb dX0_failDeeds_3 rfl (lv_at hl 0 rfl) ?_
      refine nv_get F hW (by omega) k0 rfl iX0 6 (by decide) tw_87 rfl dX0_failDeeds_4 ?_
      refine nv_cge (tgt := 32) F (by omega) (by omega) dX0_failDeeds_7 (by decide) (fun c_2 => ?_) (fun c_2 => ?_)
      · skip
        exact absurd c_2 (by omega)
      · skip
        refine lv_iload_n hx hb dX0_failDeeds_10 rfl (lv_at hl 1 rfl) ?_
        refine lv_iload_n hx hb dX0_failDeeds_11 rfl (lv_at hl 2 rfl) ?_
        refine nv_shr F (by omega) (by omega) dX0_failDeeds_12 ?_
        refine lv_iconst (v := nI 1) hx hb dX0_failDeeds_13 (by decide) ?_
        refine nv_and F dX0_failDeeds_14 ?_
        refine nv_top (y := ((b2 (bits.testBit i)))) (bit_b2 _ _) ?_
        refine lv_iconst (v := nI 1) hx hb dX0_failDeeds_15 (by decide) ?_
        refine nv_b1ne (tgt := 26) F dX0_failDeeds_16 (by decide) (fun c_3 => ?_) (fun c_3 => ?_)
        · skip
          refine lv_iinc (v := ((nI (i + 1)))) (lv' := [(2, .int (nI (i + 1))), (0, .ref (xa cx b)), (1, .int (nI bits))]) hx hb dX0_failDeeds_26 hl (k := 2) rfl (nI_add _ _) (by decide) rfl (fun ls hl => ?_)
          refine lv_goto (tgt := 2) hx hb dX0_failDeeds_29 (by decide) ?_
          exact ih (i + 1) g μ1 _ _ _ (by omega) hm (fun t ht => by
              rw [hg t ht]
              by_cases e : t = i
              · subst e; rw [if_neg (show ¬ t < t by omega), if_pos (show t < t + 1 by omega), c_3]; rfl
              · by_cases e2 : t < i
                · rw [if_pos e2, if_pos (show t < i + 1 by omega)]
                · rw [if_neg e2, if_neg (show ¬ t < i + 1 by omega)]) hW (lv_sub hl [1, 2, 0] rfl)
        · skip
          refine lv_aload_n hx hb dX0_failDeeds_19 rfl (lv_at hl 0 rfl) ?_
          refine nv_get F hW (by omega) k0 rfl iX0 3 (by decide) tw_84 rfl dX0_failDeeds_20 ?_
          refine lv_iload_n hx hb dX0_failDeeds_23 rfl (lv_at hl 2 rfl) ?_
          refine lv_iconst (v := nI 3) hx hb dX0_failDeeds_24 (by decide) ?_
          refine nv_iastN F hW (by omega) k4 (by omega) (by decide) dX0_failDeeds_25 (fun H locs hW => ?_)
          obtain ⟨μ4, eμ4⟩ : ∃ z : ME, z = va_up μ1 (b + 4) (.inl (xT cx 0, 6, .inl (upd g i ((nI 3))))) := ⟨_, rfl⟩
          have hW : St cx s μ4 H locs := by rw [eμ4]; exact hW
          have hb_4 := (congrFun eμ4 b).trans ((va_up_ne _ _ (by omega)).trans k0)
          have hb_1_4 := (congrFun eμ4 (b + 1)).trans ((va_up_ne _ _ (by omega)).trans k1)
          have hb_2_4 := (congrFun eμ4 (b + 2)).trans ((va_up_ne _ _ (by omega)).trans k2)
          have hb_3_4 := (congrFun eμ4 (b + 3)).trans ((va_up_ne _ _ (by omega)).trans k3)
          have hb_4_4 : μ4 (b + 4) = .inl (xT cx 0, 6, .inl (upd g i ((nI 3)))) := by rw [eμ4, va_up_self]
          have hb_5_4 := (congrFun eμ4 (b + 5)).trans ((va_up_ne _ _ (by omega)).trans k5)
          have hb_6_4 := (congrFun eμ4 (b + 6)).trans ((va_up_ne _ _ (by omega)).trans k6)
          refine lv_iinc (v := ((nI (i + 1)))) (lv' := [(2, .int (nI (i + 1))), (0, .ref (xa cx b)), (1, .int (nI bits))]) hx hb dX0_failDeeds_26 hl (k := 2) rfl (nI_add _ _) (by decide) rfl (fun ls hl => ?_)
          refine lv_goto (tgt := 2) hx hb dX0_failDeeds_29 (by decide) ?_
          exact ih (i + 1) (upd g i ((nI 3))) μ4 _ _ _ (by omega) (by rw [eμ4, hm, bx_uu]) (fun t ht => by
              show upd g i _ t = _
              unfold upd
              by_cases e : t = i
              · subst e; rw [if_pos rfl, if_pos (show t < t + 1 by omega), c_3]; rfl
              · rw [if_neg e, hg t ht]
                by_cases e2 : t < i
                · rw [if_pos e2, if_pos (show t < i + 1 by omega)]
                · rw [if_neg e2, if_neg (show ¬ t < i + 1 by omega)]) hW (lv_sub hl [1, 2, 0] rfl)
  exact LOOP (Ln L) 0 fd μ _ _ _ (by omega) (by rw [← h4]; exact (va_self _ _).symm) (fun t ht => by rw [if_neg (by omega)]; exact (hv t ht).2.2.2) hW (lv_sub hl [1, 2, 0] rfl)
end
