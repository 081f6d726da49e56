-- ===== PART A: goes FIRST, ahead of the names: the tables' words, and 'selects' of the private methods out of them =====
/-- a private method of a class that the tables say can be made, by its rows of tables_1 -/
def lw_okq (q : MethodName × Nat) : Prop := (q.1.cls ≠ "java/lang/invoke/MethodHandle" ∧ q.1.cls ≠ "java/lang/invoke/VarHandle") ∧ Cond.instantiable q.1.cls q.2 ∈ tables_1 ∧ Cond.privateMethod q.1 ∈ tables_1 ∧ Cond.instanceMethod q.1 ∈ tables_1
theorem lw_p0 : lw_okq (⟨"CanalSteps", "recorded", "(I)I"⟩, 9) := ⟨⟨by decide +kernel, by decide +kernel⟩, List.mem_of_getElem? (i := 13) (by decide +kernel), List.mem_of_getElem? (i := 299) (by decide +kernel), List.mem_of_getElem? (i := 300) (by decide +kernel)⟩
theorem lw_p1 : lw_okq (⟨"CanalSteps", "doThing", "(LCanalSteps$Thing;)I"⟩, 9) := ⟨⟨by decide +kernel, by decide +kernel⟩, List.mem_of_getElem? (i := 13) (by decide +kernel), List.mem_of_getElem? (i := 460) (by decide +kernel), List.mem_of_getElem? (i := 461) (by decide +kernel)⟩
theorem lw_p2 : lw_okq (⟨"CanalSteps", "arrivalsAfterTurn", "(I)I"⟩, 9) := ⟨⟨by decide +kernel, by decide +kernel⟩, List.mem_of_getElem? (i := 13) (by decide +kernel), List.mem_of_getElem? (i := 574) (by decide +kernel), List.mem_of_getElem? (i := 575) (by decide +kernel)⟩
theorem lw_p3 : lw_okq (⟨"CanalStepsModel", "errorOfBoat", "(IIII)I"⟩, 20) := ⟨⟨by decide +kernel, by decide +kernel⟩, List.mem_of_getElem? (i := 610) (by decide +kernel), List.mem_of_getElem? (i := 681) (by decide +kernel), List.mem_of_getElem? (i := 682) (by decide +kernel)⟩
theorem lw_p4 : lw_okq (⟨"CanalStepsModel", "record", "()V"⟩, 20) := ⟨⟨by decide +kernel, by decide +kernel⟩, List.mem_of_getElem? (i := 610) (by decide +kernel), List.mem_of_getElem? (i := 691) (by decide +kernel), List.mem_of_getElem? (i := 692) (by decide +kernel)⟩
theorem lw_p5 : lw_okq (⟨"CanalStepsModel", "comes", "(IIII)I"⟩, 20) := ⟨⟨by decide +kernel, by decide +kernel⟩, List.mem_of_getElem? (i := 610) (by decide +kernel), List.mem_of_getElem? (i := 695) (by decide +kernel), List.mem_of_getElem? (i := 696) (by decide +kernel)⟩
theorem lw_p6 : lw_okq (⟨"CanalStepsModel", "joins", "(I)V"⟩, 20) := ⟨⟨by decide +kernel, by decide +kernel⟩, List.mem_of_getElem? (i := 610) (by decide +kernel), List.mem_of_getElem? (i := 702) (by decide +kernel), List.mem_of_getElem? (i := 703) (by decide +kernel)⟩
theorem lw_p7 : lw_okq (⟨"CanalStepsModel", "isBoat", "(I)Z"⟩, 20) := ⟨⟨by decide +kernel, by decide +kernel⟩, List.mem_of_getElem? (i := 610) (by decide +kernel), List.mem_of_getElem? (i := 710) (by decide +kernel), List.mem_of_getElem? (i := 711) (by decide +kernel)⟩
theorem lw_p8 : lw_okq (⟨"CanalStepsModel", "hasArrived", "(I)Z"⟩, 20) := ⟨⟨by decide +kernel, by decide +kernel⟩, List.mem_of_getElem? (i := 610) (by decide +kernel), List.mem_of_getElem? (i := 714) (by decide +kernel), List.mem_of_getElem? (i := 715) (by decide +kernel)⟩
theorem lw_p9 : lw_okq (⟨"CanalStepsModel", "get", "(II)I"⟩, 20) := ⟨⟨by decide +kernel, by decide +kernel⟩, List.mem_of_getElem? (i := 610) (by decide +kernel), List.mem_of_getElem? (i := 718) (by decide +kernel), List.mem_of_getElem? (i := 719) (by decide +kernel)⟩
theorem lw_p10 : lw_okq (⟨"CanalStepsModel", "errorOfTurn", "(I)I"⟩, 20) := ⟨⟨by decide +kernel, by decide +kernel⟩, List.mem_of_getElem? (i := 610) (by decide +kernel), List.mem_of_getElem? (i := 726) (by decide +kernel), List.mem_of_getElem? (i := 727) (by decide +kernel)⟩
theorem lw_p11 : lw_okq (⟨"CanalStepsModel", "canTurn", "(I)Z"⟩, 20) := ⟨⟨by decide +kernel, by decide +kernel⟩, List.mem_of_getElem? (i := 610) (by decide +kernel), List.mem_of_getElem? (i := 733) (by decide +kernel), List.mem_of_getElem? (i := 734) (by decide +kernel)⟩
theorem lw_p12 : lw_okq (⟨"CanalStepsModel", "isHigh", "(I)Z"⟩, 20) := ⟨⟨by decide +kernel, by decide +kernel⟩, List.mem_of_getElem? (i := 610) (by decide +kernel), List.mem_of_getElem? (i := 737) (by decide +kernel), List.mem_of_getElem? (i := 738) (by decide +kernel)⟩
theorem lw_p13 : lw_okq (⟨"CanalStepsModel", "turnsByHand", "(I)I"⟩, 20) := ⟨⟨by decide +kernel, by decide +kernel⟩, List.mem_of_getElem? (i := 610) (by decide +kernel), List.mem_of_getElem? (i := 741) (by decide +kernel), List.mem_of_getElem? (i := 742) (by decide +kernel)⟩
theorem lw_p14 : lw_okq (⟨"CanalStepsModel", "turns", "(I)V"⟩, 20) := ⟨⟨by decide +kernel, by decide +kernel⟩, List.mem_of_getElem? (i := 610) (by decide +kernel), List.mem_of_getElem? (i := 745) (by decide +kernel), List.mem_of_getElem? (i := 746) (by decide +kernel)⟩
theorem lw_p15 : lw_okq (⟨"CanalStepsModel", "becomes", "(II)I"⟩, 20) := ⟨⟨by decide +kernel, by decide +kernel⟩, List.mem_of_getElem? (i := 610) (by decide +kernel), List.mem_of_getElem? (i := 753) (by decide +kernel), List.mem_of_getElem? (i := 754) (by decide +kernel)⟩
def lw_privs_1 : List (MethodName × Nat) := [(⟨"CanalSteps", "recorded", "(I)I"⟩, 9), (⟨"CanalSteps", "doThing", "(LCanalSteps$Thing;)I"⟩, 9), (⟨"CanalSteps", "arrivalsAfterTurn", "(I)I"⟩, 9), (⟨"CanalStepsModel", "errorOfBoat", "(IIII)I"⟩, 20), (⟨"CanalStepsModel", "record", "()V"⟩, 20), (⟨"CanalStepsModel", "comes", "(IIII)I"⟩, 20), (⟨"CanalStepsModel", "joins", "(I)V"⟩, 20), (⟨"CanalStepsModel", "isBoat", "(I)Z"⟩, 20), (⟨"CanalStepsModel", "hasArrived", "(I)Z"⟩, 20), (⟨"CanalStepsModel", "get", "(II)I"⟩, 20), (⟨"CanalStepsModel", "errorOfTurn", "(I)I"⟩, 20), (⟨"CanalStepsModel", "canTurn", "(I)Z"⟩, 20), (⟨"CanalStepsModel", "isHigh", "(I)Z"⟩, 20), (⟨"CanalStepsModel", "turnsByHand", "(I)I"⟩, 20), (⟨"CanalStepsModel", "turns", "(I)V"⟩, 20), (⟨"CanalStepsModel", "becomes", "(II)I"⟩, 20)]
theorem lw_r1 : ∀ q ∈ lw_privs_1, lw_okq q := List.forall_mem_cons.mpr ⟨lw_p0, List.forall_mem_cons.mpr ⟨lw_p1, List.forall_mem_cons.mpr ⟨lw_p2, List.forall_mem_cons.mpr ⟨lw_p3, List.forall_mem_cons.mpr ⟨lw_p4, List.forall_mem_cons.mpr ⟨lw_p5, List.forall_mem_cons.mpr ⟨lw_p6, List.forall_mem_cons.mpr ⟨lw_p7, List.forall_mem_cons.mpr ⟨lw_p8, List.forall_mem_cons.mpr ⟨lw_p9, List.forall_mem_cons.mpr ⟨lw_p10, List.forall_mem_cons.mpr ⟨lw_p11, List.forall_mem_cons.mpr ⟨lw_p12, List.forall_mem_cons.mpr ⟨lw_p13, List.forall_mem_cons.mpr ⟨lw_p14, List.forall_mem_cons.mpr ⟨lw_p15, fun _ h => absurd h List.not_mem_nil⟩⟩⟩⟩⟩⟩⟩⟩⟩⟩⟩⟩⟩⟩⟩⟩
theorem lw_p16 : lw_okq (⟨"CanalStepsModel", "errorOfPass", "(I)I"⟩, 20) := ⟨⟨by decide +kernel, by decide +kernel⟩, List.mem_of_getElem? (i := 610) (by decide +kernel), List.mem_of_getElem? (i := 765) (by decide +kernel), List.mem_of_getElem? (i := 766) (by decide +kernel)⟩
theorem lw_p17 : lw_okq (⟨"CanalStepsModel", "passes", "(I)I"⟩, 20) := ⟨⟨by decide +kernel, by decide +kernel⟩, List.mem_of_getElem? (i := 610) (by decide +kernel), List.mem_of_getElem? (i := 770) (by decide +kernel), List.mem_of_getElem? (i := 771) (by decide +kernel)⟩
theorem lw_p18 : lw_okq (⟨"CanalStepsModel", "arrived", "()I"⟩, 20) := ⟨⟨by decide +kernel, by decide +kernel⟩, List.mem_of_getElem? (i := 610) (by decide +kernel), List.mem_of_getElem? (i := 774) (by decide +kernel), List.mem_of_getElem? (i := 775) (by decide +kernel)⟩
theorem lw_p19 : lw_okq (⟨"CanalStepsModel", "ticks", "()V"⟩, 20) := ⟨⟨by decide +kernel, by decide +kernel⟩, List.mem_of_getElem? (i := 610) (by decide +kernel), List.mem_of_getElem? (i := 778) (by decide +kernel), List.mem_of_getElem? (i := 779) (by decide +kernel)⟩
theorem lw_p20 : lw_okq (⟨"CanalStepsModel", "acts", "(I)V"⟩, 20) := ⟨⟨by decide +kernel, by decide +kernel⟩, List.mem_of_getElem? (i := 610) (by decide +kernel), List.mem_of_getElem? (i := 782) (by decide +kernel), List.mem_of_getElem? (i := 783) (by decide +kernel)⟩
theorem lw_p21 : lw_okq (⟨"CanalStepsModel", "lockOf", "(I)I"⟩, 20) := ⟨⟨by decide +kernel, by decide +kernel⟩, List.mem_of_getElem? (i := 610) (by decide +kernel), List.mem_of_getElem? (i := 786) (by decide +kernel), List.mem_of_getElem? (i := 787) (by decide +kernel)⟩
theorem lw_p22 : lw_okq (⟨"CanalStepsModel", "goesUp", "(I)Z"⟩, 20) := ⟨⟨by decide +kernel, by decide +kernel⟩, List.mem_of_getElem? (i := 610) (by decide +kernel), List.mem_of_getElem? (i := 790) (by decide +kernel), List.mem_of_getElem? (i := 791) (by decide +kernel)⟩
theorem lw_p23 : lw_okq (⟨"CanalStepsModel", "hindrance", "(I)I"⟩, 20) := ⟨⟨by decide +kernel, by decide +kernel⟩, List.mem_of_getElem? (i := 610) (by decide +kernel), List.mem_of_getElem? (i := 794) (by decide +kernel), List.mem_of_getElem? (i := 795) (by decide +kernel)⟩
theorem lw_p24 : lw_okq (⟨"CanalStepsModel", "isAground", "(I)Z"⟩, 20) := ⟨⟨by decide +kernel, by decide +kernel⟩, List.mem_of_getElem? (i := 610) (by decide +kernel), List.mem_of_getElem? (i := 798) (by decide +kernel), List.mem_of_getElem? (i := 799) (by decide +kernel)⟩
theorem lw_p25 : lw_okq (⟨"CanalStepsModel", "nextOf", "(I)I"⟩, 20) := ⟨⟨by decide +kernel, by decide +kernel⟩, List.mem_of_getElem? (i := 610) (by decide +kernel), List.mem_of_getElem? (i := 802) (by decide +kernel), List.mem_of_getElem? (i := 803) (by decide +kernel)⟩
theorem lw_p26 : lw_okq (⟨"CanalStepsModel", "placeOf", "(I)I"⟩, 20) := ⟨⟨by decide +kernel, by decide +kernel⟩, List.mem_of_getElem? (i := 610) (by decide +kernel), List.mem_of_getElem? (i := 806) (by decide +kernel), List.mem_of_getElem? (i := 807) (by decide +kernel)⟩
theorem lw_p27 : lw_okq (⟨"CanalStepsModel", "waitsAt", "(IIZ)Z"⟩, 20) := ⟨⟨by decide +kernel, by decide +kernel⟩, List.mem_of_getElem? (i := 610) (by decide +kernel), List.mem_of_getElem? (i := 810) (by decide +kernel), List.mem_of_getElem? (i := 811) (by decide +kernel)⟩
theorem lw_p28 : lw_okq (⟨"CanalStepsModel", "firstOf", "(IZ)I"⟩, 20) := ⟨⟨by decide +kernel, by decide +kernel⟩, List.mem_of_getElem? (i := 610) (by decide +kernel), List.mem_of_getElem? (i := 814) (by decide +kernel), List.mem_of_getElem? (i := 815) (by decide +kernel)⟩
theorem lw_p29 : lw_okq (⟨"CanalStepsModel", "goes", "(I)V"⟩, 20) := ⟨⟨by decide +kernel, by decide +kernel⟩, List.mem_of_getElem? (i := 610) (by decide +kernel), List.mem_of_getElem? (i := 818) (by decide +kernel), List.mem_of_getElem? (i := 819) (by decide +kernel)⟩
theorem lw_p30 : lw_okq (⟨"CanalStepsModel", "queue", "(IZ)I"⟩, 20) := ⟨⟨by decide +kernel, by decide +kernel⟩, List.mem_of_getElem? (i := 610) (by decide +kernel), List.mem_of_getElem? (i := 822) (by decide +kernel), List.mem_of_getElem? (i := 823) (by decide +kernel)⟩
theorem lw_p31 : lw_okq (⟨"CanalStepsModel", "flows", "()V"⟩, 20) := ⟨⟨by decide +kernel, by decide +kernel⟩, List.mem_of_getElem? (i := 610) (by decide +kernel), List.mem_of_getElem? (i := 826) (by decide +kernel), List.mem_of_getElem? (i := 827) (by decide +kernel)⟩
def lw_privs_2 : List (MethodName × Nat) := [(⟨"CanalStepsModel", "errorOfPass", "(I)I"⟩, 20), (⟨"CanalStepsModel", "passes", "(I)I"⟩, 20), (⟨"CanalStepsModel", "arrived", "()I"⟩, 20), (⟨"CanalStepsModel", "ticks", "()V"⟩, 20), (⟨"CanalStepsModel", "acts", "(I)V"⟩, 20), (⟨"CanalStepsModel", "lockOf", "(I)I"⟩, 20), (⟨"CanalStepsModel", "goesUp", "(I)Z"⟩, 20), (⟨"CanalStepsModel", "hindrance", "(I)I"⟩, 20), (⟨"CanalStepsModel", "isAground", "(I)Z"⟩, 20), (⟨"CanalStepsModel", "nextOf", "(I)I"⟩, 20), (⟨"CanalStepsModel", "placeOf", "(I)I"⟩, 20), (⟨"CanalStepsModel", "waitsAt", "(IIZ)Z"⟩, 20), (⟨"CanalStepsModel", "firstOf", "(IZ)I"⟩, 20), (⟨"CanalStepsModel", "goes", "(I)V"⟩, 20), (⟨"CanalStepsModel", "queue", "(IZ)I"⟩, 20), (⟨"CanalStepsModel", "flows", "()V"⟩, 20)]
theorem lw_r2 : ∀ q ∈ lw_privs_2, lw_okq q := List.forall_mem_cons.mpr ⟨lw_p16, List.forall_mem_cons.mpr ⟨lw_p17, List.forall_mem_cons.mpr ⟨lw_p18, List.forall_mem_cons.mpr ⟨lw_p19, List.forall_mem_cons.mpr ⟨lw_p20, List.forall_mem_cons.mpr ⟨lw_p21, List.forall_mem_cons.mpr ⟨lw_p22, List.forall_mem_cons.mpr ⟨lw_p23, List.forall_mem_cons.mpr ⟨lw_p24, List.forall_mem_cons.mpr ⟨lw_p25, List.forall_mem_cons.mpr ⟨lw_p26, List.forall_mem_cons.mpr ⟨lw_p27, List.forall_mem_cons.mpr ⟨lw_p28, List.forall_mem_cons.mpr ⟨lw_p29, List.forall_mem_cons.mpr ⟨lw_p30, List.forall_mem_cons.mpr ⟨lw_p31, fun _ h => absurd h List.not_mem_nil⟩⟩⟩⟩⟩⟩⟩⟩⟩⟩⟩⟩⟩⟩⟩⟩
theorem lw_p32 : lw_okq (⟨"CanalStepsModel", "reads", "(Z)I"⟩, 20) := ⟨⟨by decide +kernel, by decide +kernel⟩, List.mem_of_getElem? (i := 610) (by decide +kernel), List.mem_of_getElem? (i := 842) (by decide +kernel), List.mem_of_getElem? (i := 843) (by decide +kernel)⟩
theorem lw_p33 : lw_okq (⟨"CanalStepsModel", "readOne", "()V"⟩, 20) := ⟨⟨by decide +kernel, by decide +kernel⟩, List.mem_of_getElem? (i := 610) (by decide +kernel), List.mem_of_getElem? (i := 846) (by decide +kernel), List.mem_of_getElem? (i := 847) (by decide +kernel)⟩
theorem lw_p34 : lw_okq (⟨"CanalStepsModel", "readWay", "()V"⟩, 20) := ⟨⟨by decide +kernel, by decide +kernel⟩, List.mem_of_getElem? (i := 610) (by decide +kernel), List.mem_of_getElem? (i := 850) (by decide +kernel), List.mem_of_getElem? (i := 851) (by decide +kernel)⟩
theorem lw_p35 : lw_okq (⟨"CanalStepsModel", "takes", "(II)I"⟩, 20) := ⟨⟨by decide +kernel, by decide +kernel⟩, List.mem_of_getElem? (i := 610) (by decide +kernel), List.mem_of_getElem? (i := 854) (by decide +kernel), List.mem_of_getElem? (i := 855) (by decide +kernel)⟩
theorem lw_p36 : lw_okq (⟨"CanalStepsModel", "isNext", "(II)Z"⟩, 20) := ⟨⟨by decide +kernel, by decide +kernel⟩, List.mem_of_getElem? (i := 610) (by decide +kernel), List.mem_of_getElem? (i := 858) (by decide +kernel), List.mem_of_getElem? (i := 859) (by decide +kernel)⟩
theorem lw_p37 : lw_okq (⟨"CanalStepsModel", "number", "(I)I"⟩, 20) := ⟨⟨by decide +kernel, by decide +kernel⟩, List.mem_of_getElem? (i := 610) (by decide +kernel), List.mem_of_getElem? (i := 862) (by decide +kernel), List.mem_of_getElem? (i := 863) (by decide +kernel)⟩
theorem lw_p38 : lw_okq (⟨"CanalStepsModel", "errorOfOne", "()I"⟩, 20) := ⟨⟨by decide +kernel, by decide +kernel⟩, List.mem_of_getElem? (i := 610) (by decide +kernel), List.mem_of_getElem? (i := 866) (by decide +kernel), List.mem_of_getElem? (i := 867) (by decide +kernel)⟩
theorem lw_p39 : lw_okq (⟨"CanalStepsModel", "doesOne", "()I"⟩, 20) := ⟨⟨by decide +kernel, by decide +kernel⟩, List.mem_of_getElem? (i := 610) (by decide +kernel), List.mem_of_getElem? (i := 870) (by decide +kernel), List.mem_of_getElem? (i := 871) (by decide +kernel)⟩
theorem lw_p40 : lw_okq (⟨"CanalStepsModel", "putAside", "()V"⟩, 20) := ⟨⟨by decide +kernel, by decide +kernel⟩, List.mem_of_getElem? (i := 610) (by decide +kernel), List.mem_of_getElem? (i := 874) (by decide +kernel), List.mem_of_getElem? (i := 875) (by decide +kernel)⟩
theorem lw_p41 : lw_okq (⟨"CanalStepsModel", "exchanges", "()V"⟩, 20) := ⟨⟨by decide +kernel, by decide +kernel⟩, List.mem_of_getElem? (i := 610) (by decide +kernel), List.mem_of_getElem? (i := 878) (by decide +kernel), List.mem_of_getElem? (i := 879) (by decide +kernel)⟩
theorem lw_p42 : lw_okq (⟨"CanalStepsModel", "hasPiecesIn", "(II)Z"⟩, 20) := ⟨⟨by decide +kernel, by decide +kernel⟩, List.mem_of_getElem? (i := 610) (by decide +kernel), List.mem_of_getElem? (i := 910) (by decide +kernel), List.mem_of_getElem? (i := 911) (by decide +kernel)⟩
theorem lw_p43 : lw_okq (⟨"CanalStepsModel", "wouldArrive", "(I)I"⟩, 20) := ⟨⟨by decide +kernel, by decide +kernel⟩, List.mem_of_getElem? (i := 610) (by decide +kernel), List.mem_of_getElem? (i := 930) (by decide +kernel), List.mem_of_getElem? (i := 931) (by decide +kernel)⟩
theorem lw_p44 : lw_okq (⟨"CanalStepsModel", "sumOf", "(I)I"⟩, 20) := ⟨⟨by decide +kernel, by decide +kernel⟩, List.mem_of_getElem? (i := 610) (by decide +kernel), List.mem_of_getElem? (i := 938) (by decide +kernel), List.mem_of_getElem? (i := 939) (by decide +kernel)⟩
theorem lw_p45 : lw_okq (⟨"CanalStepsModel", "aground", "()I"⟩, 20) := ⟨⟨by decide +kernel, by decide +kernel⟩, List.mem_of_getElem? (i := 610) (by decide +kernel), List.mem_of_getElem? (i := 942) (by decide +kernel), List.mem_of_getElem? (i := 943) (by decide +kernel)⟩
def lw_privs_3 : List (MethodName × Nat) := [(⟨"CanalStepsModel", "reads", "(Z)I"⟩, 20), (⟨"CanalStepsModel", "readOne", "()V"⟩, 20), (⟨"CanalStepsModel", "readWay", "()V"⟩, 20), (⟨"CanalStepsModel", "takes", "(II)I"⟩, 20), (⟨"CanalStepsModel", "isNext", "(II)Z"⟩, 20), (⟨"CanalStepsModel", "number", "(I)I"⟩, 20), (⟨"CanalStepsModel", "errorOfOne", "()I"⟩, 20), (⟨"CanalStepsModel", "doesOne", "()I"⟩, 20), (⟨"CanalStepsModel", "putAside", "()V"⟩, 20), (⟨"CanalStepsModel", "exchanges", "()V"⟩, 20), (⟨"CanalStepsModel", "hasPiecesIn", "(II)Z"⟩, 20), (⟨"CanalStepsModel", "wouldArrive", "(I)I"⟩, 20), (⟨"CanalStepsModel", "sumOf", "(I)I"⟩, 20), (⟨"CanalStepsModel", "aground", "()I"⟩, 20)]
theorem lw_r3 : ∀ q ∈ lw_privs_3, lw_okq q := List.forall_mem_cons.mpr ⟨lw_p32, List.forall_mem_cons.mpr ⟨lw_p33, List.forall_mem_cons.mpr ⟨lw_p34, List.forall_mem_cons.mpr ⟨lw_p35, List.forall_mem_cons.mpr ⟨lw_p36, List.forall_mem_cons.mpr ⟨lw_p37, List.forall_mem_cons.mpr ⟨lw_p38, List.forall_mem_cons.mpr ⟨lw_p39, List.forall_mem_cons.mpr ⟨lw_p40, List.forall_mem_cons.mpr ⟨lw_p41, List.forall_mem_cons.mpr ⟨lw_p42, List.forall_mem_cons.mpr ⟨lw_p43, List.forall_mem_cons.mpr ⟨lw_p44, List.forall_mem_cons.mpr ⟨lw_p45, fun _ h => absurd h List.not_mem_nil⟩⟩⟩⟩⟩⟩⟩⟩⟩⟩⟩⟩⟩⟩
def lw_privs : List (MethodName × Nat) := lw_privs_1 ++ (lw_privs_2 ++ (lw_privs_3))
def lw_tbl : List Cond := k2_sels lw_privs ++ tables_1
theorem lw_privs_ok : ∀ q ∈ lw_privs, lw_okq q := by
  show ∀ q ∈ lw_privs_1 ++ (lw_privs_2 ++ (lw_privs_3)), lw_okq q
  exact List.forall_mem_append.mpr ⟨lw_r1, List.forall_mem_append.mpr ⟨lw_r2, lw_r3⟩⟩
def RX0 : String := "CanalSteps$Boat"
def TX0 : u_T := fun k => match k with
  | 0 => ("CanalSteps$Boat", "pieces", "I", false)
  | 1 => ("CanalSteps$Boat", "draught", "I", false)
  | 2 => ("CanalSteps$Boat", "pound", "I", false)
  | 3 => ("CanalSteps$Boat", "goal", "I", false)
  | 4 => ("CanalSteps$Boat", "through", "I", false)
  | 5 => ("CanalSteps$Boat", "passages", "I", false)
  | _ => ("CanalSteps$Boat", "arrivedAt", "I", false)
def tyX0 : Nat → FieldType := fun k => match k with
  | 0 => .int
  | 1 => .int
  | 2 => .int
  | 3 => .int
  | 4 => .int
  | 5 => .int
  | _ => .int
theorem nmX0 : ∀ a, a < 7 → ∀ b, b < 7 → a ≠ b → (TX0 a).2.1 ≠ (TX0 b).2.1 := by decide +kernel
theorem tyX0_ok : ∀ k, k < 7 → parseFieldDescriptor (TX0 k).2.2.1 = some (tyX0 k) := by decide +kernel
abbrev cX0_init : ByteArray := prog_2_method_1_code
def yX0_init : MethodName := ⟨RX0, "<init>", "()V"⟩
abbrev cX0_copyFrom : ByteArray := prog_2_method_2_code
def yX0_copyFrom : MethodName := ⟨RX0, "copyFrom", "(LCanalSteps$Boat;)V"⟩
abbrev cX0_comeTo : ByteArray := prog_2_method_3_code
def yX0_comeTo : MethodName := ⟨RX0, "comeTo", "(I)V"⟩
abbrev cX0_hasArrived : ByteArray := prog_2_method_4_code
def yX0_hasArrived : MethodName := ⟨RX0, "hasArrived", "()Z"⟩
abbrev cX0_nextPound : ByteArray := prog_2_method_5_code
def yX0_nextPound : MethodName := ⟨RX0, "nextPound", "()I"⟩
abbrev cX0_lockNumber : ByteArray := prog_2_method_6_code
def yX0_lockNumber : MethodName := ⟨RX0, "lockNumber", "()I"⟩
abbrev cX0_isUnderWayIn : ByteArray := prog_2_method_7_code
def yX0_isUnderWayIn : MethodName := ⟨RX0, "isUnderWayIn", "(I)Z"⟩
def RX1 : String := "CanalSteps$Canal"
def TX1 : u_T := fun k => match k with
  | 0 => ("CanalSteps$Canal", "depths", "[I", true)
  | 1 => ("CanalSteps$Canal", "settings", "[I", true)
  | 2 => ("CanalSteps$Canal", "locks", "[LCanalSteps$Lock;", true)
  | 3 => ("CanalSteps$Canal", "boats", "[LCanalSteps$Boat;", true)
  | 4 => ("CanalSteps$Canal", "boatCount", "I", false)
  | 5 => ("CanalSteps$Canal", "arrived", "I", false)
  | 6 => ("CanalSteps$Canal", "tick", "I", false)
  | 7 => ("CanalSteps$Canal", "lost", "I", false)
  | 8 => ("CanalSteps$Canal", "fromSpring", "I", false)
  | 9 => ("CanalSteps$Canal", "letIn", "I", false)
  | _ => ("CanalSteps$Canal", "letOut", "I", false)
def tyX1 : Nat → FieldType := fun k => match k with
  | 0 => .array .int
  | 1 => .array .int
  | 2 => .array (.object "CanalSteps$Lock")
  | 3 => .array (.object "CanalSteps$Boat")
  | 4 => .int
  | 5 => .int
  | 6 => .int
  | 7 => .int
  | 8 => .int
  | 9 => .int
  | _ => .int
theorem nmX1 : ∀ a, a < 11 → ∀ b, b < 11 → a ≠ b → (TX1 a).2.1 ≠ (TX1 b).2.1 := by decide +kernel
theorem tyX1_ok : ∀ k, k < 11 → parseFieldDescriptor (TX1 k).2.2.1 = some (tyX1 k) := by decide +kernel
abbrev cX1_init : ByteArray := prog_3_method_1_code
def yX1_init : MethodName := ⟨RX1, "<init>", "()V"⟩
abbrev cX1_copyFrom : ByteArray := prog_3_method_2_code
def yX1_copyFrom : MethodName := ⟨RX1, "copyFrom", "(LCanalSteps$Canal;)V"⟩
abbrev cX1_comeBoat : ByteArray := prog_3_method_3_code
def yX1_comeBoat : MethodName := ⟨RX1, "comeBoat", "(IIII)I"⟩
abbrev cX1_loadBoat : ByteArray := prog_3_method_4_code
def yX1_loadBoat : MethodName := ⟨RX1, "loadBoat", "(II)I"⟩
abbrev cX1_turnByHand : ByteArray := prog_3_method_5_code
def yX1_turnByHand : MethodName := ⟨RX1, "turnByHand", "(I)I"⟩
abbrev cX1_changeDepth : ByteArray := prog_3_method_6_code
def yX1_changeDepth : MethodName := ⟨RX1, "changeDepth", "(II)I"⟩
abbrev cX1_changeSetting : ByteArray := prog_3_method_7_code
def yX1_changeSetting : MethodName := ⟨RX1, "changeSetting", "(II)I"⟩
abbrev cX1_letPass : ByteArray := prog_3_method_8_code
def yX1_letPass : MethodName := ⟨RX1, "letPass", "(I)I"⟩
abbrev cX1_stepTick : ByteArray := prog_3_method_9_code
def yX1_stepTick : MethodName := ⟨RX1, "stepTick", "()V"⟩
abbrev cX1_workLock : ByteArray := prog_3_method_10_code
def yX1_workLock : MethodName := ⟨RX1, "workLock", "(I)V"⟩
abbrev cX1_goThrough : ByteArray := prog_3_method_11_code
def yX1_goThrough : MethodName := ⟨RX1, "goThrough", "(LCanalSteps$Lock;LCanalSteps$Queue;I)V"⟩
abbrev cX1_canTurn : ByteArray := prog_3_method_12_code
def yX1_canTurn : MethodName := ⟨RX1, "canTurn", "(I)Z"⟩
abbrev cX1_turnChamber : ByteArray := prog_3_method_13_code
def yX1_turnChamber : MethodName := ⟨RX1, "turnChamber", "(I)V"⟩
abbrev cX1_flowFromSpring : ByteArray := prog_3_method_14_code
def yX1_flowFromSpring : MethodName := ⟨RX1, "flowFromSpring", "()V"⟩
abbrev cX1_pourInto : ByteArray := prog_3_method_15_code
def yX1_pourInto : MethodName := ⟨RX1, "pourInto", "(II)I"⟩
abbrev cX1_knowsBoat : ByteArray := prog_3_method_16_code
def yX1_knowsBoat : MethodName := ⟨RX1, "knowsBoat", "(I)Z"⟩
abbrev cX1_queueOf : ByteArray := prog_3_method_17_code
def yX1_queueOf : MethodName := ⟨RX1, "queueOf", "(LCanalSteps$Boat;)LCanalSteps$Queue;"⟩
abbrev cX1_placeInQueue : ByteArray := prog_3_method_18_code
def yX1_placeInQueue : MethodName := ⟨RX1, "placeInQueue", "(I)I"⟩
abbrev cX1_isAground : ByteArray := prog_3_method_19_code
def yX1_isAground : MethodName := ⟨RX1, "isAground", "(LCanalSteps$Boat;)Z"⟩
abbrev cX1_reasonNow : ByteArray := prog_3_method_20_code
def yX1_reasonNow : MethodName := ⟨RX1, "reasonNow", "(I)I"⟩
abbrev cX1_tellBoat : ByteArray := prog_3_method_21_code
def yX1_tellBoat : MethodName := ⟨RX1, "tellBoat", "(II)I"⟩
abbrev cX1_tellPound : ByteArray := prog_3_method_22_code
def yX1_tellPound : MethodName := ⟨RX1, "tellPound", "(II)I"⟩
abbrev cX1_boatsUnderWayIn : ByteArray := prog_3_method_23_code
def yX1_boatsUnderWayIn : MethodName := ⟨RX1, "boatsUnderWayIn", "(I)I"⟩
abbrev cX1_boatsArrivedIn : ByteArray := prog_3_method_24_code
def yX1_boatsArrivedIn : MethodName := ⟨RX1, "boatsArrivedIn", "(I)I"⟩
abbrev cX1_greatestDraughtIn : ByteArray := prog_3_method_25_code
def yX1_greatestDraughtIn : MethodName := ⟨RX1, "greatestDraughtIn", "(I)I"⟩
abbrev cX1_waterThere : ByteArray := prog_3_method_26_code
def yX1_waterThere : MethodName := ⟨RX1, "waterThere", "()I"⟩
abbrev cX1_waterByAccount : ByteArray := prog_3_method_27_code
def yX1_waterByAccount : MethodName := ⟨RX1, "waterByAccount", "()I"⟩
abbrev cX1_tellCount : ByteArray := prog_3_method_28_code
def yX1_tellCount : MethodName := ⟨RX1, "tellCount", "(I)I"⟩
abbrev cX1_countAground : ByteArray := prog_3_method_29_code
def yX1_countAground : MethodName := ⟨RX1, "countAground", "()I"⟩
abbrev cX1_passagesOfAll : ByteArray := prog_3_method_30_code
def yX1_passagesOfAll : MethodName := ⟨RX1, "passagesOfAll", "()I"⟩
abbrev cX1_fillingsOfAll : ByteArray := prog_3_method_31_code
def yX1_fillingsOfAll : MethodName := ⟨RX1, "fillingsOfAll", "()I"⟩
abbrev cX1_countHigh : ByteArray := prog_3_method_32_code
def yX1_countHigh : MethodName := ⟨RX1, "countHigh", "()I"⟩
def RX2 : String := "CanalSteps$History"
def TX2 : u_T := fun k => match k with
  | 0 => ("CanalSteps$History", "states", "[LCanalSteps$Canal;", true)
  | _ => ("CanalSteps$History", "size", "I", false)
def tyX2 : Nat → FieldType := fun k => match k with
  | 0 => .array (.object "CanalSteps$Canal")
  | _ => .int
theorem nmX2 : ∀ a, a < 2 → ∀ b, b < 2 → a ≠ b → (TX2 a).2.1 ≠ (TX2 b).2.1 := by decide +kernel
theorem tyX2_ok : ∀ k, k < 2 → parseFieldDescriptor (TX2 k).2.2.1 = some (tyX2 k) := by decide +kernel
abbrev cX2_init : ByteArray := prog_4_method_1_code
def yX2_init : MethodName := ⟨RX2, "<init>", "()V"⟩
abbrev cX2_push : ByteArray := prog_4_method_2_code
def yX2_push : MethodName := ⟨RX2, "push", "(LCanalSteps$Canal;)V"⟩
abbrev cX2_dropOldest : ByteArray := prog_4_method_3_code
def yX2_dropOldest : MethodName := ⟨RX2, "dropOldest", "()V"⟩
abbrev cX2_takeLatest : ByteArray := prog_4_method_4_code
def yX2_takeLatest : MethodName := ⟨RX2, "takeLatest", "()LCanalSteps$Canal;"⟩
def RX3 : String := "CanalSteps$Lock"
def TX3 : u_T := fun k => match k with
  | 0 => ("CanalSteps$Lock", "below", "LCanalSteps$Queue;", true)
  | 1 => ("CanalSteps$Lock", "above", "LCanalSteps$Queue;", true)
  | 2 => ("CanalSteps$Lock", "chamber", "I", false)
  | 3 => ("CanalSteps$Lock", "passages", "I", false)
  | _ => ("CanalSteps$Lock", "fillings", "I", false)
def tyX3 : Nat → FieldType := fun k => match k with
  | 0 => .object "CanalSteps$Queue"
  | 1 => .object "CanalSteps$Queue"
  | 2 => .int
  | 3 => .int
  | _ => .int
theorem nmX3 : ∀ a, a < 5 → ∀ b, b < 5 → a ≠ b → (TX3 a).2.1 ≠ (TX3 b).2.1 := by decide +kernel
theorem tyX3_ok : ∀ k, k < 5 → parseFieldDescriptor (TX3 k).2.2.1 = some (tyX3 k) := by decide +kernel
abbrev cX3_init : ByteArray := prog_5_method_1_code
def yX3_init : MethodName := ⟨RX3, "<init>", "()V"⟩
abbrev cX3_copyFrom : ByteArray := prog_5_method_2_code
def yX3_copyFrom : MethodName := ⟨RX3, "copyFrom", "(LCanalSteps$Lock;)V"⟩
abbrev cX3_isHigh : ByteArray := prog_5_method_3_code
def yX3_isHigh : MethodName := ⟨RX3, "isHigh", "()Z"⟩
abbrev cX3_tellLock : ByteArray := prog_5_method_4_code
def yX3_tellLock : MethodName := ⟨RX3, "tellLock", "(I)I"⟩
def RX4 : String := "CanalSteps$Queue"
def TX4 : u_T := fun k => match k with
  | 0 => ("CanalSteps$Queue", "boats", "[I", true)
  | _ => ("CanalSteps$Queue", "size", "I", false)
def tyX4 : Nat → FieldType := fun k => match k with
  | 0 => .array .int
  | _ => .int
theorem nmX4 : ∀ a, a < 2 → ∀ b, b < 2 → a ≠ b → (TX4 a).2.1 ≠ (TX4 b).2.1 := by decide +kernel
theorem tyX4_ok : ∀ k, k < 2 → parseFieldDescriptor (TX4 k).2.2.1 = some (tyX4 k) := by decide +kernel
abbrev cX4_init : ByteArray := prog_6_method_1_code
def yX4_init : MethodName := ⟨RX4, "<init>", "()V"⟩
abbrev cX4_copyFrom : ByteArray := prog_6_method_2_code
def yX4_copyFrom : MethodName := ⟨RX4, "copyFrom", "(LCanalSteps$Queue;)V"⟩
abbrev cX4_first : ByteArray := prog_6_method_3_code
def yX4_first : MethodName := ⟨RX4, "first", "()I"⟩
abbrev cX4_placeOf : ByteArray := prog_6_method_4_code
def yX4_placeOf : MethodName := ⟨RX4, "placeOf", "(I)I"⟩
abbrev cX4_join : ByteArray := prog_6_method_5_code
def yX4_join : MethodName := ⟨RX4, "join", "(I)V"⟩
abbrev cX4_dropFirst : ByteArray := prog_6_method_6_code
def yX4_dropFirst : MethodName := ⟨RX4, "dropFirst", "()V"⟩
def RX5 : String := "CanalSteps$Thing"
def TX5 : u_T := fun k => match k with
  | 0 => ("CanalSteps$Thing", "kind", "I", false)
  | 1 => ("CanalSteps$Thing", "pieces", "I", false)
  | 2 => ("CanalSteps$Thing", "from", "I", false)
  | 3 => ("CanalSteps$Thing", "to", "I", false)
  | 4 => ("CanalSteps$Thing", "draught", "I", false)
  | 5 => ("CanalSteps$Thing", "lock", "I", false)
  | _ => ("CanalSteps$Thing", "ticks", "I", false)
def tyX5 : Nat → FieldType := fun k => match k with
  | 0 => .int
  | 1 => .int
  | 2 => .int
  | 3 => .int
  | 4 => .int
  | 5 => .int
  | _ => .int
theorem nmX5 : ∀ a, a < 7 → ∀ b, b < 7 → a ≠ b → (TX5 a).2.1 ≠ (TX5 b).2.1 := by decide +kernel
theorem tyX5_ok : ∀ k, k < 7 → parseFieldDescriptor (TX5 k).2.2.1 = some (tyX5 k) := by decide +kernel
abbrev cX5_init : ByteArray := prog_7_method_1_code
def yX5_init : MethodName := ⟨RX5, "<init>", "()V"⟩
def RX6 : String := "CanalSteps$Traffic"
def TX6 : u_T := fun k => match k with
  | 0 => ("CanalSteps$Traffic", "signs", "[C", true)
  | 1 => ("CanalSteps$Traffic", "length", "I", false)
  | 2 => ("CanalSteps$Traffic", "things", "[LCanalSteps$Thing;", true)
  | 3 => ("CanalSteps$Traffic", "size", "I", false)
  | _ => ("CanalSteps$Traffic", "place", "I", false)
def tyX6 : Nat → FieldType := fun k => match k with
  | 0 => .array .char
  | 1 => .int
  | 2 => .array (.object "CanalSteps$Thing")
  | 3 => .int
  | _ => .int
theorem nmX6 : ∀ a, a < 5 → ∀ b, b < 5 → a ≠ b → (TX6 a).2.1 ≠ (TX6 b).2.1 := by decide +kernel
theorem tyX6_ok : ∀ k, k < 5 → parseFieldDescriptor (TX6 k).2.2.1 = some (tyX6 k) := by decide +kernel
abbrev cX6_init : ByteArray := prog_8_method_1_code
def yX6_init : MethodName := ⟨RX6, "<init>", "()V"⟩
abbrev cX6_addSign : ByteArray := prog_8_method_2_code
def yX6_addSign : MethodName := ⟨RX6, "addSign", "(C)I"⟩
abbrev cX6_readAll : ByteArray := prog_8_method_3_code
def yX6_readAll : MethodName := ⟨RX6, "readAll", "()Z"⟩
abbrev cX6_readThing : ByteArray := prog_8_method_4_code
def yX6_readThing : MethodName := ⟨RX6, "readThing", "(LCanalSteps$Thing;)Z"⟩
abbrev cX6_readWay : ByteArray := prog_8_method_5_code
def yX6_readWay : MethodName := ⟨RX6, "readWay", "(LCanalSteps$Thing;)Z"⟩
abbrev cX6_skip : ByteArray := prog_8_method_6_code
def yX6_skip : MethodName := ⟨RX6, "skip", "(C)Z"⟩
abbrev cX6_readNumber : ByteArray := prog_8_method_7_code
def yX6_readNumber : MethodName := ⟨RX6, "readNumber", "(II)I"⟩
abbrev cX6_digitHere : ByteArray := prog_8_method_8_code
def yX6_digitHere : MethodName := ⟨RX6, "digitHere", "()I"⟩
def RX7 : String := "CanalSteps"
def TX7 : u_T := fun k => match k with
  | 0 => ("CanalSteps", "canal", "LCanalSteps$Canal;", true)
  | 1 => ("CanalSteps", "before", "LCanalSteps$Canal;", true)
  | 2 => ("CanalSteps", "trial", "LCanalSteps$Canal;", true)
  | 3 => ("CanalSteps", "snapshot", "LCanalSteps$Canal;", true)
  | 4 => ("CanalSteps", "history", "LCanalSteps$History;", true)
  | 5 => ("CanalSteps", "traffic", "LCanalSteps$Traffic;", true)
  | 6 => ("CanalSteps", "hasSnapshot", "Z", false)
  | 7 => ("CanalSteps", "stopNumber", "I", false)
  | _ => ("CanalSteps", "stopError", "I", false)
def tyX7 : Nat → FieldType := fun k => match k with
  | 0 => .object "CanalSteps$Canal"
  | 1 => .object "CanalSteps$Canal"
  | 2 => .object "CanalSteps$Canal"
  | 3 => .object "CanalSteps$Canal"
  | 4 => .object "CanalSteps$History"
  | 5 => .object "CanalSteps$Traffic"
  | 6 => .boolean
  | 7 => .int
  | _ => .int
theorem nmX7 : ∀ a, a < 9 → ∀ b, b < 9 → a ≠ b → (TX7 a).2.1 ≠ (TX7 b).2.1 := by decide +kernel
theorem tyX7_ok : ∀ k, k < 9 → parseFieldDescriptor (TX7 k).2.2.1 = some (tyX7 k) := by decide +kernel
abbrev cX7_init : ByteArray := prog_1_method_1_code
def yX7_init : MethodName := ⟨RX7, "<init>", "()V"⟩
abbrev cX7_boat : ByteArray := prog_1_method_2_code
def yX7_boat : MethodName := ⟨RX7, "boat", "(IIII)I"⟩
abbrev cX7_load : ByteArray := prog_1_method_3_code
def yX7_load : MethodName := ⟨RX7, "load", "(II)I"⟩
abbrev cX7_turnLock : ByteArray := prog_1_method_4_code
def yX7_turnLock : MethodName := ⟨RX7, "turnLock", "(I)I"⟩
abbrev cX7_setDepth : ByteArray := prog_1_method_5_code
def yX7_setDepth : MethodName := ⟨RX7, "setDepth", "(II)I"⟩
abbrev cX7_set : ByteArray := prog_1_method_6_code
def yX7_set : MethodName := ⟨RX7, "set", "(II)I"⟩
abbrev cX7_pass : ByteArray := prog_1_method_7_code
def yX7_pass : MethodName := ⟨RX7, "pass", "(I)I"⟩
abbrev cX7_type : ByteArray := prog_1_method_8_code
def yX7_type : MethodName := ⟨RX7, "type", "(C)I"⟩
abbrev cX7_clearText : ByteArray := prog_1_method_9_code
def yX7_clearText : MethodName := ⟨RX7, "clearText", "()I"⟩
abbrev cX7_perform : ByteArray := prog_1_method_10_code
def yX7_perform : MethodName := ⟨RX7, "perform", "()I"⟩
abbrev cX7_stopped : ByteArray := prog_1_method_11_code
def yX7_stopped : MethodName := ⟨RX7, "stopped", "(I)I"⟩
abbrev cX7_undo : ByteArray := prog_1_method_12_code
def yX7_undo : MethodName := ⟨RX7, "undo", "()I"⟩
abbrev cX7_keep : ByteArray := prog_1_method_13_code
def yX7_keep : MethodName := ⟨RX7, "keep", "()I"⟩
abbrev cX7_restore : ByteArray := prog_1_method_14_code
def yX7_restore : MethodName := ⟨RX7, "restore", "()I"⟩
abbrev cX7_boatOf : ByteArray := prog_1_method_15_code
def yX7_boatOf : MethodName := ⟨RX7, "boatOf", "(II)I"⟩
abbrev cX7_lock : ByteArray := prog_1_method_16_code
def yX7_lock : MethodName := ⟨RX7, "lock", "(II)I"⟩
abbrev cX7_pound : ByteArray := prog_1_method_17_code
def yX7_pound : MethodName := ⟨RX7, "pound", "(II)I"⟩
abbrev cX7_reason : ByteArray := prog_1_method_18_code
def yX7_reason : MethodName := ⟨RX7, "reason", "(I)I"⟩
abbrev cX7_arrivesIn : ByteArray := prog_1_method_19_code
def yX7_arrivesIn : MethodName := ⟨RX7, "arrivesIn", "(I)I"⟩
abbrev cX7_water : ByteArray := prog_1_method_20_code
def yX7_water : MethodName := ⟨RX7, "water", "(I)I"⟩
abbrev cX7_bestTurn : ByteArray := prog_1_method_21_code
def yX7_bestTurn : MethodName := ⟨RX7, "bestTurn", "(I)I"⟩
abbrev cX7_ifTicks : ByteArray := prog_1_method_22_code
def yX7_ifTicks : MethodName := ⟨RX7, "ifTicks", "(II)I"⟩
abbrev cX7_count : ByteArray := prog_1_method_23_code
def yX7_count : MethodName := ⟨RX7, "count", "(I)I"⟩
abbrev cX7_isWithin : ByteArray := prog_1_method_24_code
def yX7_isWithin : MethodName := ⟨RX7, "isWithin", "(III)Z"⟩
abbrev cX7_recorded : ByteArray := prog_1_method_25_code
def yX7_recorded : MethodName := ⟨RX7, "recorded", "(I)I"⟩
abbrev cX7_doThing : ByteArray := prog_1_method_26_code
def yX7_doThing : MethodName := ⟨RX7, "doThing", "(LCanalSteps$Thing;)I"⟩
abbrev cX7_arrivalsAfterTurn : ByteArray := prog_1_method_27_code
def yX7_arrivalsAfterTurn : MethodName := ⟨RX7, "arrivalsAfterTurn", "(I)I"⟩
def RX8 : String := "CanalStepsModel"
def TX8 : u_T := fun k => match k with
  | 0 => ("CanalStepsModel", "s", "[I", true)
  | 1 => ("CanalStepsModel", "aside", "[I", true)
  | 2 => ("CanalStepsModel", "history", "[I", true)
  | 3 => ("CanalStepsModel", "known", "I", false)
  | 4 => ("CanalStepsModel", "snapshot", "[I", true)
  | 5 => ("CanalStepsModel", "isKept", "Z", false)
  | 6 => ("CanalStepsModel", "text", "[I", true)
  | 7 => ("CanalStepsModel", "length", "I", false)
  | 8 => ("CanalStepsModel", "stop", "I", false)
  | 9 => ("CanalStepsModel", "stopError", "I", false)
  | 10 => ("CanalStepsModel", "asked", "I", false)
  | 11 => ("CanalStepsModel", "told", "I", false)
  | 12 => ("CanalStepsModel", "spot", "I", false)
  | 13 => ("CanalStepsModel", "isWrong", "Z", false)
  | 14 => ("CanalStepsModel", "letter", "I", false)
  | 15 => ("CanalStepsModel", "first", "I", false)
  | 16 => ("CanalStepsModel", "second", "I", false)
  | 17 => ("CanalStepsModel", "third", "I", false)
  | 18 => ("CanalStepsModel", "fourth", "I", false)
  | _ => ("CanalStepsModel", "stoppedBy", "I", false)
def tyX8 : Nat → FieldType := fun k => match k with
  | 0 => .array .int
  | 1 => .array .int
  | 2 => .array .int
  | 3 => .int
  | 4 => .array .int
  | 5 => .boolean
  | 6 => .array .int
  | 7 => .int
  | 8 => .int
  | 9 => .int
  | 10 => .int
  | 11 => .int
  | 12 => .int
  | 13 => .boolean
  | 14 => .int
  | 15 => .int
  | 16 => .int
  | 17 => .int
  | 18 => .int
  | _ => .int
theorem nmX8 : ∀ a, a < 20 → ∀ b, b < 20 → a ≠ b → (TX8 a).2.1 ≠ (TX8 b).2.1 := by decide +kernel
theorem tyX8_ok : ∀ k, k < 20 → parseFieldDescriptor (TX8 k).2.2.1 = some (tyX8 k) := by decide +kernel
abbrev cX8_init : ByteArray := prog_10_method_1_code
def yX8_init : MethodName := ⟨RX8, "<init>", "()V"⟩
abbrev cX8_in : ByteArray := prog_10_method_2_code
def yX8_in : MethodName := ⟨RX8, "in", "(III)Z"⟩
abbrev cX8_isPound : ByteArray := prog_10_method_3_code
def yX8_isPound : MethodName := ⟨RX8, "isPound", "(I)Z"⟩
abbrev cX8_isLock : ByteArray := prog_10_method_4_code
def yX8_isLock : MethodName := ⟨RX8, "isLock", "(I)Z"⟩
abbrev cX8_isBoat : ByteArray := prog_10_method_5_code
def yX8_isBoat : MethodName := ⟨RX8, "isBoat", "(I)Z"⟩
abbrev cX8_of : ByteArray := prog_10_method_6_code
def yX8_of : MethodName := ⟨RX8, "of", "(II)I"⟩
abbrev cX8_get : ByteArray := prog_10_method_7_code
def yX8_get : MethodName := ⟨RX8, "get", "(II)I"⟩
abbrev cX8_record : ByteArray := prog_10_method_8_code
def yX8_record : MethodName := ⟨RX8, "record", "()V"⟩
abbrev cX8_putAside : ByteArray := prog_10_method_9_code
def yX8_putAside : MethodName := ⟨RX8, "putAside", "()V"⟩
abbrev cX8_exchanges : ByteArray := prog_10_method_10_code
def yX8_exchanges : MethodName := ⟨RX8, "exchanges", "()V"⟩
abbrev cX8_hasArrived : ByteArray := prog_10_method_11_code
def yX8_hasArrived : MethodName := ⟨RX8, "hasArrived", "(I)Z"⟩
abbrev cX8_goesUp : ByteArray := prog_10_method_12_code
def yX8_goesUp : MethodName := ⟨RX8, "goesUp", "(I)Z"⟩
abbrev cX8_nextOf : ByteArray := prog_10_method_13_code
def yX8_nextOf : MethodName := ⟨RX8, "nextOf", "(I)I"⟩
abbrev cX8_lockOf : ByteArray := prog_10_method_14_code
def yX8_lockOf : MethodName := ⟨RX8, "lockOf", "(I)I"⟩
abbrev cX8_isAground : ByteArray := prog_10_method_15_code
def yX8_isAground : MethodName := ⟨RX8, "isAground", "(I)Z"⟩
abbrev cX8_waitsAt : ByteArray := prog_10_method_16_code
def yX8_waitsAt : MethodName := ⟨RX8, "waitsAt", "(IIZ)Z"⟩
abbrev cX8_queue : ByteArray := prog_10_method_17_code
def yX8_queue : MethodName := ⟨RX8, "queue", "(IZ)I"⟩
abbrev cX8_firstOf : ByteArray := prog_10_method_18_code
def yX8_firstOf : MethodName := ⟨RX8, "firstOf", "(IZ)I"⟩
abbrev cX8_placeOf : ByteArray := prog_10_method_19_code
def yX8_placeOf : MethodName := ⟨RX8, "placeOf", "(I)I"⟩
abbrev cX8_joins : ByteArray := prog_10_method_20_code
def yX8_joins : MethodName := ⟨RX8, "joins", "(I)V"⟩
abbrev cX8_isHigh : ByteArray := prog_10_method_21_code
def yX8_isHigh : MethodName := ⟨RX8, "isHigh", "(I)Z"⟩
abbrev cX8_canTurn : ByteArray := prog_10_method_22_code
def yX8_canTurn : MethodName := ⟨RX8, "canTurn", "(I)Z"⟩
abbrev cX8_turns : ByteArray := prog_10_method_23_code
def yX8_turns : MethodName := ⟨RX8, "turns", "(I)V"⟩
abbrev cX8_goes : ByteArray := prog_10_method_24_code
def yX8_goes : MethodName := ⟨RX8, "goes", "(I)V"⟩
abbrev cX8_hindrance : ByteArray := prog_10_method_25_code
def yX8_hindrance : MethodName := ⟨RX8, "hindrance", "(I)I"⟩
abbrev cX8_acts : ByteArray := prog_10_method_26_code
def yX8_acts : MethodName := ⟨RX8, "acts", "(I)V"⟩
abbrev cX8_flows : ByteArray := prog_10_method_27_code
def yX8_flows : MethodName := ⟨RX8, "flows", "()V"⟩
abbrev cX8_ticks : ByteArray := prog_10_method_28_code
def yX8_ticks : MethodName := ⟨RX8, "ticks", "()V"⟩
abbrev cX8_arrived : ByteArray := prog_10_method_29_code
def yX8_arrived : MethodName := ⟨RX8, "arrived", "()I"⟩
abbrev cX8_passes : ByteArray := prog_10_method_30_code
def yX8_passes : MethodName := ⟨RX8, "passes", "(I)I"⟩
abbrev cX8_errorOfBoat : ByteArray := prog_10_method_31_code
def yX8_errorOfBoat : MethodName := ⟨RX8, "errorOfBoat", "(IIII)I"⟩
abbrev cX8_comes : ByteArray := prog_10_method_32_code
def yX8_comes : MethodName := ⟨RX8, "comes", "(IIII)I"⟩
abbrev cX8_boat : ByteArray := prog_10_method_33_code
def yX8_boat : MethodName := ⟨RX8, "boat", "(IIII)I"⟩
abbrev cX8_load : ByteArray := prog_10_method_34_code
def yX8_load : MethodName := ⟨RX8, "load", "(II)I"⟩
abbrev cX8_errorOfTurn : ByteArray := prog_10_method_35_code
def yX8_errorOfTurn : MethodName := ⟨RX8, "errorOfTurn", "(I)I"⟩
abbrev cX8_turnsByHand : ByteArray := prog_10_method_36_code
def yX8_turnsByHand : MethodName := ⟨RX8, "turnsByHand", "(I)I"⟩
abbrev cX8_turnLock : ByteArray := prog_10_method_37_code
def yX8_turnLock : MethodName := ⟨RX8, "turnLock", "(I)I"⟩
abbrev cX8_becomes : ByteArray := prog_10_method_38_code
def yX8_becomes : MethodName := ⟨RX8, "becomes", "(II)I"⟩
abbrev cX8_setDepth : ByteArray := prog_10_method_39_code
def yX8_setDepth : MethodName := ⟨RX8, "setDepth", "(II)I"⟩
abbrev cX8_set : ByteArray := prog_10_method_40_code
def yX8_set : MethodName := ⟨RX8, "set", "(II)I"⟩
abbrev cX8_errorOfPass : ByteArray := prog_10_method_41_code
def yX8_errorOfPass : MethodName := ⟨RX8, "errorOfPass", "(I)I"⟩
abbrev cX8_pass : ByteArray := prog_10_method_42_code
def yX8_pass : MethodName := ⟨RX8, "pass", "(I)I"⟩
abbrev cX8_type : ByteArray := prog_10_method_43_code
def yX8_type : MethodName := ⟨RX8, "type", "(C)I"⟩
abbrev cX8_clearText : ByteArray := prog_10_method_44_code
def yX8_clearText : MethodName := ⟨RX8, "clearText", "()I"⟩
abbrev cX8_isNext : ByteArray := prog_10_method_45_code
def yX8_isNext : MethodName := ⟨RX8, "isNext", "(II)Z"⟩
abbrev cX8_takes : ByteArray := prog_10_method_46_code
def yX8_takes : MethodName := ⟨RX8, "takes", "(II)I"⟩
abbrev cX8_number : ByteArray := prog_10_method_47_code
def yX8_number : MethodName := ⟨RX8, "number", "(I)I"⟩
abbrev cX8_readWay : ByteArray := prog_10_method_48_code
def yX8_readWay : MethodName := ⟨RX8, "readWay", "()V"⟩
abbrev cX8_readOne : ByteArray := prog_10_method_49_code
def yX8_readOne : MethodName := ⟨RX8, "readOne", "()V"⟩
abbrev cX8_errorOfOne : ByteArray := prog_10_method_50_code
def yX8_errorOfOne : MethodName := ⟨RX8, "errorOfOne", "()I"⟩
abbrev cX8_doesOne : ByteArray := prog_10_method_51_code
def yX8_doesOne : MethodName := ⟨RX8, "doesOne", "()I"⟩
abbrev cX8_reads : ByteArray := prog_10_method_52_code
def yX8_reads : MethodName := ⟨RX8, "reads", "(Z)I"⟩
abbrev cX8_perform : ByteArray := prog_10_method_53_code
def yX8_perform : MethodName := ⟨RX8, "perform", "()I"⟩
abbrev cX8_stopped : ByteArray := prog_10_method_54_code
def yX8_stopped : MethodName := ⟨RX8, "stopped", "(I)I"⟩
abbrev cX8_undo : ByteArray := prog_10_method_55_code
def yX8_undo : MethodName := ⟨RX8, "undo", "()I"⟩
abbrev cX8_keep : ByteArray := prog_10_method_56_code
def yX8_keep : MethodName := ⟨RX8, "keep", "()I"⟩
abbrev cX8_restore : ByteArray := prog_10_method_57_code
def yX8_restore : MethodName := ⟨RX8, "restore", "()I"⟩
abbrev cX8_boatOf : ByteArray := prog_10_method_58_code
def yX8_boatOf : MethodName := ⟨RX8, "boatOf", "(II)I"⟩
abbrev cX8_lock : ByteArray := prog_10_method_59_code
def yX8_lock : MethodName := ⟨RX8, "lock", "(II)I"⟩
abbrev cX8_hasPiecesIn : ByteArray := prog_10_method_60_code
def yX8_hasPiecesIn : MethodName := ⟨RX8, "hasPiecesIn", "(II)Z"⟩
abbrev cX8_pound : ByteArray := prog_10_method_61_code
def yX8_pound : MethodName := ⟨RX8, "pound", "(II)I"⟩
abbrev cX8_reason : ByteArray := prog_10_method_62_code
def yX8_reason : MethodName := ⟨RX8, "reason", "(I)I"⟩
abbrev cX8_arrivesIn : ByteArray := prog_10_method_63_code
def yX8_arrivesIn : MethodName := ⟨RX8, "arrivesIn", "(I)I"⟩
abbrev cX8_water : ByteArray := prog_10_method_64_code
def yX8_water : MethodName := ⟨RX8, "water", "(I)I"⟩
abbrev cX8_wouldArrive : ByteArray := prog_10_method_65_code
def yX8_wouldArrive : MethodName := ⟨RX8, "wouldArrive", "(I)I"⟩
abbrev cX8_bestTurn : ByteArray := prog_10_method_66_code
def yX8_bestTurn : MethodName := ⟨RX8, "bestTurn", "(I)I"⟩
abbrev cX8_sumOf : ByteArray := prog_10_method_67_code
def yX8_sumOf : MethodName := ⟨RX8, "sumOf", "(I)I"⟩
abbrev cX8_aground : ByteArray := prog_10_method_68_code
def yX8_aground : MethodName := ⟨RX8, "aground", "()I"⟩
abbrev cX8_ifTicks : ByteArray := prog_10_method_69_code
def yX8_ifTicks : MethodName := ⟨RX8, "ifTicks", "(II)I"⟩
abbrev cX8_count : ByteArray := prog_10_method_70_code
def yX8_count : MethodName := ⟨RX8, "count", "(I)I"⟩
def RJ9 : String := "java/lang/Math"
def TJ9 : u_T := fun k => match k with
  | _ => ("", "", "", false)
def tyJ9 : Nat → FieldType := fun k => match k with
  | _ => .int
theorem nmJ9 : ∀ a, a < 0 → ∀ b, b < 0 → a ≠ b → (TJ9 a).2.1 ≠ (TJ9 b).2.1 := by decide +kernel
theorem tyJ9_ok : ∀ k, k < 0 → parseFieldDescriptor (TJ9 k).2.2.1 = some (tyJ9 k) := by decide +kernel
abbrev cJ9_max_7cf53 : ByteArray := prog_11_method_65_code
def yJ9_max_7cf53 : MethodName := ⟨RJ9, "max", "(II)I"⟩
abbrev cJ9_min_7cf53 : ByteArray := prog_11_method_69_code
def yJ9_min_7cf53 : MethodName := ⟨RJ9, "min", "(II)I"⟩
def RJ10 : String := "java/lang/System"
def TJ10 : u_T := fun k => match k with
  | _ => ("", "", "", false)
def tyJ10 : Nat → FieldType := fun k => match k with
  | _ => .int
theorem nmJ10 : ∀ a, a < 0 → ∀ b, b < 0 → a ≠ b → (TJ10 a).2.1 ≠ (TJ10 b).2.1 := by decide +kernel
theorem tyJ10_ok : ∀ k, k < 0 → parseFieldDescriptor (TJ10 k).2.2.1 = some (tyJ10 k) := by decide +kernel
def RL : String := "CanalStepsLaw"
abbrev cL_law : ByteArray := code
def yL_law : MethodName := ⟨RL, "law", "([I)Z"⟩
abbrev vwCl : List vw_C := [(RX0, TX0, 7), (RX1, TX1, 11), (RX2, TX2, 2), (RX3, TX3, 5), (RX4, TX4, 2), (RX5, TX5, 7), (RX6, TX6, 5), (RX7, TX7, 9), (RX8, TX8, 20)]
