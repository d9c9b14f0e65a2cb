section
-- ===== PART A: goes FIRST, ahead of the names: the tables' words, and 'selects' of the private methods out of them =====
/-- a private method of a class that the tables say can be made, by its rows of tables_1 -/
def lw_okq (q : MethodName × Nat) : Prop := (q.1.cls ≠ "java/lang/invoke/MethodHandle" ∧ q.1.cls ≠ "java/lang/invoke/VarHandle") ∧ Cond.instantiable q.1.cls q.2 ∈ tables_1 ∧ Cond.privateMethod q.1 ∈ tables_1 ∧ Cond.instanceMethod q.1 ∈ tables_1
theorem lw_p0 : lw_okq (⟨"PaidByCoast", "refuse", "(I)I"⟩, 9) := ⟨⟨by decide +kernel, by decide +kernel⟩, List.mem_of_getElem? (i := 18) (by decide +kernel), List.mem_of_getElem? (i := 135) (by decide +kernel), List.mem_of_getElem? (i := 136) (by decide +kernel)⟩
theorem lw_p1 : lw_okq (⟨"PaidByCoast$Letters", "letterAt", "(I)I"⟩, 2) := ⟨⟨by decide +kernel, by decide +kernel⟩, List.mem_of_getElem? (i := 89) (by decide +kernel), List.mem_of_getElem? (i := 155) (by decide +kernel), List.mem_of_getElem? (i := 156) (by decide +kernel)⟩
theorem lw_p2 : lw_okq (⟨"PaidByCoast$Letters", "isDigit", "(I)Z"⟩, 2) := ⟨⟨by decide +kernel, by decide +kernel⟩, List.mem_of_getElem? (i := 89) (by decide +kernel), List.mem_of_getElem? (i := 162) (by decide +kernel), List.mem_of_getElem? (i := 163) (by decide +kernel)⟩
theorem lw_p3 : lw_okq (⟨"PaidByCoast$Letters", "waysFrom", "(I)I"⟩, 2) := ⟨⟨by decide +kernel, by decide +kernel⟩, List.mem_of_getElem? (i := 89) (by decide +kernel), List.mem_of_getElem? (i := 166) (by decide +kernel), List.mem_of_getElem? (i := 167) (by decide +kernel)⟩
theorem lw_p4 : lw_okq (⟨"PaidByCoast$Letters", "isWay", "(I)Z"⟩, 2) := ⟨⟨by decide +kernel, by decide +kernel⟩, List.mem_of_getElem? (i := 89) (by decide +kernel), List.mem_of_getElem? (i := 170) (by decide +kernel), List.mem_of_getElem? (i := 171) (by decide +kernel)⟩
theorem lw_p5 : lw_okq (⟨"PaidByCoast", "readStatements", "()I"⟩, 9) := ⟨⟨by decide +kernel, by decide +kernel⟩, List.mem_of_getElem? (i := 18) (by decide +kernel), List.mem_of_getElem? (i := 174) (by decide +kernel), List.mem_of_getElem? (i := 175) (by decide +kernel)⟩
theorem lw_p6 : lw_okq (⟨"PaidByCoast$Letters", "digitAt", "(I)I"⟩, 2) := ⟨⟨by decide +kernel, by decide +kernel⟩, List.mem_of_getElem? (i := 89) (by decide +kernel), List.mem_of_getElem? (i := 206) (by decide +kernel), List.mem_of_getElem? (i := 207) (by decide +kernel)⟩
theorem lw_p7 : lw_okq (⟨"PaidByCoast$Letters", "pairAt", "(I)I"⟩, 2) := ⟨⟨by decide +kernel, by decide +kernel⟩, List.mem_of_getElem? (i := 89) (by decide +kernel), List.mem_of_getElem? (i := 292) (by decide +kernel), List.mem_of_getElem? (i := 293) (by decide +kernel)⟩
theorem lw_p8 : lw_okq (⟨"PaidByCoast$Coast", "isRodApart", "(III)Z"⟩, 7) := ⟨⟨by decide +kernel, by decide +kernel⟩, List.mem_of_getElem? (i := 26) (by decide +kernel), List.mem_of_getElem? (i := 449) (by decide +kernel), List.mem_of_getElem? (i := 450) (by decide +kernel)⟩
theorem lw_p9 : lw_okq (⟨"PaidByCoast", "payOf", "(JI)I"⟩, 9) := ⟨⟨by decide +kernel, by decide +kernel⟩, List.mem_of_getElem? (i := 18) (by decide +kernel), List.mem_of_getElem? (i := 465) (by decide +kernel), List.mem_of_getElem? (i := 466) (by decide +kernel)⟩
theorem lw_p10 : lw_okq (⟨"PaidByCoast$Coast", "stepFrom", "(JIII)I"⟩, 7) := ⟨⟨by decide +kernel, by decide +kernel⟩, List.mem_of_getElem? (i := 26) (by decide +kernel), List.mem_of_getElem? (i := 522) (by decide +kernel), List.mem_of_getElem? (i := 523) (by decide +kernel)⟩
theorem lw_p11 : lw_okq (⟨"PaidByCoast$Rocks", "showsAll", "(I)Z"⟩, 2) := ⟨⟨by decide +kernel, by decide +kernel⟩, List.mem_of_getElem? (i := 34) (by decide +kernel), List.mem_of_getElem? (i := 563) (by decide +kernel), List.mem_of_getElem? (i := 564) (by decide +kernel)⟩
theorem lw_p12 : lw_okq (⟨"PaidByCoast$Boat", "putWays", "(LPaidByCoast$Rocks;I)V"⟩, 1) := ⟨⟨by decide +kernel, by decide +kernel⟩, List.mem_of_getElem? (i := 79) (by decide +kernel), List.mem_of_getElem? (i := 577) (by decide +kernel), List.mem_of_getElem? (i := 578) (by decide +kernel)⟩
theorem lw_p13 : lw_okq (⟨"PaidByCoast$Boat", "leastWay", "(LPaidByCoast$Rocks;II)I"⟩, 1) := ⟨⟨by decide +kernel, by decide +kernel⟩, List.mem_of_getElem? (i := 79) (by decide +kernel), List.mem_of_getElem? (i := 581) (by decide +kernel), List.mem_of_getElem? (i := 582) (by decide +kernel)⟩
theorem lw_p14 : lw_okq (⟨"PaidByCoast$Boat", "wayBy", "(II)I"⟩, 1) := ⟨⟨by decide +kernel, by decide +kernel⟩, List.mem_of_getElem? (i := 79) (by decide +kernel), List.mem_of_getElem? (i := 590) (by decide +kernel), List.mem_of_getElem? (i := 591) (by decide +kernel)⟩
theorem lw_p15 : lw_okq (⟨"PaidByCoast", "refusalsOf", "(I)I"⟩, 9) := ⟨⟨by decide +kernel, by decide +kernel⟩, List.mem_of_getElem? (i := 18) (by decide +kernel), List.mem_of_getElem? (i := 663) (by decide +kernel), List.mem_of_getElem? (i := 664) (by decide +kernel)⟩
def lw_privs_1 : List (MethodName × Nat) := [(⟨"PaidByCoast", "refuse", "(I)I"⟩, 9), (⟨"PaidByCoast$Letters", "letterAt", "(I)I"⟩, 2), (⟨"PaidByCoast$Letters", "isDigit", "(I)Z"⟩, 2), (⟨"PaidByCoast$Letters", "waysFrom", "(I)I"⟩, 2), (⟨"PaidByCoast$Letters", "isWay", "(I)Z"⟩, 2), (⟨"PaidByCoast", "readStatements", "()I"⟩, 9), (⟨"PaidByCoast$Letters", "digitAt", "(I)I"⟩, 2), (⟨"PaidByCoast$Letters", "pairAt", "(I)I"⟩, 2), (⟨"PaidByCoast$Coast", "isRodApart", "(III)Z"⟩, 7), (⟨"PaidByCoast", "payOf", "(JI)I"⟩, 9), (⟨"PaidByCoast$Coast", "stepFrom", "(JIII)I"⟩, 7), (⟨"PaidByCoast$Rocks", "showsAll", "(I)Z"⟩, 2), (⟨"PaidByCoast$Boat", "putWays", "(LPaidByCoast$Rocks;I)V"⟩, 1), (⟨"PaidByCoast$Boat", "leastWay", "(LPaidByCoast$Rocks;II)I"⟩, 1), (⟨"PaidByCoast$Boat", "wayBy", "(II)I"⟩, 1), (⟨"PaidByCoast", "refusalsOf", "(I)I"⟩, 9)]
theorem lw_r1 : ∀ q ∈ lw_privs_1, lw_okq q := List.forall_mem_cons.mpr ⟨lw_p0, List.forall_mem_cons.mpr ⟨lw_p1, List.forall_mem_cons.mpr ⟨lw_p2, List.forall_mem_cons.mpr ⟨lw_p3, List.forall_mem_cons.mpr ⟨lw_p4, List.forall_mem_cons.mpr ⟨lw_p5, List.forall_mem_cons.mpr ⟨lw_p6, List.forall_mem_cons.mpr ⟨lw_p7, List.forall_mem_cons.mpr ⟨lw_p8, List.forall_mem_cons.mpr ⟨lw_p9, List.forall_mem_cons.mpr ⟨lw_p10, List.forall_mem_cons.mpr ⟨lw_p11, List.forall_mem_cons.mpr ⟨lw_p12, List.forall_mem_cons.mpr ⟨lw_p13, List.forall_mem_cons.mpr ⟨lw_p14, List.forall_mem_cons.mpr ⟨lw_p15, fun _ h => absurd h List.not_mem_nil⟩⟩⟩⟩⟩⟩⟩⟩⟩⟩⟩⟩⟩⟩⟩⟩
theorem lw_p16 : lw_okq (⟨"PaidByCoastModel", "no", "(I)I"⟩, 37) := ⟨⟨by decide +kernel, by decide +kernel⟩, List.mem_of_getElem? (i := 667) (by decide +kernel), List.mem_of_getElem? (i := 792) (by decide +kernel), List.mem_of_getElem? (i := 793) (by decide +kernel)⟩
theorem lw_p17 : lw_okq (⟨"PaidByCoastModel", "statement", "()Z"⟩, 37) := ⟨⟨by decide +kernel, by decide +kernel⟩, List.mem_of_getElem? (i := 667) (by decide +kernel), List.mem_of_getElem? (i := 800) (by decide +kernel), List.mem_of_getElem? (i := 801) (by decide +kernel)⟩
theorem lw_p18 : lw_okq (⟨"PaidByCoastModel", "next", "()I"⟩, 37) := ⟨⟨by decide +kernel, by decide +kernel⟩, List.mem_of_getElem? (i := 667) (by decide +kernel), List.mem_of_getElem? (i := 804) (by decide +kernel), List.mem_of_getElem? (i := 805) (by decide +kernel)⟩
theorem lw_p19 : lw_okq (⟨"PaidByCoastModel", "readsStretch", "(I)Z"⟩, 37) := ⟨⟨by decide +kernel, by decide +kernel⟩, List.mem_of_getElem? (i := 667) (by decide +kernel), List.mem_of_getElem? (i := 808) (by decide +kernel), List.mem_of_getElem? (i := 809) (by decide +kernel)⟩
theorem lw_p20 : lw_okq (⟨"PaidByCoastModel", "readsOnes", "(II)Z"⟩, 37) := ⟨⟨by decide +kernel, by decide +kernel⟩, List.mem_of_getElem? (i := 667) (by decide +kernel), List.mem_of_getElem? (i := 812) (by decide +kernel), List.mem_of_getElem? (i := 813) (by decide +kernel)⟩
theorem lw_p21 : lw_okq (⟨"PaidByCoastModel", "passesAll", "(IZ)V"⟩, 37) := ⟨⟨by decide +kernel, by decide +kernel⟩, List.mem_of_getElem? (i := 667) (by decide +kernel), List.mem_of_getElem? (i := 822) (by decide +kernel), List.mem_of_getElem? (i := 823) (by decide +kernel)⟩
theorem lw_p22 : lw_okq (⟨"PaidByCoastModel", "passes", "([I)V"⟩, 37) := ⟨⟨by decide +kernel, by decide +kernel⟩, List.mem_of_getElem? (i := 667) (by decide +kernel), List.mem_of_getElem? (i := 826) (by decide +kernel), List.mem_of_getElem? (i := 827) (by decide +kernel)⟩
theorem lw_p23 : lw_okq (⟨"PaidByCoastModel", "passOne", "(I)I"⟩, 37) := ⟨⟨by decide +kernel, by decide +kernel⟩, List.mem_of_getElem? (i := 667) (by decide +kernel), List.mem_of_getElem? (i := 830) (by decide +kernel), List.mem_of_getElem? (i := 831) (by decide +kernel)⟩
theorem lw_p24 : lw_okq (⟨"PaidByCoastModel", "comes", "(I)Z"⟩, 37) := ⟨⟨by decide +kernel, by decide +kernel⟩, List.mem_of_getElem? (i := 667) (by decide +kernel), List.mem_of_getElem? (i := 834) (by decide +kernel), List.mem_of_getElem? (i := 835) (by decide +kernel)⟩
theorem lw_p25 : lw_okq (⟨"PaidByCoastModel", "comesStretch", "(I)Z"⟩, 37) := ⟨⟨by decide +kernel, by decide +kernel⟩, List.mem_of_getElem? (i := 667) (by decide +kernel), List.mem_of_getElem? (i := 838) (by decide +kernel), List.mem_of_getElem? (i := 839) (by decide +kernel)⟩
theorem lw_p26 : lw_okq (⟨"PaidByCoastModel", "comesRock", "(I)Z"⟩, 37) := ⟨⟨by decide +kernel, by decide +kernel⟩, List.mem_of_getElem? (i := 667) (by decide +kernel), List.mem_of_getElem? (i := 842) (by decide +kernel), List.mem_of_getElem? (i := 843) (by decide +kernel)⟩
theorem lw_p27 : lw_okq (⟨"PaidByCoastModel", "isStretch", "(I)Z"⟩, 37) := ⟨⟨by decide +kernel, by decide +kernel⟩, List.mem_of_getElem? (i := 667) (by decide +kernel), List.mem_of_getElem? (i := 858) (by decide +kernel), List.mem_of_getElem? (i := 859) (by decide +kernel)⟩
theorem lw_p28 : lw_okq (⟨"PaidByCoastModel", "isDry", "(I)Z"⟩, 37) := ⟨⟨by decide +kernel, by decide +kernel⟩, List.mem_of_getElem? (i := 667) (by decide +kernel), List.mem_of_getElem? (i := 862) (by decide +kernel), List.mem_of_getElem? (i := 863) (by decide +kernel)⟩
theorem lw_p29 : lw_okq (⟨"PaidByCoastModel", "feeOf", "(I)I"⟩, 37) := ⟨⟨by decide +kernel, by decide +kernel⟩, List.mem_of_getElem? (i := 667) (by decide +kernel), List.mem_of_getElem? (i := 866) (by decide +kernel), List.mem_of_getElem? (i := 867) (by decide +kernel)⟩
theorem lw_p30 : lw_okq (⟨"PaidByCoastModel", "isPlace", "(I)Z"⟩, 37) := ⟨⟨by decide +kernel, by decide +kernel⟩, List.mem_of_getElem? (i := 667) (by decide +kernel), List.mem_of_getElem? (i := 874) (by decide +kernel), List.mem_of_getElem? (i := 875) (by decide +kernel)⟩
theorem lw_p31 : lw_okq (⟨"PaidByCoastModel", "lower", "(I)I"⟩, 37) := ⟨⟨by decide +kernel, by decide +kernel⟩, List.mem_of_getElem? (i := 667) (by decide +kernel), List.mem_of_getElem? (i := 878) (by decide +kernel), List.mem_of_getElem? (i := 879) (by decide +kernel)⟩
def lw_privs_2 : List (MethodName × Nat) := [(⟨"PaidByCoastModel", "no", "(I)I"⟩, 37), (⟨"PaidByCoastModel", "statement", "()Z"⟩, 37), (⟨"PaidByCoastModel", "next", "()I"⟩, 37), (⟨"PaidByCoastModel", "readsStretch", "(I)Z"⟩, 37), (⟨"PaidByCoastModel", "readsOnes", "(II)Z"⟩, 37), (⟨"PaidByCoastModel", "passesAll", "(IZ)V"⟩, 37), (⟨"PaidByCoastModel", "passes", "([I)V"⟩, 37), (⟨"PaidByCoastModel", "passOne", "(I)I"⟩, 37), (⟨"PaidByCoastModel", "comes", "(I)Z"⟩, 37), (⟨"PaidByCoastModel", "comesStretch", "(I)Z"⟩, 37), (⟨"PaidByCoastModel", "comesRock", "(I)Z"⟩, 37), (⟨"PaidByCoastModel", "isStretch", "(I)Z"⟩, 37), (⟨"PaidByCoastModel", "isDry", "(I)Z"⟩, 37), (⟨"PaidByCoastModel", "feeOf", "(I)I"⟩, 37), (⟨"PaidByCoastModel", "isPlace", "(I)Z"⟩, 37), (⟨"PaidByCoastModel", "lower", "(I)I"⟩, 37)]
theorem lw_r2 : ∀ q ∈ lw_privs_2, lw_okq q := List.forall_mem_cons.mpr ⟨lw_p16, List.forall_mem_cons.mpr ⟨lw_p17, List.forall_mem_cons.mpr ⟨lw_p18, List.forall_mem_cons.mpr ⟨lw_p19, List.forall_mem_cons.mpr ⟨lw_p20, List.forall_mem_cons.mpr ⟨lw_p21, List.forall_mem_cons.mpr ⟨lw_p22, List.forall_mem_cons.mpr ⟨lw_p23, List.forall_mem_cons.mpr ⟨lw_p24, List.forall_mem_cons.mpr ⟨lw_p25, List.forall_mem_cons.mpr ⟨lw_p26, List.forall_mem_cons.mpr ⟨lw_p27, List.forall_mem_cons.mpr ⟨lw_p28, List.forall_mem_cons.mpr ⟨lw_p29, List.forall_mem_cons.mpr ⟨lw_p30, List.forall_mem_cons.mpr ⟨lw_p31, fun _ h => absurd h List.not_mem_nil⟩⟩⟩⟩⟩⟩⟩⟩⟩⟩⟩⟩⟩⟩⟩⟩
theorem lw_p32 : lw_okq (⟨"PaidByCoastModel", "pay", "(II)I"⟩, 37) := ⟨⟨by decide +kernel, by decide +kernel⟩, List.mem_of_getElem? (i := 667) (by decide +kernel), List.mem_of_getElem? (i := 898) (by decide +kernel), List.mem_of_getElem? (i := 899) (by decide +kernel)⟩
theorem lw_p33 : lw_okq (⟨"PaidByCoastModel", "miles", "(II)I"⟩, 37) := ⟨⟨by decide +kernel, by decide +kernel⟩, List.mem_of_getElem? (i := 667) (by decide +kernel), List.mem_of_getElem? (i := 902) (by decide +kernel), List.mem_of_getElem? (i := 903) (by decide +kernel)⟩
theorem lw_p34 : lw_okq (⟨"PaidByCoastModel", "findShore", "(II)V"⟩, 37) := ⟨⟨by decide +kernel, by decide +kernel⟩, List.mem_of_getElem? (i := 667) (by decide +kernel), List.mem_of_getElem? (i := 906) (by decide +kernel), List.mem_of_getElem? (i := 907) (by decide +kernel)⟩
theorem lw_p35 : lw_okq (⟨"PaidByCoastModel", "walks", "(II)I"⟩, 37) := ⟨⟨by decide +kernel, by decide +kernel⟩, List.mem_of_getElem? (i := 667) (by decide +kernel), List.mem_of_getElem? (i := 910) (by decide +kernel), List.mem_of_getElem? (i := 911) (by decide +kernel)⟩
theorem lw_p36 : lw_okq (⟨"PaidByCoastModel", "isFar", "(III)Z"⟩, 37) := ⟨⟨by decide +kernel, by decide +kernel⟩, List.mem_of_getElem? (i := 667) (by decide +kernel), List.mem_of_getElem? (i := 914) (by decide +kernel), List.mem_of_getElem? (i := 915) (by decide +kernel)⟩
theorem lw_p37 : lw_okq (⟨"PaidByCoastModel", "over", "()I"⟩, 37) := ⟨⟨by decide +kernel, by decide +kernel⟩, List.mem_of_getElem? (i := 667) (by decide +kernel), List.mem_of_getElem? (i := 918) (by decide +kernel), List.mem_of_getElem? (i := 919) (by decide +kernel)⟩
theorem lw_p38 : lw_okq (⟨"PaidByCoastModel", "stepFrom", "(III)I"⟩, 37) := ⟨⟨by decide +kernel, by decide +kernel⟩, List.mem_of_getElem? (i := 667) (by decide +kernel), List.mem_of_getElem? (i := 942) (by decide +kernel), List.mem_of_getElem? (i := 943) (by decide +kernel)⟩
theorem lw_p39 : lw_okq (⟨"PaidByCoastModel", "isIsland", "(II)Z"⟩, 37) := ⟨⟨by decide +kernel, by decide +kernel⟩, List.mem_of_getElem? (i := 667) (by decide +kernel), List.mem_of_getElem? (i := 954) (by decide +kernel), List.mem_of_getElem? (i := 955) (by decide +kernel)⟩
theorem lw_p40 : lw_okq (⟨"PaidByCoastModel", "areSeen", "(I)Z"⟩, 37) := ⟨⟨by decide +kernel, by decide +kernel⟩, List.mem_of_getElem? (i := 667) (by decide +kernel), List.mem_of_getElem? (i := 969) (by decide +kernel), List.mem_of_getElem? (i := 970) (by decide +kernel)⟩
theorem lw_p41 : lw_okq (⟨"PaidByCoastModel", "wayRound", "()I"⟩, 37) := ⟨⟨by decide +kernel, by decide +kernel⟩, List.mem_of_getElem? (i := 667) (by decide +kernel), List.mem_of_getElem? (i := 977) (by decide +kernel), List.mem_of_getElem? (i := 978) (by decide +kernel)⟩
theorem lw_p42 : lw_okq (⟨"PaidByCoastModel", "nextOrder", "()Z"⟩, 37) := ⟨⟨by decide +kernel, by decide +kernel⟩, List.mem_of_getElem? (i := 667) (by decide +kernel), List.mem_of_getElem? (i := 984) (by decide +kernel), List.mem_of_getElem? (i := 985) (by decide +kernel)⟩
theorem lw_p43 : lw_okq (⟨"PaidByCoastModel", "changes", "(II)V"⟩, 37) := ⟨⟨by decide +kernel, by decide +kernel⟩, List.mem_of_getElem? (i := 667) (by decide +kernel), List.mem_of_getElem? (i := 988) (by decide +kernel), List.mem_of_getElem? (i := 989) (by decide +kernel)⟩
theorem lw_p44 : lw_okq (⟨"PaidByCoastModel", "milesWithout", "(II)I"⟩, 37) := ⟨⟨by decide +kernel, by decide +kernel⟩, List.mem_of_getElem? (i := 667) (by decide +kernel), List.mem_of_getElem? (i := 996) (by decide +kernel), List.mem_of_getElem? (i := 997) (by decide +kernel)⟩
theorem lw_p45 : lw_okq (⟨"PaidByCoastModel", "draw", "(I)I"⟩, 37) := ⟨⟨by decide +kernel, by decide +kernel⟩, List.mem_of_getElem? (i := 667) (by decide +kernel), List.mem_of_getElem? (i := 1024) (by decide +kernel), List.mem_of_getElem? (i := 1025) (by decide +kernel)⟩
theorem lw_p46 : lw_okq (⟨"PaidByCoastModel", "fees", "()I"⟩, 37) := ⟨⟨by decide +kernel, by decide +kernel⟩, List.mem_of_getElem? (i := 667) (by decide +kernel), List.mem_of_getElem? (i := 1035) (by decide +kernel), List.mem_of_getElem? (i := 1036) (by decide +kernel)⟩
def lw_privs_3 : List (MethodName × Nat) := [(⟨"PaidByCoastModel", "pay", "(II)I"⟩, 37), (⟨"PaidByCoastModel", "miles", "(II)I"⟩, 37), (⟨"PaidByCoastModel", "findShore", "(II)V"⟩, 37), (⟨"PaidByCoastModel", "walks", "(II)I"⟩, 37), (⟨"PaidByCoastModel", "isFar", "(III)Z"⟩, 37), (⟨"PaidByCoastModel", "over", "()I"⟩, 37), (⟨"PaidByCoastModel", "stepFrom", "(III)I"⟩, 37), (⟨"PaidByCoastModel", "isIsland", "(II)Z"⟩, 37), (⟨"PaidByCoastModel", "areSeen", "(I)Z"⟩, 37), (⟨"PaidByCoastModel", "wayRound", "()I"⟩, 37), (⟨"PaidByCoastModel", "nextOrder", "()Z"⟩, 37), (⟨"PaidByCoastModel", "changes", "(II)V"⟩, 37), (⟨"PaidByCoastModel", "milesWithout", "(II)I"⟩, 37), (⟨"PaidByCoastModel", "draw", "(I)I"⟩, 37), (⟨"PaidByCoastModel", "fees", "()I"⟩, 37)]
theorem lw_r3 : ∀ q ∈ lw_privs_3, lw_okq q := List.forall_mem_cons.mpr ⟨lw_p32, List.forall_mem_cons.mpr ⟨lw_p33, List.forall_mem_cons.mpr ⟨lw_p34, List.forall_mem_cons.mpr ⟨lw_p35, List.forall_mem_cons.mpr ⟨lw_p36, List.forall_mem_cons.mpr ⟨lw_p37, List.forall_mem_cons.mpr ⟨lw_p38, List.forall_mem_cons.mpr ⟨lw_p39, List.forall_mem_cons.mpr ⟨lw_p40, List.forall_mem_cons.mpr ⟨lw_p41, List.forall_mem_cons.mpr ⟨lw_p42, List.forall_mem_cons.mpr ⟨lw_p43, List.forall_mem_cons.mpr ⟨lw_p44, List.forall_mem_cons.mpr ⟨lw_p45, List.forall_mem_cons.mpr ⟨lw_p46, fun _ h => absurd h List.not_mem_nil⟩⟩⟩⟩⟩⟩⟩⟩⟩⟩⟩⟩⟩⟩⟩
def lw_privs : List (MethodName × Nat) := lw_privs_1 ++ (lw_privs_2 ++ (lw_privs_3))
def lw_tbl : List Cond := k2_sels lw_privs ++ tables_1
theorem lw_privs_ok : ∀ q ∈ lw_privs, lw_okq q := by
  show ∀ q ∈ lw_privs_1 ++ (lw_privs_2 ++ (lw_privs_3)), lw_okq q
  exact List.forall_mem_append.mpr ⟨lw_r1, List.forall_mem_append.mpr ⟨lw_r2, lw_r3⟩⟩
-- ===== end of PART A; then your names; then what follows =====
end
section
def RX0 : String := "PaidByCoast$Boat"
def TX0 : u_T := fun k => match k with
  | _ => ("PaidByCoast$Boat", "ways", "[I", true)
def tyX0 : Nat → FieldType := fun k => match k with
  | _ => .array .int
abbrev wsX00 : List Cond := u_ws RX0 TX0 1
theorem nmX0 : ∀ a, a < 1 → ∀ b, b < 1 → a ≠ b → (TX0 a).2.1 ≠ (TX0 b).2.1 := by decide +kernel
theorem tyX0_ok : ∀ k, k < 1 → parseFieldDescriptor (TX0 k).2.2.1 = some (tyX0 k) := by decide +kernel
abbrev cX0_init : ByteArray := prog_2_method_1_code
def yX0_init : MethodName := ⟨RX0, "<init>", "()V"⟩
abbrev cX0_roundTrip : ByteArray := prog_2_method_2_code
def yX0_roundTrip : MethodName := ⟨RX0, "roundTrip", "(LPaidByCoast$Rocks;I)I"⟩
abbrev cX0_putWays : ByteArray := prog_2_method_3_code
def yX0_putWays : MethodName := ⟨RX0, "putWays", "(LPaidByCoast$Rocks;I)V"⟩
abbrev cX0_leastWay : ByteArray := prog_2_method_4_code
def yX0_leastWay : MethodName := ⟨RX0, "leastWay", "(LPaidByCoast$Rocks;II)I"⟩
abbrev cX0_wayBy : ByteArray := prog_2_method_5_code
def yX0_wayBy : MethodName := ⟨RX0, "wayBy", "(II)I"⟩
def RX1 : String := "PaidByCoast$Cliff"
def TX1 : u_T := fun k => match k with
  | 0 => ("PaidByCoast$Shore", "figure", "I", true)
  | 1 => ("PaidByCoast$Shore", "first", "I", true)
  | _ => ("PaidByCoast$Shore", "length", "I", true)
def tyX1 : Nat → FieldType := fun k => match k with
  | 0 => .int
  | 1 => .int
  | _ => .int
abbrev wsX10 : List Cond := u_ws RX1 TX1 3
theorem nmX1 : ∀ a, a < 3 → ∀ b, b < 3 → a ≠ b → (TX1 a).2.1 ≠ (TX1 b).2.1 := by decide +kernel
theorem tyX1_ok : ∀ k, k < 3 → parseFieldDescriptor (TX1 k).2.2.1 = some (tyX1 k) := by decide +kernel
abbrev cX1_init : ByteArray := prog_3_method_1_code
def yX1_init : MethodName := ⟨RX1, "<init>", "(III)V"⟩
abbrev cX1_kind : ByteArray := prog_3_method_2_code
def yX1_kind : MethodName := ⟨RX1, "kind", "()I"⟩
abbrev cX1_fee : ByteArray := prog_3_method_3_code
def yX1_fee : MethodName := ⟨RX1, "fee", "()I"⟩
def RX2 : String := "PaidByCoast$Coast"
def TX2 : u_T := fun k => match k with
  | 0 => ("PaidByCoast$Coast", "stretches", "[LPaidByCoast$Shore;", true)
  | 1 => ("PaidByCoast$Coast", "stretchCount", "I", false)
  | 2 => ("PaidByCoast$Coast", "xs", "[I", true)
  | 3 => ("PaidByCoast$Coast", "ys", "[I", true)
  | 4 => ("PaidByCoast$Coast", "yards", "I", false)
  | 5 => ("PaidByCoast$Coast", "rocks", "LPaidByCoast$Rocks;", true)
  | _ => ("PaidByCoast$Coast", "tide", "I", false)
def tyX2 : Nat → FieldType := fun k => match k with
  | 0 => .array (.object "PaidByCoast$Shore")
  | 1 => .int
  | 2 => .array .int
  | 3 => .array .int
  | 4 => .int
  | 5 => .object "PaidByCoast$Rocks"
  | _ => .int
abbrev wsX20 : List Cond := u_ws RX2 TX2 7
theorem nmX2 : ∀ a, a < 7 → ∀ b, b < 7 → a ≠ b → (TX2 a).2.1 ≠ (TX2 b).2.1 := by decide +kernel
theorem tyX2_ok : ∀ k, k < 7 → parseFieldDescriptor (TX2 k).2.2.1 = some (tyX2 k) := by decide +kernel
abbrev cX2_init : ByteArray := prog_4_method_1_code
def yX2_init : MethodName := ⟨RX2, "<init>", "()V"⟩
abbrev cX2_become : ByteArray := prog_4_method_2_code
def yX2_become : MethodName := ⟨RX2, "become", "(LPaidByCoast$Coast;)V"⟩
abbrev cX2_stretchAt : ByteArray := prog_4_method_3_code
def yX2_stretchAt : MethodName := ⟨RX2, "stretchAt", "(I)LPaidByCoast$Shore;"⟩
abbrev cX2_appendStretch : ByteArray := prog_4_method_4_code
def yX2_appendStretch : MethodName := ⟨RX2, "appendStretch", "(III)Z"⟩
abbrev cX2_appendYard : ByteArray := prog_4_method_5_code
def yX2_appendYard : MethodName := ⟨RX2, "appendYard", "(I)V"⟩
abbrev cX2_hasPlace : ByteArray := prog_4_method_6_code
def yX2_hasPlace : MethodName := ⟨RX2, "hasPlace", "(I)Z"⟩
abbrev cX2_xAt : ByteArray := prog_4_method_7_code
def yX2_xAt : MethodName := ⟨RX2, "xAt", "(I)I"⟩
abbrev cX2_yAt : ByteArray := prog_4_method_8_code
def yX2_yAt : MethodName := ⟨RX2, "yAt", "(I)I"⟩
abbrev cX2_shoreNow : ByteArray := prog_4_method_9_code
def yX2_shoreNow : MethodName := ⟨RX2, "shoreNow", "()J"⟩
abbrev cX2_shoreAt : ByteArray := prog_4_method_10_code
def yX2_shoreAt : MethodName := ⟨RX2, "shoreAt", "(I)J"⟩
abbrev cX2_feesOfStretches : ByteArray := prog_4_method_11_code
def yX2_feesOfStretches : MethodName := ⟨RX2, "feesOfStretches", "()I"⟩
abbrev cX2_feesOf : ByteArray := prog_4_method_12_code
def yX2_feesOf : MethodName := ⟨RX2, "feesOf", "(J)I"⟩
abbrev cX2_isRodApart : ByteArray := prog_4_method_13_code
def yX2_isRodApart : MethodName := ⟨RX2, "isRodApart", "(III)Z"⟩
abbrev cX2_reachedFrom : ByteArray := prog_4_method_14_code
def yX2_reachedFrom : MethodName := ⟨RX2, "reachedFrom", "(JII)J"⟩
abbrev cX2_milesOf : ByteArray := prog_4_method_15_code
def yX2_milesOf : MethodName := ⟨RX2, "milesOf", "(JII)I"⟩
abbrev cX2_milesWithout : ByteArray := prog_4_method_16_code
def yX2_milesWithout : MethodName := ⟨RX2, "milesWithout", "(LPaidByCoast$Shore;I)I"⟩
abbrev cX2_milesOfTwo : ByteArray := prog_4_method_17_code
def yX2_milesOfTwo : MethodName := ⟨RX2, "milesOfTwo", "(IIZ)I"⟩
abbrev cX2_stepFrom : ByteArray := prog_4_method_18_code
def yX2_stepFrom : MethodName := ⟨RX2, "stepFrom", "(JIII)I"⟩
def RX3 : String := "PaidByCoast$Letters"
def TX3 : u_T := fun k => match k with
  | 0 => ("PaidByCoast$Letters", "text", "[I", true)
  | _ => ("PaidByCoast$Letters", "size", "I", false)
def tyX3 : Nat → FieldType := fun k => match k with
  | 0 => .array .int
  | _ => .int
abbrev wsX30 : List Cond := u_ws RX3 TX3 2
theorem nmX3 : ∀ a, a < 2 → ∀ b, b < 2 → a ≠ b → (TX3 a).2.1 ≠ (TX3 b).2.1 := by decide +kernel
theorem tyX3_ok : ∀ k, k < 2 → parseFieldDescriptor (TX3 k).2.2.1 = some (tyX3 k) := by decide +kernel
abbrev cX3_init : ByteArray := prog_5_method_1_code
def yX3_init : MethodName := ⟨RX3, "<init>", "()V"⟩
abbrev cX3_append : ByteArray := prog_5_method_2_code
def yX3_append : MethodName := ⟨RX3, "append", "(I)Z"⟩
abbrev cX3_letterAt : ByteArray := prog_5_method_3_code
def yX3_letterAt : MethodName := ⟨RX3, "letterAt", "(I)I"⟩
abbrev cX3_isDigit : ByteArray := prog_5_method_4_code
def yX3_isDigit : MethodName := ⟨RX3, "isDigit", "(I)Z"⟩
abbrev cX3_digitAt : ByteArray := prog_5_method_5_code
def yX3_digitAt : MethodName := ⟨RX3, "digitAt", "(I)I"⟩
abbrev cX3_pairAt : ByteArray := prog_5_method_6_code
def yX3_pairAt : MethodName := ⟨RX3, "pairAt", "(I)I"⟩
abbrev cX3_isWay : ByteArray := prog_5_method_7_code
def yX3_isWay : MethodName := ⟨RX3, "isWay", "(I)Z"⟩
abbrev cX3_waysFrom : ByteArray := prog_5_method_8_code
def yX3_waysFrom : MethodName := ⟨RX3, "waysFrom", "(I)I"⟩
abbrev cX3_digitsOf : ByteArray := prog_5_method_9_code
def yX3_digitsOf : MethodName := ⟨RX3, "digitsOf", "(I)I"⟩
abbrev cX3_behindStatement : ByteArray := prog_5_method_10_code
def yX3_behindStatement : MethodName := ⟨RX3, "behindStatement", "(I)I"⟩
abbrev cX3_wrongLetter : ByteArray := prog_5_method_11_code
def yX3_wrongLetter : MethodName := ⟨RX3, "wrongLetter", "()I"⟩
abbrev cX3_tell : ByteArray := prog_5_method_12_code
def yX3_tell : MethodName := ⟨RX3, "tell", "(LPaidByCoast$Coast;I)Z"⟩
def RX4 : String := "PaidByCoast$Marsh"
def TX4 : u_T := fun k => match k with
  | 0 => ("PaidByCoast$Shore", "figure", "I", true)
  | 1 => ("PaidByCoast$Shore", "first", "I", true)
  | _ => ("PaidByCoast$Shore", "length", "I", true)
def tyX4 : Nat → FieldType := fun k => match k with
  | 0 => .int
  | 1 => .int
  | _ => .int
abbrev wsX40 : List Cond := u_ws RX4 TX4 3
theorem nmX4 : ∀ a, a < 3 → ∀ b, b < 3 → a ≠ b → (TX4 a).2.1 ≠ (TX4 b).2.1 := by decide +kernel
theorem tyX4_ok : ∀ k, k < 3 → parseFieldDescriptor (TX4 k).2.2.1 = some (tyX4 k) := by decide +kernel
abbrev cX4_init : ByteArray := prog_6_method_1_code
def yX4_init : MethodName := ⟨RX4, "<init>", "(III)V"⟩
abbrev cX4_kind : ByteArray := prog_6_method_2_code
def yX4_kind : MethodName := ⟨RX4, "kind", "()I"⟩
abbrev cX4_isDry : ByteArray := prog_6_method_3_code
def yX4_isDry : MethodName := ⟨RX4, "isDry", "(I)Z"⟩
abbrev cX4_fee : ByteArray := prog_6_method_4_code
def yX4_fee : MethodName := ⟨RX4, "fee", "()I"⟩
def RX5 : String := "PaidByCoast$River"
def TX5 : u_T := fun k => match k with
  | 0 => ("PaidByCoast$Shore", "figure", "I", true)
  | 1 => ("PaidByCoast$Shore", "first", "I", true)
  | _ => ("PaidByCoast$Shore", "length", "I", true)
def tyX5 : Nat → FieldType := fun k => match k with
  | 0 => .int
  | 1 => .int
  | _ => .int
abbrev wsX50 : List Cond := u_ws RX5 TX5 3
theorem nmX5 : ∀ a, a < 3 → ∀ b, b < 3 → a ≠ b → (TX5 a).2.1 ≠ (TX5 b).2.1 := by decide +kernel
theorem tyX5_ok : ∀ k, k < 3 → parseFieldDescriptor (TX5 k).2.2.1 = some (tyX5 k) := by decide +kernel
abbrev cX5_init : ByteArray := prog_7_method_1_code
def yX5_init : MethodName := ⟨RX5, "<init>", "(III)V"⟩
abbrev cX5_kind : ByteArray := prog_7_method_2_code
def yX5_kind : MethodName := ⟨RX5, "kind", "()I"⟩
abbrev cX5_isDry : ByteArray := prog_7_method_3_code
def yX5_isDry : MethodName := ⟨RX5, "isDry", "(I)Z"⟩
abbrev cX5_fee : ByteArray := prog_7_method_4_code
def yX5_fee : MethodName := ⟨RX5, "fee", "()I"⟩
def RX6 : String := "PaidByCoast$Rock"
def TX6 : u_T := fun k => match k with
  | 0 => ("PaidByCoast$Rock", "x", "I", true)
  | 1 => ("PaidByCoast$Rock", "y", "I", true)
  | 2 => ("PaidByCoast$Rock", "low", "I", true)
  | _ => ("PaidByCoast$Rock", "high", "I", true)
def tyX6 : Nat → FieldType := fun k => match k with
  | 0 => .int
  | 1 => .int
  | 2 => .int
  | _ => .int
abbrev wsX60 : List Cond := u_ws RX6 TX6 4
theorem nmX6 : ∀ a, a < 4 → ∀ b, b < 4 → a ≠ b → (TX6 a).2.1 ≠ (TX6 b).2.1 := by decide +kernel
theorem tyX6_ok : ∀ k, k < 4 → parseFieldDescriptor (TX6 k).2.2.1 = some (tyX6 k) := by decide +kernel
abbrev cX6_init : ByteArray := prog_8_method_1_code
def yX6_init : MethodName := ⟨RX6, "<init>", "(IIII)V"⟩
abbrev cX6_isIsland : ByteArray := prog_8_method_2_code
def yX6_isIsland : MethodName := ⟨RX6, "isIsland", "(I)Z"⟩
def RX7 : String := "PaidByCoast$Rocks"
def TX7 : u_T := fun k => match k with
  | 0 => ("PaidByCoast$Rocks", "rocks", "[LPaidByCoast$Rock;", true)
  | _ => ("PaidByCoast$Rocks", "size", "I", false)
def tyX7 : Nat → FieldType := fun k => match k with
  | 0 => .array (.object "PaidByCoast$Rock")
  | _ => .int
abbrev wsX70 : List Cond := u_ws RX7 TX7 2
theorem nmX7 : ∀ a, a < 2 → ∀ b, b < 2 → a ≠ b → (TX7 a).2.1 ≠ (TX7 b).2.1 := by decide +kernel
theorem tyX7_ok : ∀ k, k < 2 → parseFieldDescriptor (TX7 k).2.2.1 = some (tyX7 k) := by decide +kernel
abbrev cX7_init : ByteArray := prog_9_method_1_code
def yX7_init : MethodName := ⟨RX7, "<init>", "()V"⟩
abbrev cX7_rockAt : ByteArray := prog_9_method_2_code
def yX7_rockAt : MethodName := ⟨RX7, "rockAt", "(I)LPaidByCoast$Rock;"⟩
abbrev cX7_append : ByteArray := prog_9_method_3_code
def yX7_append : MethodName := ⟨RX7, "append", "(IIII)Z"⟩
abbrev cX7_become : ByteArray := prog_9_method_4_code
def yX7_become : MethodName := ⟨RX7, "become", "(LPaidByCoast$Rocks;)V"⟩
abbrev cX7_islandsAt : ByteArray := prog_9_method_5_code
def yX7_islandsAt : MethodName := ⟨RX7, "islandsAt", "(I)I"⟩
abbrev cX7_fewestHours : ByteArray := prog_9_method_6_code
def yX7_fewestHours : MethodName := ⟨RX7, "fewestHours", "()I"⟩
abbrev cX7_showsAll : ByteArray := prog_9_method_7_code
def yX7_showsAll : MethodName := ⟨RX7, "showsAll", "(I)Z"⟩
abbrev cX7_yardsFromHome : ByteArray := prog_9_method_8_code
def yX7_yardsFromHome : MethodName := ⟨RX7, "yardsFromHome", "(I)I"⟩
abbrev cX7_yardsBetween : ByteArray := prog_9_method_9_code
def yX7_yardsBetween : MethodName := ⟨RX7, "yardsBetween", "(II)I"⟩
def RX8 : String := "PaidByCoast$Sand"
def TX8 : u_T := fun k => match k with
  | 0 => ("PaidByCoast$Shore", "figure", "I", true)
  | 1 => ("PaidByCoast$Shore", "first", "I", true)
  | _ => ("PaidByCoast$Shore", "length", "I", true)
def tyX8 : Nat → FieldType := fun k => match k with
  | 0 => .int
  | 1 => .int
  | _ => .int
abbrev wsX80 : List Cond := u_ws RX8 TX8 3
theorem nmX8 : ∀ a, a < 3 → ∀ b, b < 3 → a ≠ b → (TX8 a).2.1 ≠ (TX8 b).2.1 := by decide +kernel
theorem tyX8_ok : ∀ k, k < 3 → parseFieldDescriptor (TX8 k).2.2.1 = some (tyX8 k) := by decide +kernel
abbrev cX8_init : ByteArray := prog_10_method_1_code
def yX8_init : MethodName := ⟨RX8, "<init>", "(III)V"⟩
abbrev cX8_kind : ByteArray := prog_10_method_2_code
def yX8_kind : MethodName := ⟨RX8, "kind", "()I"⟩
abbrev cX8_isDry : ByteArray := prog_10_method_3_code
def yX8_isDry : MethodName := ⟨RX8, "isDry", "(I)Z"⟩
abbrev cX8_fee : ByteArray := prog_10_method_4_code
def yX8_fee : MethodName := ⟨RX8, "fee", "()I"⟩
def RX9 : String := "PaidByCoast$Shore"
def TX9 : u_T := fun k => match k with
  | 0 => ("PaidByCoast$Shore", "figure", "I", true)
  | 1 => ("PaidByCoast$Shore", "first", "I", true)
  | _ => ("PaidByCoast$Shore", "length", "I", true)
def tyX9 : Nat → FieldType := fun k => match k with
  | 0 => .int
  | 1 => .int
  | _ => .int
abbrev wsX90 : List Cond := u_ws RX9 TX9 3
theorem nmX9 : ∀ a, a < 3 → ∀ b, b < 3 → a ≠ b → (TX9 a).2.1 ≠ (TX9 b).2.1 := by decide +kernel
theorem tyX9_ok : ∀ k, k < 3 → parseFieldDescriptor (TX9 k).2.2.1 = some (tyX9 k) := by decide +kernel
abbrev cX9_init : ByteArray := prog_11_method_1_code
def yX9_init : MethodName := ⟨RX9, "<init>", "(III)V"⟩
abbrev cX9_kind : ByteArray := prog_11_method_2_code
def yX9_kind : MethodName := ⟨RX9, "kind", "()I"⟩
abbrev cX9_isDry : ByteArray := prog_11_method_3_code
def yX9_isDry : MethodName := ⟨RX9, "isDry", "(I)Z"⟩
abbrev cX9_fee : ByteArray := prog_11_method_4_code
def yX9_fee : MethodName := ⟨RX9, "fee", "()I"⟩
abbrev cX9_places : ByteArray := prog_11_method_5_code
def yX9_places : MethodName := ⟨RX9, "places", "()J"⟩
def RX10 : String := "PaidByCoast$Wall"
def TX10 : u_T := fun k => match k with
  | 0 => ("PaidByCoast$Shore", "figure", "I", true)
  | 1 => ("PaidByCoast$Shore", "first", "I", true)
  | _ => ("PaidByCoast$Shore", "length", "I", true)
def tyX10 : Nat → FieldType := fun k => match k with
  | 0 => .int
  | 1 => .int
  | _ => .int
abbrev wsX100 : List Cond := u_ws RX10 TX10 3
theorem nmX10 : ∀ a, a < 3 → ∀ b, b < 3 → a ≠ b → (TX10 a).2.1 ≠ (TX10 b).2.1 := by decide +kernel
theorem tyX10_ok : ∀ k, k < 3 → parseFieldDescriptor (TX10 k).2.2.1 = some (tyX10 k) := by decide +kernel
abbrev cX10_init : ByteArray := prog_12_method_1_code
def yX10_init : MethodName := ⟨RX10, "<init>", "(III)V"⟩
abbrev cX10_kind : ByteArray := prog_12_method_2_code
def yX10_kind : MethodName := ⟨RX10, "kind", "()I"⟩
abbrev cX10_isDry : ByteArray := prog_12_method_3_code
def yX10_isDry : MethodName := ⟨RX10, "isDry", "(I)Z"⟩
abbrev cX10_fee : ByteArray := prog_12_method_4_code
def yX10_fee : MethodName := ⟨RX10, "fee", "()I"⟩
def RX11 : String := "PaidByCoast"
def TX11 : u_T := fun k => match k with
  | 0 => ("PaidByCoast", "now", "LPaidByCoast$Coast;", true)
  | 1 => ("PaidByCoast", "draft", "LPaidByCoast$Coast;", true)
  | 2 => ("PaidByCoast", "image", "LPaidByCoast$Coast;", true)
  | 3 => ("PaidByCoast", "imageTaken", "Z", false)
  | 4 => ("PaidByCoast", "ferry", "LPaidByCoast$Boat;", true)
  | 5 => ("PaidByCoast", "letters", "LPaidByCoast$Letters;", true)
  | 6 => ("PaidByCoast", "row", "[I", true)
  | 7 => ("PaidByCoast", "rowSize", "I", false)
  | _ => ("PaidByCoast", "refusals", "[I", true)
def tyX11 : Nat → FieldType := fun k => match k with
  | 0 => .object "PaidByCoast$Coast"
  | 1 => .object "PaidByCoast$Coast"
  | 2 => .object "PaidByCoast$Coast"
  | 3 => .boolean
  | 4 => .object "PaidByCoast$Boat"
  | 5 => .object "PaidByCoast$Letters"
  | 6 => .array .int
  | 7 => .int
  | _ => .array .int
abbrev wsX110 : List Cond := u_ws RX11 TX11 9
theorem nmX11 : ∀ a, a < 9 → ∀ b, b < 9 → a ≠ b → (TX11 a).2.1 ≠ (TX11 b).2.1 := by decide +kernel
theorem tyX11_ok : ∀ k, k < 9 → parseFieldDescriptor (TX11 k).2.2.1 = some (tyX11 k) := by decide +kernel
abbrev cX11_init : ByteArray := prog_1_method_1_code
def yX11_init : MethodName := ⟨RX11, "<init>", "()V"⟩
abbrev cX11_feed : ByteArray := prog_1_method_2_code
def yX11_feed : MethodName := ⟨RX11, "feed", "(I)I"⟩
abbrev cX11_coast : ByteArray := prog_1_method_3_code
def yX11_coast : MethodName := ⟨RX11, "coast", "()I"⟩
abbrev cX11_stretch : ByteArray := prog_1_method_4_code
def yX11_stretch : MethodName := ⟨RX11, "stretch", "(II)I"⟩
abbrev cX11_point : ByteArray := prog_1_method_5_code
def yX11_point : MethodName := ⟨RX11, "point", "(II)I"⟩
abbrev cX11_shore : ByteArray := prog_1_method_6_code
def yX11_shore : MethodName := ⟨RX11, "shore", "(I)I"⟩
abbrev cX11_tide : ByteArray := prog_1_method_7_code
def yX11_tide : MethodName := ⟨RX11, "tide", "(I)I"⟩
abbrev cX11_walk : ByteArray := prog_1_method_8_code
def yX11_walk : MethodName := ⟨RX11, "walk", "(III)I"⟩
abbrev cX11_place : ByteArray := prog_1_method_9_code
def yX11_place : MethodName := ⟨RX11, "place", "(III)I"⟩
abbrev cX11_best : ByteArray := prog_1_method_10_code
def yX11_best : MethodName := ⟨RX11, "best", "(II)I"⟩
abbrev cX11_span : ByteArray := prog_1_method_11_code
def yX11_span : MethodName := ⟨RX11, "span", "(I)I"⟩
abbrev cX11_finer : ByteArray := prog_1_method_12_code
def yX11_finer : MethodName := ⟨RX11, "finer", "(I)I"⟩
abbrev cX11_two : ByteArray := prog_1_method_13_code
def yX11_two : MethodName := ⟨RX11, "two", "(III)I"⟩
abbrev cX11_map : ByteArray := prog_1_method_14_code
def yX11_map : MethodName := ⟨RX11, "map", "(II)I"⟩
abbrev cX11_rock : ByteArray := prog_1_method_15_code
def yX11_rock : MethodName := ⟨RX11, "rock", "(II)I"⟩
abbrev cX11_islands : ByteArray := prog_1_method_16_code
def yX11_islands : MethodName := ⟨RX11, "islands", "()I"⟩
abbrev cX11_hours : ByteArray := prog_1_method_17_code
def yX11_hours : MethodName := ⟨RX11, "hours", "(I)I"⟩
abbrev cX11_boat : ByteArray := prog_1_method_18_code
def yX11_boat : MethodName := ⟨RX11, "boat", "()I"⟩
abbrev cX11_cut : ByteArray := prog_1_method_19_code
def yX11_cut : MethodName := ⟨RX11, "cut", "(II)I"⟩
abbrev cX11_worstCut : ByteArray := prog_1_method_20_code
def yX11_worstCut : MethodName := ⟨RX11, "worstCut", "(I)I"⟩
abbrev cX11_copy : ByteArray := prog_1_method_21_code
def yX11_copy : MethodName := ⟨RX11, "copy", "(II)I"⟩
abbrev cX11_sure : ByteArray := prog_1_method_22_code
def yX11_sure : MethodName := ⟨RX11, "sure", "(I)I"⟩
abbrev cX11_row : ByteArray := prog_1_method_23_code
def yX11_row : MethodName := ⟨RX11, "row", "(I)I"⟩
abbrev cX11_judge : ByteArray := prog_1_method_24_code
def yX11_judge : MethodName := ⟨RX11, "judge", "(II)I"⟩
abbrev cX11_seeds : ByteArray := prog_1_method_25_code
def yX11_seeds : MethodName := ⟨RX11, "seeds", "(II)I"⟩
abbrev cX11_image : ByteArray := prog_1_method_26_code
def yX11_image : MethodName := ⟨RX11, "image", "()I"⟩
abbrev cX11_restore : ByteArray := prog_1_method_27_code
def yX11_restore : MethodName := ⟨RX11, "restore", "()I"⟩
abbrev cX11_count : ByteArray := prog_1_method_28_code
def yX11_count : MethodName := ⟨RX11, "count", "(I)I"⟩
abbrev cX11_refuse : ByteArray := prog_1_method_29_code
def yX11_refuse : MethodName := ⟨RX11, "refuse", "(I)I"⟩
abbrev cX11_refusalsOf : ByteArray := prog_1_method_30_code
def yX11_refusalsOf : MethodName := ⟨RX11, "refusalsOf", "(I)I"⟩
abbrev cX11_rodRefusal : ByteArray := prog_1_method_31_code
def yX11_rodRefusal : MethodName := ⟨RX11, "rodRefusal", "(I)I"⟩
abbrev cX11_walkRefusal : ByteArray := prog_1_method_32_code
def yX11_walkRefusal : MethodName := ⟨RX11, "walkRefusal", "(II)I"⟩
abbrev cX11_readStatements : ByteArray := prog_1_method_33_code
def yX11_readStatements : MethodName := ⟨RX11, "readStatements", "()I"⟩
abbrev cX11_holds : ByteArray := prog_1_method_34_code
def yX11_holds : MethodName := ⟨RX11, "holds", "(JI)Z"⟩
abbrev cX11_memberOf : ByteArray := prog_1_method_35_code
def yX11_memberOf : MethodName := ⟨RX11, "memberOf", "(JI)I"⟩
abbrev cX11_lastOf : ByteArray := prog_1_method_36_code
def yX11_lastOf : MethodName := ⟨RX11, "lastOf", "(J)I"⟩
abbrev cX11_eachOf : ByteArray := prog_1_method_37_code
def yX11_eachOf : MethodName := ⟨RX11, "eachOf", "(JI)J"⟩
abbrev cX11_stepsOf : ByteArray := prog_1_method_38_code
def yX11_stepsOf : MethodName := ⟨RX11, "stepsOf", "(J)I"⟩
abbrev cX11_payOf : ByteArray := prog_1_method_39_code
def yX11_payOf : MethodName := ⟨RX11, "payOf", "(JI)I"⟩
abbrev cX11_overOf : ByteArray := prog_1_method_40_code
def yX11_overOf : MethodName := ⟨RX11, "overOf", "(JJ)I"⟩
abbrev cX11_nextState : ByteArray := prog_1_method_41_code
def yX11_nextState : MethodName := ⟨RX11, "nextState", "(I)I"⟩
abbrev cX11_drawBelow : ByteArray := prog_1_method_42_code
def yX11_drawBelow : MethodName := ⟨RX11, "drawBelow", "(II)I"⟩
def RX12 : String := "PaidByCoastModel"
def TX12 : u_T := fun k => match k with
  | 0 => ("PaidByCoastModel", "refused", "[I", true)
  | 1 => ("PaidByCoastModel", "kind", "[I", true)
  | 2 => ("PaidByCoastModel", "figure", "[I", true)
  | 3 => ("PaidByCoastModel", "firstYard", "[I", true)
  | 4 => ("PaidByCoastModel", "yardsOf", "[I", true)
  | 5 => ("PaidByCoastModel", "x", "[I", true)
  | 6 => ("PaidByCoastModel", "y", "[I", true)
  | 7 => ("PaidByCoastModel", "stretchOf", "[I", true)
  | 8 => ("PaidByCoastModel", "rockX", "[I", true)
  | 9 => ("PaidByCoastModel", "rockY", "[I", true)
  | 10 => ("PaidByCoastModel", "low", "[I", true)
  | 11 => ("PaidByCoastModel", "high", "[I", true)
  | 12 => ("PaidByCoastModel", "stretches", "I", false)
  | 13 => ("PaidByCoastModel", "yards", "I", false)
  | 14 => ("PaidByCoastModel", "rocks", "I", false)
  | 15 => ("PaidByCoastModel", "tide", "I", false)
  | 16 => ("PaidByCoastModel", "tape", "[I", true)
  | 17 => ("PaidByCoastModel", "letter", "[I", true)
  | 18 => ("PaidByCoastModel", "letterAt", "[I", true)
  | 19 => ("PaidByCoastModel", "number", "[I", true)
  | 20 => ("PaidByCoastModel", "taped", "I", false)
  | 21 => ("PaidByCoastModel", "at", "I", false)
  | 22 => ("PaidByCoastModel", "statements", "I", false)
  | 23 => ("PaidByCoastModel", "kept", "[I", true)
  | 24 => ("PaidByCoastModel", "hasImage", "Z", false)
  | 25 => ("PaidByCoastModel", "isKeeping", "Z", false)
  | 26 => ("PaidByCoastModel", "cursor", "I", false)
  | 27 => ("PaidByCoastModel", "shore", "[I", true)
  | 28 => ("PaidByCoastModel", "walked", "[I", true)
  | 29 => ("PaidByCoastModel", "shoreMany", "I", false)
  | 30 => ("PaidByCoastModel", "walkedMany", "I", false)
  | 31 => ("PaidByCoastModel", "order", "[I", true)
  | 32 => ("PaidByCoastModel", "orderMany", "I", false)
  | 33 => ("PaidByCoastModel", "reached", "[I", true)
  | 34 => ("PaidByCoastModel", "row", "[I", true)
  | 35 => ("PaidByCoastModel", "rowMany", "I", false)
  | _ => ("PaidByCoastModel", "lots", "I", false)
def tyX12 : Nat → FieldType := fun k => match k with
  | 0 => .array .int
  | 1 => .array .int
  | 2 => .array .int
  | 3 => .array .int
  | 4 => .array .int
  | 5 => .array .int
  | 6 => .array .int
  | 7 => .array .int
  | 8 => .array .int
  | 9 => .array .int
  | 10 => .array .int
  | 11 => .array .int
  | 12 => .int
  | 13 => .int
  | 14 => .int
  | 15 => .int
  | 16 => .array .int
  | 17 => .array .int
  | 18 => .array .int
  | 19 => .array .int
  | 20 => .int
  | 21 => .int
  | 22 => .int
  | 23 => .array .int
  | 24 => .boolean
  | 25 => .boolean
  | 26 => .int
  | 27 => .array .int
  | 28 => .array .int
  | 29 => .int
  | 30 => .int
  | 31 => .array .int
  | 32 => .int
  | 33 => .array .int
  | 34 => .array .int
  | 35 => .int
  | _ => .int
abbrev wsX120 : List Cond := u_ws RX12 TX12 37
theorem nmX12 : ∀ a, a < 37 → ∀ b, b < 37 → a ≠ b → (TX12 a).2.1 ≠ (TX12 b).2.1 := by decide +kernel
theorem tyX12_ok : ∀ k, k < 37 → parseFieldDescriptor (TX12 k).2.2.1 = some (tyX12 k) := by decide +kernel
abbrev cX12_init : ByteArray := prog_14_method_1_code
def yX12_init : MethodName := ⟨RX12, "<init>", "()V"⟩
abbrev cX12_no : ByteArray := prog_14_method_2_code
def yX12_no : MethodName := ⟨RX12, "no", "(I)I"⟩
abbrev cX12_lower : ByteArray := prog_14_method_3_code
def yX12_lower : MethodName := ⟨RX12, "lower", "(I)I"⟩
abbrev cX12_isIn : ByteArray := prog_14_method_4_code
def yX12_isIn : MethodName := ⟨RX12, "isIn", "(III)Z"⟩
abbrev cX12_bound : ByteArray := prog_14_method_5_code
def yX12_bound : MethodName := ⟨RX12, "bound", "(III)I"⟩
abbrev cX12_feed : ByteArray := prog_14_method_6_code
def yX12_feed : MethodName := ⟨RX12, "feed", "(I)I"⟩
abbrev cX12_next : ByteArray := prog_14_method_7_code
def yX12_next : MethodName := ⟨RX12, "next", "()I"⟩
abbrev cX12_readsOnes : ByteArray := prog_14_method_8_code
def yX12_readsOnes : MethodName := ⟨RX12, "readsOnes", "(II)Z"⟩
abbrev cX12_wayOf : ByteArray := prog_14_method_9_code
def yX12_wayOf : MethodName := ⟨RX12, "wayOf", "(I)I"⟩
abbrev cX12_readsStretch : ByteArray := prog_14_method_10_code
def yX12_readsStretch : MethodName := ⟨RX12, "readsStretch", "(I)Z"⟩
abbrev cX12_statement : ByteArray := prog_14_method_11_code
def yX12_statement : MethodName := ⟨RX12, "statement", "()Z"⟩
abbrev cX12_comesStretch : ByteArray := prog_14_method_12_code
def yX12_comesStretch : MethodName := ⟨RX12, "comesStretch", "(I)Z"⟩
abbrev cX12_comesRock : ByteArray := prog_14_method_13_code
def yX12_comesRock : MethodName := ⟨RX12, "comesRock", "(I)Z"⟩
abbrev cX12_comes : ByteArray := prog_14_method_14_code
def yX12_comes : MethodName := ⟨RX12, "comes", "(I)Z"⟩
abbrev cX12_coast : ByteArray := prog_14_method_15_code
def yX12_coast : MethodName := ⟨RX12, "coast", "()I"⟩
abbrev cX12_passes : ByteArray := prog_14_method_16_code
def yX12_passes : MethodName := ⟨RX12, "passes", "([I)V"⟩
abbrev cX12_passOne : ByteArray := prog_14_method_17_code
def yX12_passOne : MethodName := ⟨RX12, "passOne", "(I)I"⟩
abbrev cX12_passesAll : ByteArray := prog_14_method_18_code
def yX12_passesAll : MethodName := ⟨RX12, "passesAll", "(IZ)V"⟩
abbrev cX12_image : ByteArray := prog_14_method_19_code
def yX12_image : MethodName := ⟨RX12, "image", "()I"⟩
abbrev cX12_restore : ByteArray := prog_14_method_20_code
def yX12_restore : MethodName := ⟨RX12, "restore", "()I"⟩
abbrev cX12_isDry : ByteArray := prog_14_method_21_code
def yX12_isDry : MethodName := ⟨RX12, "isDry", "(I)Z"⟩
abbrev cX12_feeOf : ByteArray := prog_14_method_22_code
def yX12_feeOf : MethodName := ⟨RX12, "feeOf", "(I)I"⟩
abbrev cX12_isStretch : ByteArray := prog_14_method_23_code
def yX12_isStretch : MethodName := ⟨RX12, "isStretch", "(I)Z"⟩
abbrev cX12_isPlace : ByteArray := prog_14_method_24_code
def yX12_isPlace : MethodName := ⟨RX12, "isPlace", "(I)Z"⟩
abbrev cX12_stretch : ByteArray := prog_14_method_25_code
def yX12_stretch : MethodName := ⟨RX12, "stretch", "(II)I"⟩
abbrev cX12_point : ByteArray := prog_14_method_26_code
def yX12_point : MethodName := ⟨RX12, "point", "(II)I"⟩
abbrev cX12_tide : ByteArray := prog_14_method_27_code
def yX12_tide : MethodName := ⟨RX12, "tide", "(I)I"⟩
abbrev cX12_findShore : ByteArray := prog_14_method_28_code
def yX12_findShore : MethodName := ⟨RX12, "findShore", "(II)V"⟩
abbrev cX12_isFar : ByteArray := prog_14_method_29_code
def yX12_isFar : MethodName := ⟨RX12, "isFar", "(III)Z"⟩
abbrev cX12_walks : ByteArray := prog_14_method_30_code
def yX12_walks : MethodName := ⟨RX12, "walks", "(II)I"⟩
abbrev cX12_miles : ByteArray := prog_14_method_31_code
def yX12_miles : MethodName := ⟨RX12, "miles", "(II)I"⟩
abbrev cX12_pay : ByteArray := prog_14_method_32_code
def yX12_pay : MethodName := ⟨RX12, "pay", "(II)I"⟩
abbrev cX12_over : ByteArray := prog_14_method_33_code
def yX12_over : MethodName := ⟨RX12, "over", "()I"⟩
abbrev cX12_shore : ByteArray := prog_14_method_34_code
def yX12_shore : MethodName := ⟨RX12, "shore", "(I)I"⟩
abbrev cX12_notWalk : ByteArray := prog_14_method_35_code
def yX12_notWalk : MethodName := ⟨RX12, "notWalk", "(II)I"⟩
abbrev cX12_walk : ByteArray := prog_14_method_36_code
def yX12_walk : MethodName := ⟨RX12, "walk", "(III)I"⟩
abbrev cX12_place : ByteArray := prog_14_method_37_code
def yX12_place : MethodName := ⟨RX12, "place", "(III)I"⟩
abbrev cX12_best : ByteArray := prog_14_method_38_code
def yX12_best : MethodName := ⟨RX12, "best", "(II)I"⟩
abbrev cX12_span : ByteArray := prog_14_method_39_code
def yX12_span : MethodName := ⟨RX12, "span", "(I)I"⟩
abbrev cX12_finer : ByteArray := prog_14_method_40_code
def yX12_finer : MethodName := ⟨RX12, "finer", "(I)I"⟩
abbrev cX12_stepFrom : ByteArray := prog_14_method_41_code
def yX12_stepFrom : MethodName := ⟨RX12, "stepFrom", "(III)I"⟩
abbrev cX12_two : ByteArray := prog_14_method_42_code
def yX12_two : MethodName := ⟨RX12, "two", "(III)I"⟩
abbrev cX12_map : ByteArray := prog_14_method_43_code
def yX12_map : MethodName := ⟨RX12, "map", "(II)I"⟩
abbrev cX12_isIsland : ByteArray := prog_14_method_44_code
def yX12_isIsland : MethodName := ⟨RX12, "isIsland", "(II)Z"⟩
abbrev cX12_rock : ByteArray := prog_14_method_45_code
def yX12_rock : MethodName := ⟨RX12, "rock", "(II)I"⟩
abbrev cX12_islands : ByteArray := prog_14_method_46_code
def yX12_islands : MethodName := ⟨RX12, "islands", "()I"⟩
abbrev cX12_areSeen : ByteArray := prog_14_method_47_code
def yX12_areSeen : MethodName := ⟨RX12, "areSeen", "(I)Z"⟩
abbrev cX12_bits : ByteArray := prog_14_method_48_code
def yX12_bits : MethodName := ⟨RX12, "bits", "(I)I"⟩
abbrev cX12_hours : ByteArray := prog_14_method_49_code
def yX12_hours : MethodName := ⟨RX12, "hours", "(I)I"⟩
abbrev cX12_nextOrder : ByteArray := prog_14_method_50_code
def yX12_nextOrder : MethodName := ⟨RX12, "nextOrder", "()Z"⟩
abbrev cX12_changes : ByteArray := prog_14_method_51_code
def yX12_changes : MethodName := ⟨RX12, "changes", "(II)V"⟩
abbrev cX12_apart : ByteArray := prog_14_method_52_code
def yX12_apart : MethodName := ⟨RX12, "apart", "(II)I"⟩
abbrev cX12_wayRound : ByteArray := prog_14_method_53_code
def yX12_wayRound : MethodName := ⟨RX12, "wayRound", "()I"⟩
abbrev cX12_boat : ByteArray := prog_14_method_54_code
def yX12_boat : MethodName := ⟨RX12, "boat", "()I"⟩
abbrev cX12_milesWithout : ByteArray := prog_14_method_55_code
def yX12_milesWithout : MethodName := ⟨RX12, "milesWithout", "(II)I"⟩
abbrev cX12_cut : ByteArray := prog_14_method_56_code
def yX12_cut : MethodName := ⟨RX12, "cut", "(II)I"⟩
abbrev cX12_worstCut : ByteArray := prog_14_method_57_code
def yX12_worstCut : MethodName := ⟨RX12, "worstCut", "(I)I"⟩
abbrev cX12_copy : ByteArray := prog_14_method_58_code
def yX12_copy : MethodName := ⟨RX12, "copy", "(II)I"⟩
abbrev cX12_sure : ByteArray := prog_14_method_59_code
def yX12_sure : MethodName := ⟨RX12, "sure", "(I)I"⟩
abbrev cX12_row : ByteArray := prog_14_method_60_code
def yX12_row : MethodName := ⟨RX12, "row", "(I)I"⟩
abbrev cX12_judge : ByteArray := prog_14_method_61_code
def yX12_judge : MethodName := ⟨RX12, "judge", "(II)I"⟩
abbrev cX12_draw : ByteArray := prog_14_method_62_code
def yX12_draw : MethodName := ⟨RX12, "draw", "(I)I"⟩
abbrev cX12_seeds : ByteArray := prog_14_method_63_code
def yX12_seeds : MethodName := ⟨RX12, "seeds", "(II)I"⟩
abbrev cX12_fees : ByteArray := prog_14_method_64_code
def yX12_fees : MethodName := ⟨RX12, "fees", "()I"⟩
abbrev cX12_count : ByteArray := prog_14_method_65_code
def yX12_count : MethodName := ⟨RX12, "count", "(I)I"⟩
def RJ6 : String := "java/lang/Integer"
def TJ6 : u_T := fun k => match k with
  | _ => ("", "", "", false)
def tyJ6 : Nat → FieldType := fun k => match k with
  | _ => .int
abbrev wsJ60 : List Cond := u_ws RJ6 TJ6 0
theorem nmJ6 : ∀ a, a < 0 → ∀ b, b < 0 → a ≠ b → (TJ6 a).2.1 ≠ (TJ6 b).2.1 := by decide +kernel
theorem tyJ6_ok : ∀ k, k < 0 → parseFieldDescriptor (TJ6 k).2.2.1 = some (tyJ6 k) := by decide +kernel
abbrev cJ6_bitCount_0f7a4 : ByteArray := prog_15_method_49_code
def yJ6_bitCount_0f7a4 : MethodName := ⟨RJ6, "bitCount", "(I)I"⟩
def RJ13 : String := "java/lang/Long"
def TJ13 : u_T := fun k => match k with
  | _ => ("", "", "", false)
def tyJ13 : Nat → FieldType := fun k => match k with
  | _ => .int
abbrev wsJ130 : List Cond := u_ws RJ13 TJ13 0
theorem nmJ13 : ∀ a, a < 0 → ∀ b, b < 0 → a ≠ b → (TJ13 a).2.1 ≠ (TJ13 b).2.1 := by decide +kernel
theorem tyJ13_ok : ∀ k, k < 0 → parseFieldDescriptor (TJ13 k).2.2.1 = some (tyJ13 k) := by decide +kernel
abbrev cJ13_bitCount_95d88 : ByteArray := prog_16_method_50_code
def yJ13_bitCount_95d88 : MethodName := ⟨RJ13, "bitCount", "(J)I"⟩
def RJ9 : String := "java/lang/Math"
def TJ9 : u_T := fun k => match k with
  | _ => ("", "", "", false)
def tyJ9 : Nat → FieldType := fun k => match k with
  | _ => .int
abbrev wsJ90 : List Cond := u_ws RJ9 TJ9 0
theorem nmJ9 : ∀ a, a < 0 → ∀ b, b < 0 → a ≠ b → (TJ9 a).2.1 ≠ (TJ9 b).2.1 := by decide +kernel
theorem tyJ9_ok : ∀ k, k < 0 → parseFieldDescriptor (TJ9 k).2.2.1 = some (tyJ9 k) := by decide +kernel
abbrev cJ9_abs_0f7a4 : ByteArray := prog_17_method_59_code
def yJ9_abs_0f7a4 : MethodName := ⟨RJ9, "abs", "(I)I"⟩
abbrev cJ9_max_7cf53 : ByteArray := prog_17_method_65_code
def yJ9_max_7cf53 : MethodName := ⟨RJ9, "max", "(II)I"⟩
abbrev cJ9_min_7cf53 : ByteArray := prog_17_method_69_code
def yJ9_min_7cf53 : MethodName := ⟨RJ9, "min", "(II)I"⟩
def RL : String := "PaidByCoastLaw"
abbrev cL_law : ByteArray := code
def yL_law : MethodName := ⟨RL, "law", "([I)Z"⟩
abbrev vwCl : List vw_C := [(RX0, TX0, 1), (RX1, TX1, 3), (RX2, TX2, 7), (RX3, TX3, 2), (RX4, TX4, 3), (RX5, TX5, 3), (RX6, TX6, 4), (RX7, TX7, 2), (RX8, TX8, 3), (RX9, TX9, 3), (RX10, TX10, 3), (RX11, TX11, 9), (RX12, TX12, 37)]
end
section
theorem dX0_init_0 : decode cX0_init 0 = .ok (.aload_n 0, 1) := by decide +kernel
theorem dX0_init_1 : decode cX0_init 1 = .ok (.invokespecial 3, 3) := by decide +kernel
theorem dX0_init_4 : decode cX0_init 4 = .ok (.aload_n 0, 1) := by decide +kernel
theorem dX0_init_5 : decode cX0_init 5 = .ok (.sipush 384, 3) := by decide +kernel
theorem dX0_init_8 : decode cX0_init 8 = .ok (.newarray .int, 2) := by decide +kernel
theorem dX0_init_10 : decode cX0_init 10 = .ok (.putfield 9, 3) := by decide +kernel
theorem dX0_init_13 : decode cX0_init 13 = .ok (.return_, 1) := by decide +kernel
theorem dX0_roundTrip_0 : decode cX0_roundTrip 0 = .ok (.iload_n 2, 1) := by decide +kernel
theorem dX0_roundTrip_1 : decode cX0_roundTrip 1 = .ok (.ifCond .ne 5, 3) := by decide +kernel
theorem dX0_roundTrip_4 : decode cX0_roundTrip 4 = .ok (.iconst 0, 1) := by decide +kernel
theorem dX0_roundTrip_5 : decode cX0_roundTrip 5 = .ok (.ireturn, 1) := by decide +kernel
theorem dX0_roundTrip_6 : decode cX0_roundTrip 6 = .ok (.iconst 1, 1) := by decide +kernel
theorem dX0_roundTrip_7 : decode cX0_roundTrip 7 = .ok (.istore_n 3, 1) := by decide +kernel
theorem dX0_roundTrip_8 : decode cX0_roundTrip 8 = .ok (.iload_n 3, 1) := by decide +kernel
theorem dX0_roundTrip_9 : decode cX0_roundTrip 9 = .ok (.bipush 64, 2) := by decide +kernel
theorem dX0_roundTrip_11 : decode cX0_roundTrip 11 = .ok (.if_icmp .ge 23, 3) := by decide +kernel
theorem dX0_roundTrip_14 : decode cX0_roundTrip 14 = .ok (.iload_n 3, 1) := by decide +kernel
theorem dX0_roundTrip_15 : decode cX0_roundTrip 15 = .ok (.iload_n 2, 1) := by decide +kernel
theorem dX0_roundTrip_16 : decode cX0_roundTrip 16 = .ok (.iconst (-1), 1) := by decide +kernel
theorem dX0_roundTrip_17 : decode cX0_roundTrip 17 = .ok (.ixor, 1) := by decide +kernel
theorem dX0_roundTrip_18 : decode cX0_roundTrip 18 = .ok (.iand, 1) := by decide +kernel
theorem dX0_roundTrip_19 : decode cX0_roundTrip 19 = .ok (.ifCond .ne 9, 3) := by decide +kernel
theorem dX0_roundTrip_22 : decode cX0_roundTrip 22 = .ok (.aload_n 0, 1) := by decide +kernel
theorem dX0_roundTrip_23 : decode cX0_roundTrip 23 = .ok (.aload_n 1, 1) := by decide +kernel
theorem dX0_roundTrip_24 : decode cX0_roundTrip 24 = .ok (.iload_n 3, 1) := by decide +kernel
theorem dX0_roundTrip_25 : decode cX0_roundTrip 25 = .ok (.invokevirtual 15, 3) := by decide +kernel
theorem dX0_roundTrip_28 : decode cX0_roundTrip 28 = .ok (.iinc 3 1, 3) := by decide +kernel
theorem dX0_roundTrip_31 : decode cX0_roundTrip 31 = .ok (.goto (-23), 3) := by decide +kernel
theorem dX0_roundTrip_34 : decode cX0_roundTrip 34 = .ok (.ldc 19, 2) := by decide +kernel
theorem dX0_roundTrip_36 : decode cX0_roundTrip 36 = .ok (.istore_n 3, 1) := by decide +kernel
theorem dX0_roundTrip_37 : decode cX0_roundTrip 37 = .ok (.iconst 0, 1) := by decide +kernel
theorem dX0_roundTrip_38 : decode cX0_roundTrip 38 = .ok (.istore 4, 2) := by decide +kernel
theorem dX0_roundTrip_40 : decode cX0_roundTrip 40 = .ok (.iload 4, 2) := by decide +kernel
theorem dX0_roundTrip_42 : decode cX0_roundTrip 42 = .ok (.bipush 6, 2) := by decide +kernel
theorem dX0_roundTrip_44 : decode cX0_roundTrip 44 = .ok (.if_icmp .ge 28, 3) := by decide +kernel
theorem dX0_roundTrip_47 : decode cX0_roundTrip 47 = .ok (.iload_n 3, 1) := by decide +kernel
theorem dX0_roundTrip_48 : decode cX0_roundTrip 48 = .ok (.aload_n 0, 1) := by decide +kernel
theorem dX0_roundTrip_49 : decode cX0_roundTrip 49 = .ok (.iload_n 2, 1) := by decide +kernel
theorem dX0_roundTrip_50 : decode cX0_roundTrip 50 = .ok (.iload 4, 2) := by decide +kernel
theorem dX0_roundTrip_52 : decode cX0_roundTrip 52 = .ok (.invokevirtual 20, 3) := by decide +kernel
theorem dX0_roundTrip_55 : decode cX0_roundTrip 55 = .ok (.aload_n 1, 1) := by decide +kernel
theorem dX0_roundTrip_56 : decode cX0_roundTrip 56 = .ok (.iload 4, 2) := by decide +kernel
theorem dX0_roundTrip_58 : decode cX0_roundTrip 58 = .ok (.invokevirtual 24, 3) := by decide +kernel
theorem dX0_roundTrip_61 : decode cX0_roundTrip 61 = .ok (.iadd, 1) := by decide +kernel
theorem dX0_roundTrip_62 : decode cX0_roundTrip 62 = .ok (.invokestatic 30, 3) := by decide +kernel
theorem dX0_roundTrip_65 : decode cX0_roundTrip 65 = .ok (.istore_n 3, 1) := by decide +kernel
theorem dX0_roundTrip_66 : decode cX0_roundTrip 66 = .ok (.iinc 4 1, 3) := by decide +kernel
theorem dX0_roundTrip_69 : decode cX0_roundTrip 69 = .ok (.goto (-29), 3) := by decide +kernel
theorem dX0_roundTrip_72 : decode cX0_roundTrip 72 = .ok (.iload_n 3, 1) := by decide +kernel
theorem dX0_roundTrip_73 : decode cX0_roundTrip 73 = .ok (.ireturn, 1) := by decide +kernel
theorem dX0_putWays_0 : decode cX0_putWays 0 = .ok (.iconst 0, 1) := by decide +kernel
theorem dX0_putWays_1 : decode cX0_putWays 1 = .ok (.istore_n 3, 1) := by decide +kernel
theorem dX0_putWays_2 : decode cX0_putWays 2 = .ok (.iload_n 3, 1) := by decide +kernel
theorem dX0_putWays_3 : decode cX0_putWays 3 = .ok (.bipush 6, 2) := by decide +kernel
theorem dX0_putWays_5 : decode cX0_putWays 5 = .ok (.if_icmp .ge 46, 3) := by decide +kernel
theorem dX0_putWays_8 : decode cX0_putWays 8 = .ok (.iload_n 2, 1) := by decide +kernel
theorem dX0_putWays_9 : decode cX0_putWays 9 = .ok (.bipush 6, 2) := by decide +kernel
theorem dX0_putWays_11 : decode cX0_putWays 11 = .ok (.imul, 1) := by decide +kernel
theorem dX0_putWays_12 : decode cX0_putWays 12 = .ok (.iload_n 3, 1) := by decide +kernel
theorem dX0_putWays_13 : decode cX0_putWays 13 = .ok (.iadd, 1) := by decide +kernel
theorem dX0_putWays_14 : decode cX0_putWays 14 = .ok (.istore 4, 2) := by decide +kernel
theorem dX0_putWays_16 : decode cX0_putWays 16 = .ok (.iload 4, 2) := by decide +kernel
theorem dX0_putWays_18 : decode cX0_putWays 18 = .ok (.ifCond .lt 27, 3) := by decide +kernel
theorem dX0_putWays_21 : decode cX0_putWays 21 = .ok (.iload 4, 2) := by decide +kernel
theorem dX0_putWays_23 : decode cX0_putWays 23 = .ok (.aload_n 0, 1) := by decide +kernel
theorem dX0_putWays_24 : decode cX0_putWays 24 = .ok (.getfield 9, 3) := by decide +kernel
theorem dX0_putWays_27 : decode cX0_putWays 27 = .ok (.arraylength, 1) := by decide +kernel
theorem dX0_putWays_28 : decode cX0_putWays 28 = .ok (.if_icmp .ge 17, 3) := by decide +kernel
theorem dX0_putWays_31 : decode cX0_putWays 31 = .ok (.aload_n 0, 1) := by decide +kernel
theorem dX0_putWays_32 : decode cX0_putWays 32 = .ok (.getfield 9, 3) := by decide +kernel
theorem dX0_putWays_35 : decode cX0_putWays 35 = .ok (.iload 4, 2) := by decide +kernel
theorem dX0_putWays_37 : decode cX0_putWays 37 = .ok (.aload_n 0, 1) := by decide +kernel
theorem dX0_putWays_38 : decode cX0_putWays 38 = .ok (.aload_n 1, 1) := by decide +kernel
theorem dX0_putWays_39 : decode cX0_putWays 39 = .ok (.iload_n 2, 1) := by decide +kernel
theorem dX0_putWays_40 : decode cX0_putWays 40 = .ok (.iload_n 3, 1) := by decide +kernel
theorem dX0_putWays_41 : decode cX0_putWays 41 = .ok (.invokevirtual 35, 3) := by decide +kernel
theorem dX0_putWays_44 : decode cX0_putWays 44 = .ok (.iastore, 1) := by decide +kernel
theorem dX0_putWays_45 : decode cX0_putWays 45 = .ok (.iinc 3 1, 3) := by decide +kernel
theorem dX0_putWays_48 : decode cX0_putWays 48 = .ok (.goto (-46), 3) := by decide +kernel
theorem dX0_putWays_51 : decode cX0_putWays 51 = .ok (.return_, 1) := by decide +kernel
theorem dX0_leastWay_0 : decode cX0_leastWay 0 = .ok (.iload_n 2, 1) := by decide +kernel
theorem dX0_leastWay_1 : decode cX0_leastWay 1 = .ok (.iload_n 3, 1) := by decide +kernel
theorem dX0_leastWay_2 : decode cX0_leastWay 2 = .ok (.ishr, 1) := by decide +kernel
theorem dX0_leastWay_3 : decode cX0_leastWay 3 = .ok (.iconst 1, 1) := by decide +kernel
theorem dX0_leastWay_4 : decode cX0_leastWay 4 = .ok (.iand, 1) := by decide +kernel
theorem dX0_leastWay_5 : decode cX0_leastWay 5 = .ok (.ifCond .ne 6, 3) := by decide +kernel
theorem dX0_leastWay_8 : decode cX0_leastWay 8 = .ok (.ldc 19, 2) := by decide +kernel
theorem dX0_leastWay_10 : decode cX0_leastWay 10 = .ok (.ireturn, 1) := by decide +kernel
theorem dX0_leastWay_11 : decode cX0_leastWay 11 = .ok (.iload_n 2, 1) := by decide +kernel
theorem dX0_leastWay_12 : decode cX0_leastWay 12 = .ok (.iconst 1, 1) := by decide +kernel
theorem dX0_leastWay_13 : decode cX0_leastWay 13 = .ok (.iload_n 3, 1) := by decide +kernel
theorem dX0_leastWay_14 : decode cX0_leastWay 14 = .ok (.ishl, 1) := by decide +kernel
theorem dX0_leastWay_15 : decode cX0_leastWay 15 = .ok (.iconst (-1), 1) := by decide +kernel
theorem dX0_leastWay_16 : decode cX0_leastWay 16 = .ok (.ixor, 1) := by decide +kernel
theorem dX0_leastWay_17 : decode cX0_leastWay 17 = .ok (.iand, 1) := by decide +kernel
theorem dX0_leastWay_18 : decode cX0_leastWay 18 = .ok (.istore 4, 2) := by decide +kernel
theorem dX0_leastWay_20 : decode cX0_leastWay 20 = .ok (.iload 4, 2) := by decide +kernel
theorem dX0_leastWay_22 : decode cX0_leastWay 22 = .ok (.ifCond .ne 9, 3) := by decide +kernel
theorem dX0_leastWay_25 : decode cX0_leastWay 25 = .ok (.aload_n 1, 1) := by decide +kernel
theorem dX0_leastWay_26 : decode cX0_leastWay 26 = .ok (.iload_n 3, 1) := by decide +kernel
theorem dX0_leastWay_27 : decode cX0_leastWay 27 = .ok (.invokevirtual 24, 3) := by decide +kernel
theorem dX0_leastWay_30 : decode cX0_leastWay 30 = .ok (.ireturn, 1) := by decide +kernel
theorem dX0_leastWay_31 : decode cX0_leastWay 31 = .ok (.ldc 19, 2) := by decide +kernel
theorem dX0_leastWay_33 : decode cX0_leastWay 33 = .ok (.istore 5, 2) := by decide +kernel
theorem dX0_leastWay_35 : decode cX0_leastWay 35 = .ok (.iconst 0, 1) := by decide +kernel
theorem dX0_leastWay_36 : decode cX0_leastWay 36 = .ok (.istore 6, 2) := by decide +kernel
theorem dX0_leastWay_38 : decode cX0_leastWay 38 = .ok (.iload 6, 2) := by decide +kernel
theorem dX0_leastWay_40 : decode cX0_leastWay 40 = .ok (.bipush 6, 2) := by decide +kernel
theorem dX0_leastWay_42 : decode cX0_leastWay 42 = .ok (.if_icmp .ge 32, 3) := by decide +kernel
theorem dX0_leastWay_45 : decode cX0_leastWay 45 = .ok (.iload 5, 2) := by decide +kernel
theorem dX0_leastWay_47 : decode cX0_leastWay 47 = .ok (.aload_n 0, 1) := by decide +kernel
theorem dX0_leastWay_48 : decode cX0_leastWay 48 = .ok (.iload 4, 2) := by decide +kernel
theorem dX0_leastWay_50 : decode cX0_leastWay 50 = .ok (.iload 6, 2) := by decide +kernel
theorem dX0_leastWay_52 : decode cX0_leastWay 52 = .ok (.invokevirtual 20, 3) := by decide +kernel
theorem dX0_leastWay_55 : decode cX0_leastWay 55 = .ok (.aload_n 1, 1) := by decide +kernel
theorem dX0_leastWay_56 : decode cX0_leastWay 56 = .ok (.iload 6, 2) := by decide +kernel
theorem dX0_leastWay_58 : decode cX0_leastWay 58 = .ok (.iload_n 3, 1) := by decide +kernel
theorem dX0_leastWay_59 : decode cX0_leastWay 59 = .ok (.invokevirtual 39, 3) := by decide +kernel
theorem dX0_leastWay_62 : decode cX0_leastWay 62 = .ok (.iadd, 1) := by decide +kernel
theorem dX0_leastWay_63 : decode cX0_leastWay 63 = .ok (.invokestatic 30, 3) := by decide +kernel
theorem dX0_leastWay_66 : decode cX0_leastWay 66 = .ok (.istore 5, 2) := by decide +kernel
theorem dX0_leastWay_68 : decode cX0_leastWay 68 = .ok (.iinc 6 1, 3) := by decide +kernel
theorem dX0_leastWay_71 : decode cX0_leastWay 71 = .ok (.goto (-33), 3) := by decide +kernel
theorem dX0_leastWay_74 : decode cX0_leastWay 74 = .ok (.iload 5, 2) := by decide +kernel
theorem dX0_leastWay_76 : decode cX0_leastWay 76 = .ok (.ireturn, 1) := by decide +kernel
theorem dX0_wayBy_0 : decode cX0_wayBy 0 = .ok (.iload_n 1, 1) := by decide +kernel
theorem dX0_wayBy_1 : decode cX0_wayBy 1 = .ok (.bipush 6, 2) := by decide +kernel
theorem dX0_wayBy_3 : decode cX0_wayBy 3 = .ok (.imul, 1) := by decide +kernel
theorem dX0_wayBy_4 : decode cX0_wayBy 4 = .ok (.iload_n 2, 1) := by decide +kernel
theorem dX0_wayBy_5 : decode cX0_wayBy 5 = .ok (.iadd, 1) := by decide +kernel
theorem dX0_wayBy_6 : decode cX0_wayBy 6 = .ok (.istore_n 3, 1) := by decide +kernel
theorem dX0_wayBy_7 : decode cX0_wayBy 7 = .ok (.iload_n 3, 1) := by decide +kernel
theorem dX0_wayBy_8 : decode cX0_wayBy 8 = .ok (.ifCond .lt 12, 3) := by decide +kernel
theorem dX0_wayBy_11 : decode cX0_wayBy 11 = .ok (.iload_n 3, 1) := by decide +kernel
theorem dX0_wayBy_12 : decode cX0_wayBy 12 = .ok (.aload_n 0, 1) := by decide +kernel
theorem dX0_wayBy_13 : decode cX0_wayBy 13 = .ok (.getfield 9, 3) := by decide +kernel
theorem dX0_wayBy_16 : decode cX0_wayBy 16 = .ok (.arraylength, 1) := by decide +kernel
theorem dX0_wayBy_17 : decode cX0_wayBy 17 = .ok (.if_icmp .lt 8, 3) := by decide +kernel
theorem dX0_wayBy_20 : decode cX0_wayBy 20 = .ok (.ldc 19, 2) := by decide +kernel
theorem dX0_wayBy_22 : decode cX0_wayBy 22 = .ok (.goto 9, 3) := by decide +kernel
theorem dX0_wayBy_25 : decode cX0_wayBy 25 = .ok (.aload_n 0, 1) := by decide +kernel
theorem dX0_wayBy_26 : decode cX0_wayBy 26 = .ok (.getfield 9, 3) := by decide +kernel
theorem dX0_wayBy_29 : decode cX0_wayBy 29 = .ok (.iload_n 3, 1) := by decide +kernel
theorem dX0_wayBy_30 : decode cX0_wayBy 30 = .ok (.iaload, 1) := by decide +kernel
theorem dX0_wayBy_31 : decode cX0_wayBy 31 = .ok (.ireturn, 1) := by decide +kernel
theorem dX1_init_0 : decode cX1_init 0 = .ok (.aload_n 0, 1) := by decide +kernel
theorem dX1_init_1 : decode cX1_init 1 = .ok (.iload_n 1, 1) := by decide +kernel
theorem dX1_init_2 : decode cX1_init 2 = .ok (.iload_n 2, 1) := by decide +kernel
theorem dX1_init_3 : decode cX1_init 3 = .ok (.iload_n 3, 1) := by decide +kernel
theorem dX1_init_4 : decode cX1_init 4 = .ok (.invokespecial 1, 3) := by decide +kernel
theorem dX1_init_7 : decode cX1_init 7 = .ok (.return_, 1) := by decide +kernel
theorem dX1_kind_0 : decode cX1_kind 0 = .ok (.iconst 3, 1) := by decide +kernel
theorem dX1_kind_1 : decode cX1_kind 1 = .ok (.ireturn, 1) := by decide +kernel
theorem dX1_fee_0 : decode cX1_fee 0 = .ok (.aload_n 0, 1) := by decide +kernel
theorem dX1_fee_1 : decode cX1_fee 1 = .ok (.invokespecial 7, 3) := by decide +kernel
theorem dX1_fee_4 : decode cX1_fee 4 = .ok (.aload_n 0, 1) := by decide +kernel
theorem dX1_fee_5 : decode cX1_fee 5 = .ok (.getfield 11, 3) := by decide +kernel
theorem dX1_fee_8 : decode cX1_fee 8 = .ok (.iadd, 1) := by decide +kernel
theorem dX1_fee_9 : decode cX1_fee 9 = .ok (.ireturn, 1) := by decide +kernel
theorem dX2_init_0 : decode cX2_init 0 = .ok (.aload_n 0, 1) := by decide +kernel
theorem dX2_init_1 : decode cX2_init 1 = .ok (.invokespecial 3, 3) := by decide +kernel
theorem dX2_init_4 : decode cX2_init 4 = .ok (.aload_n 0, 1) := by decide +kernel
theorem dX2_init_5 : decode cX2_init 5 = .ok (.bipush 8, 2) := by decide +kernel
theorem dX2_init_7 : decode cX2_init 7 = .ok (.anewarray 9, 3) := by decide +kernel
theorem dX2_init_10 : decode cX2_init 10 = .ok (.putfield 11, 3) := by decide +kernel
theorem dX2_init_13 : decode cX2_init 13 = .ok (.aload_n 0, 1) := by decide +kernel
theorem dX2_init_14 : decode cX2_init 14 = .ok (.bipush 49, 2) := by decide +kernel
theorem dX2_init_16 : decode cX2_init 16 = .ok (.newarray .int, 2) := by decide +kernel
theorem dX2_init_18 : decode cX2_init 18 = .ok (.putfield 17, 3) := by decide +kernel
theorem dX2_init_21 : decode cX2_init 21 = .ok (.aload_n 0, 1) := by decide +kernel
theorem dX2_init_22 : decode cX2_init 22 = .ok (.bipush 49, 2) := by decide +kernel
theorem dX2_init_24 : decode cX2_init 24 = .ok (.newarray .int, 2) := by decide +kernel
theorem dX2_init_26 : decode cX2_init 26 = .ok (.putfield 21, 3) := by decide +kernel
theorem dX2_init_29 : decode cX2_init 29 = .ok (.aload_n 0, 1) := by decide +kernel
theorem dX2_init_30 : decode cX2_init 30 = .ok (.new 24, 3) := by decide +kernel
theorem dX2_init_33 : decode cX2_init 33 = .ok (.dup, 1) := by decide +kernel
theorem dX2_init_34 : decode cX2_init 34 = .ok (.invokespecial 26, 3) := by decide +kernel
theorem dX2_init_37 : decode cX2_init 37 = .ok (.putfield 27, 3) := by decide +kernel
theorem dX2_init_40 : decode cX2_init 40 = .ok (.return_, 1) := by decide +kernel
theorem dX2_become_0 : decode cX2_become 0 = .ok (.aload_n 0, 1) := by decide +kernel
theorem dX2_become_1 : decode cX2_become 1 = .ok (.aload_n 1, 1) := by decide +kernel
theorem dX2_become_2 : decode cX2_become 2 = .ok (.getfield 31, 3) := by decide +kernel
theorem dX2_become_5 : decode cX2_become 5 = .ok (.putfield 31, 3) := by decide +kernel
theorem dX2_become_8 : decode cX2_become 8 = .ok (.iconst 0, 1) := by decide +kernel
theorem dX2_become_9 : decode cX2_become 9 = .ok (.istore_n 2, 1) := by decide +kernel
theorem dX2_become_10 : decode cX2_become 10 = .ok (.iload_n 2, 1) := by decide +kernel
theorem dX2_become_11 : decode cX2_become 11 = .ok (.aload_n 0, 1) := by decide +kernel
theorem dX2_become_12 : decode cX2_become 12 = .ok (.getfield 11, 3) := by decide +kernel
theorem dX2_become_15 : decode cX2_become 15 = .ok (.arraylength, 1) := by decide +kernel
theorem dX2_become_16 : decode cX2_become 16 = .ok (.if_icmp .ge 20, 3) := by decide +kernel
theorem dX2_become_19 : decode cX2_become 19 = .ok (.aload_n 0, 1) := by decide +kernel
theorem dX2_become_20 : decode cX2_become 20 = .ok (.getfield 11, 3) := by decide +kernel
theorem dX2_become_23 : decode cX2_become 23 = .ok (.iload_n 2, 1) := by decide +kernel
theorem dX2_become_24 : decode cX2_become 24 = .ok (.aload_n 1, 1) := by decide +kernel
theorem dX2_become_25 : decode cX2_become 25 = .ok (.iload_n 2, 1) := by decide +kernel
theorem dX2_become_26 : decode cX2_become 26 = .ok (.invokevirtual 35, 3) := by decide +kernel
theorem dX2_become_29 : decode cX2_become 29 = .ok (.aastore, 1) := by decide +kernel
theorem dX2_become_30 : decode cX2_become 30 = .ok (.iinc 2 1, 3) := by decide +kernel
theorem dX2_become_33 : decode cX2_become 33 = .ok (.goto (-23), 3) := by decide +kernel
theorem dX2_become_36 : decode cX2_become 36 = .ok (.aload_n 0, 1) := by decide +kernel
theorem dX2_become_37 : decode cX2_become 37 = .ok (.aload_n 1, 1) := by decide +kernel
theorem dX2_become_38 : decode cX2_become 38 = .ok (.getfield 39, 3) := by decide +kernel
theorem dX2_become_41 : decode cX2_become 41 = .ok (.putfield 39, 3) := by decide +kernel
theorem dX2_become_44 : decode cX2_become 44 = .ok (.iconst 0, 1) := by decide +kernel
theorem dX2_become_45 : decode cX2_become 45 = .ok (.istore_n 2, 1) := by decide +kernel
theorem dX2_become_46 : decode cX2_become 46 = .ok (.iload_n 2, 1) := by decide +kernel
theorem dX2_become_47 : decode cX2_become 47 = .ok (.aload_n 0, 1) := by decide +kernel
theorem dX2_become_48 : decode cX2_become 48 = .ok (.getfield 17, 3) := by decide +kernel
theorem dX2_become_51 : decode cX2_become 51 = .ok (.arraylength, 1) := by decide +kernel
theorem dX2_become_52 : decode cX2_become 52 = .ok (.if_icmp .ge 40, 3) := by decide +kernel
theorem dX2_become_55 : decode cX2_become 55 = .ok (.iload_n 2, 1) := by decide +kernel
theorem dX2_become_56 : decode cX2_become 56 = .ok (.aload_n 0, 1) := by decide +kernel
theorem dX2_become_57 : decode cX2_become 57 = .ok (.getfield 21, 3) := by decide +kernel
theorem dX2_become_60 : decode cX2_become 60 = .ok (.arraylength, 1) := by decide +kernel
theorem dX2_become_61 : decode cX2_become 61 = .ok (.if_icmp .ge 31, 3) := by decide +kernel
theorem dX2_become_64 : decode cX2_become 64 = .ok (.aload_n 0, 1) := by decide +kernel
theorem dX2_become_65 : decode cX2_become 65 = .ok (.getfield 17, 3) := by decide +kernel
theorem dX2_become_68 : decode cX2_become 68 = .ok (.iload_n 2, 1) := by decide +kernel
theorem dX2_become_69 : decode cX2_become 69 = .ok (.aload_n 1, 1) := by decide +kernel
theorem dX2_become_70 : decode cX2_become 70 = .ok (.iload_n 2, 1) := by decide +kernel
theorem dX2_become_71 : decode cX2_become 71 = .ok (.invokevirtual 42, 3) := by decide +kernel
theorem dX2_become_74 : decode cX2_become 74 = .ok (.iastore, 1) := by decide +kernel
theorem dX2_become_75 : decode cX2_become 75 = .ok (.aload_n 0, 1) := by decide +kernel
theorem dX2_become_76 : decode cX2_become 76 = .ok (.getfield 21, 3) := by decide +kernel
theorem dX2_become_79 : decode cX2_become 79 = .ok (.iload_n 2, 1) := by decide +kernel
theorem dX2_become_80 : decode cX2_become 80 = .ok (.aload_n 1, 1) := by decide +kernel
theorem dX2_become_81 : decode cX2_become 81 = .ok (.iload_n 2, 1) := by decide +kernel
theorem dX2_become_82 : decode cX2_become 82 = .ok (.invokevirtual 46, 3) := by decide +kernel
theorem dX2_become_85 : decode cX2_become 85 = .ok (.iastore, 1) := by decide +kernel
theorem dX2_become_86 : decode cX2_become 86 = .ok (.iinc 2 1, 3) := by decide +kernel
theorem dX2_become_89 : decode cX2_become 89 = .ok (.goto (-43), 3) := by decide +kernel
theorem dX2_become_92 : decode cX2_become 92 = .ok (.aload_n 0, 1) := by decide +kernel
theorem dX2_become_93 : decode cX2_become 93 = .ok (.getfield 27, 3) := by decide +kernel
theorem dX2_become_96 : decode cX2_become 96 = .ok (.aload_n 1, 1) := by decide +kernel
theorem dX2_become_97 : decode cX2_become 97 = .ok (.getfield 27, 3) := by decide +kernel
theorem dX2_become_100 : decode cX2_become 100 = .ok (.invokevirtual 49, 3) := by decide +kernel
theorem dX2_become_103 : decode cX2_become 103 = .ok (.aload_n 0, 1) := by decide +kernel
theorem dX2_become_104 : decode cX2_become 104 = .ok (.aload_n 1, 1) := by decide +kernel
theorem dX2_become_105 : decode cX2_become 105 = .ok (.getfield 53, 3) := by decide +kernel
theorem dX2_become_108 : decode cX2_become 108 = .ok (.putfield 53, 3) := by decide +kernel
theorem dX2_become_111 : decode cX2_become 111 = .ok (.return_, 1) := by decide +kernel
theorem dX2_stretchAt_0 : decode cX2_stretchAt 0 = .ok (.iload_n 1, 1) := by decide +kernel
theorem dX2_stretchAt_1 : decode cX2_stretchAt 1 = .ok (.ifCond .lt 20, 3) := by decide +kernel
theorem dX2_stretchAt_4 : decode cX2_stretchAt 4 = .ok (.iload_n 1, 1) := by decide +kernel
theorem dX2_stretchAt_5 : decode cX2_stretchAt 5 = .ok (.aload_n 0, 1) := by decide +kernel
theorem dX2_stretchAt_6 : decode cX2_stretchAt 6 = .ok (.getfield 31, 3) := by decide +kernel
theorem dX2_stretchAt_9 : decode cX2_stretchAt 9 = .ok (.if_icmp .ge 12, 3) := by decide +kernel
theorem dX2_stretchAt_12 : decode cX2_stretchAt 12 = .ok (.iload_n 1, 1) := by decide +kernel
theorem dX2_stretchAt_13 : decode cX2_stretchAt 13 = .ok (.aload_n 0, 1) := by decide +kernel
theorem dX2_stretchAt_14 : decode cX2_stretchAt 14 = .ok (.getfield 11, 3) := by decide +kernel
theorem dX2_stretchAt_17 : decode cX2_stretchAt 17 = .ok (.arraylength, 1) := by decide +kernel
theorem dX2_stretchAt_18 : decode cX2_stretchAt 18 = .ok (.if_icmp .lt 7, 3) := by decide +kernel
theorem dX2_stretchAt_21 : decode cX2_stretchAt 21 = .ok (.aconst_null, 1) := by decide +kernel
theorem dX2_stretchAt_22 : decode cX2_stretchAt 22 = .ok (.goto 9, 3) := by decide +kernel
theorem dX2_stretchAt_25 : decode cX2_stretchAt 25 = .ok (.aload_n 0, 1) := by decide +kernel
theorem dX2_stretchAt_26 : decode cX2_stretchAt 26 = .ok (.getfield 11, 3) := by decide +kernel
theorem dX2_stretchAt_29 : decode cX2_stretchAt 29 = .ok (.iload_n 1, 1) := by decide +kernel
theorem dX2_stretchAt_30 : decode cX2_stretchAt 30 = .ok (.aaload, 1) := by decide +kernel
theorem dX2_stretchAt_31 : decode cX2_stretchAt 31 = .ok (.areturn, 1) := by decide +kernel
theorem dX2_appendStretch_0 : decode cX2_appendStretch 0 = .ok (.aload_n 0, 1) := by decide +kernel
theorem dX2_appendStretch_1 : decode cX2_appendStretch 1 = .ok (.getfield 31, 3) := by decide +kernel
theorem dX2_appendStretch_4 : decode cX2_appendStretch 4 = .ok (.ifCond .lt 26, 3) := by decide +kernel
theorem dX2_appendStretch_7 : decode cX2_appendStretch 7 = .ok (.aload_n 0, 1) := by decide +kernel
theorem dX2_appendStretch_8 : decode cX2_appendStretch 8 = .ok (.getfield 31, 3) := by decide +kernel
theorem dX2_appendStretch_11 : decode cX2_appendStretch 11 = .ok (.aload_n 0, 1) := by decide +kernel
theorem dX2_appendStretch_12 : decode cX2_appendStretch 12 = .ok (.getfield 11, 3) := by decide +kernel
theorem dX2_appendStretch_15 : decode cX2_appendStretch 15 = .ok (.arraylength, 1) := by decide +kernel
theorem dX2_appendStretch_16 : decode cX2_appendStretch 16 = .ok (.if_icmp .ge 14, 3) := by decide +kernel
theorem dX2_appendStretch_19 : decode cX2_appendStretch 19 = .ok (.aload_n 0, 1) := by decide +kernel
theorem dX2_appendStretch_20 : decode cX2_appendStretch 20 = .ok (.getfield 39, 3) := by decide +kernel
theorem dX2_appendStretch_23 : decode cX2_appendStretch 23 = .ok (.iload_n 3, 1) := by decide +kernel
theorem dX2_appendStretch_24 : decode cX2_appendStretch 24 = .ok (.iadd, 1) := by decide +kernel
theorem dX2_appendStretch_25 : decode cX2_appendStretch 25 = .ok (.bipush 48, 2) := by decide +kernel
theorem dX2_appendStretch_27 : decode cX2_appendStretch 27 = .ok (.if_icmp .le 5, 3) := by decide +kernel
theorem dX2_appendStretch_30 : decode cX2_appendStretch 30 = .ok (.iconst 0, 1) := by decide +kernel
theorem dX2_appendStretch_31 : decode cX2_appendStretch 31 = .ok (.ireturn, 1) := by decide +kernel
theorem dX2_appendStretch_32 : decode cX2_appendStretch 32 = .ok (.aload_n 0, 1) := by decide +kernel
theorem dX2_appendStretch_33 : decode cX2_appendStretch 33 = .ok (.getfield 39, 3) := by decide +kernel
theorem dX2_appendStretch_36 : decode cX2_appendStretch 36 = .ok (.iconst 1, 1) := by decide +kernel
theorem dX2_appendStretch_37 : decode cX2_appendStretch 37 = .ok (.iadd, 1) := by decide +kernel
theorem dX2_appendStretch_38 : decode cX2_appendStretch 38 = .ok (.istore 5, 2) := by decide +kernel
theorem dX2_appendStretch_40 : decode cX2_appendStretch 40 = .ok (.iload_n 1, 1) := by decide +kernel
theorem dX2_appendStretch_41 : decode cX2_appendStretch 41 = .ok (.tableswitch 135 0 5 #[39, 55, 71, 87, 103, 119], 39) := by decide +kernel
theorem dX2_appendStretch_80 : decode cX2_appendStretch 80 = .ok (.new 9, 3) := by decide +kernel
theorem dX2_appendStretch_83 : decode cX2_appendStretch 83 = .ok (.dup, 1) := by decide +kernel
theorem dX2_appendStretch_84 : decode cX2_appendStretch 84 = .ok (.iload_n 2, 1) := by decide +kernel
theorem dX2_appendStretch_85 : decode cX2_appendStretch 85 = .ok (.iload 5, 2) := by decide +kernel
theorem dX2_appendStretch_87 : decode cX2_appendStretch 87 = .ok (.iload_n 3, 1) := by decide +kernel
theorem dX2_appendStretch_88 : decode cX2_appendStretch 88 = .ok (.invokespecial 56, 3) := by decide +kernel
theorem dX2_appendStretch_91 : decode cX2_appendStretch 91 = .ok (.astore 4, 2) := by decide +kernel
theorem dX2_appendStretch_93 : decode cX2_appendStretch 93 = .ok (.goto 85, 3) := by decide +kernel
theorem dX2_appendStretch_96 : decode cX2_appendStretch 96 = .ok (.new 59, 3) := by decide +kernel
theorem dX2_appendStretch_99 : decode cX2_appendStretch 99 = .ok (.dup, 1) := by decide +kernel
theorem dX2_appendStretch_100 : decode cX2_appendStretch 100 = .ok (.iload_n 2, 1) := by decide +kernel
theorem dX2_appendStretch_101 : decode cX2_appendStretch 101 = .ok (.iload 5, 2) := by decide +kernel
theorem dX2_appendStretch_103 : decode cX2_appendStretch 103 = .ok (.iload_n 3, 1) := by decide +kernel
theorem dX2_appendStretch_104 : decode cX2_appendStretch 104 = .ok (.invokespecial 61, 3) := by decide +kernel
theorem dX2_appendStretch_107 : decode cX2_appendStretch 107 = .ok (.astore 4, 2) := by decide +kernel
theorem dX2_appendStretch_109 : decode cX2_appendStretch 109 = .ok (.goto 69, 3) := by decide +kernel
theorem dX2_appendStretch_112 : decode cX2_appendStretch 112 = .ok (.new 62, 3) := by decide +kernel
theorem dX2_appendStretch_115 : decode cX2_appendStretch 115 = .ok (.dup, 1) := by decide +kernel
theorem dX2_appendStretch_116 : decode cX2_appendStretch 116 = .ok (.iload_n 2, 1) := by decide +kernel
theorem dX2_appendStretch_117 : decode cX2_appendStretch 117 = .ok (.iload 5, 2) := by decide +kernel
theorem dX2_appendStretch_119 : decode cX2_appendStretch 119 = .ok (.iload_n 3, 1) := by decide +kernel
theorem dX2_appendStretch_120 : decode cX2_appendStretch 120 = .ok (.invokespecial 64, 3) := by decide +kernel
theorem dX2_appendStretch_123 : decode cX2_appendStretch 123 = .ok (.astore 4, 2) := by decide +kernel
theorem dX2_appendStretch_125 : decode cX2_appendStretch 125 = .ok (.goto 53, 3) := by decide +kernel
theorem dX2_appendStretch_128 : decode cX2_appendStretch 128 = .ok (.new 65, 3) := by decide +kernel
theorem dX2_appendStretch_131 : decode cX2_appendStretch 131 = .ok (.dup, 1) := by decide +kernel
theorem dX2_appendStretch_132 : decode cX2_appendStretch 132 = .ok (.iload_n 2, 1) := by decide +kernel
theorem dX2_appendStretch_133 : decode cX2_appendStretch 133 = .ok (.iload 5, 2) := by decide +kernel
theorem dX2_appendStretch_135 : decode cX2_appendStretch 135 = .ok (.iload_n 3, 1) := by decide +kernel
theorem dX2_appendStretch_136 : decode cX2_appendStretch 136 = .ok (.invokespecial 67, 3) := by decide +kernel
theorem dX2_appendStretch_139 : decode cX2_appendStretch 139 = .ok (.astore 4, 2) := by decide +kernel
theorem dX2_appendStretch_141 : decode cX2_appendStretch 141 = .ok (.goto 37, 3) := by decide +kernel
theorem dX2_appendStretch_144 : decode cX2_appendStretch 144 = .ok (.new 68, 3) := by decide +kernel
theorem dX2_appendStretch_147 : decode cX2_appendStretch 147 = .ok (.dup, 1) := by decide +kernel
theorem dX2_appendStretch_148 : decode cX2_appendStretch 148 = .ok (.iload_n 2, 1) := by decide +kernel
theorem dX2_appendStretch_149 : decode cX2_appendStretch 149 = .ok (.iload 5, 2) := by decide +kernel
theorem dX2_appendStretch_151 : decode cX2_appendStretch 151 = .ok (.iload_n 3, 1) := by decide +kernel
theorem dX2_appendStretch_152 : decode cX2_appendStretch 152 = .ok (.invokespecial 70, 3) := by decide +kernel
theorem dX2_appendStretch_155 : decode cX2_appendStretch 155 = .ok (.astore 4, 2) := by decide +kernel
theorem dX2_appendStretch_157 : decode cX2_appendStretch 157 = .ok (.goto 21, 3) := by decide +kernel
theorem dX2_appendStretch_160 : decode cX2_appendStretch 160 = .ok (.new 71, 3) := by decide +kernel
theorem dX2_appendStretch_163 : decode cX2_appendStretch 163 = .ok (.dup, 1) := by decide +kernel
theorem dX2_appendStretch_164 : decode cX2_appendStretch 164 = .ok (.iload_n 2, 1) := by decide +kernel
theorem dX2_appendStretch_165 : decode cX2_appendStretch 165 = .ok (.iload 5, 2) := by decide +kernel
theorem dX2_appendStretch_167 : decode cX2_appendStretch 167 = .ok (.iload_n 3, 1) := by decide +kernel
theorem dX2_appendStretch_168 : decode cX2_appendStretch 168 = .ok (.invokespecial 73, 3) := by decide +kernel
theorem dX2_appendStretch_171 : decode cX2_appendStretch 171 = .ok (.astore 4, 2) := by decide +kernel
theorem dX2_appendStretch_173 : decode cX2_appendStretch 173 = .ok (.goto 5, 3) := by decide +kernel
theorem dX2_appendStretch_176 : decode cX2_appendStretch 176 = .ok (.iconst 0, 1) := by decide +kernel
theorem dX2_appendStretch_177 : decode cX2_appendStretch 177 = .ok (.ireturn, 1) := by decide +kernel
theorem dX2_appendStretch_178 : decode cX2_appendStretch 178 = .ok (.aload_n 0, 1) := by decide +kernel
theorem dX2_appendStretch_179 : decode cX2_appendStretch 179 = .ok (.getfield 11, 3) := by decide +kernel
theorem dX2_appendStretch_182 : decode cX2_appendStretch 182 = .ok (.aload_n 0, 1) := by decide +kernel
theorem dX2_appendStretch_183 : decode cX2_appendStretch 183 = .ok (.getfield 31, 3) := by decide +kernel
theorem dX2_appendStretch_186 : decode cX2_appendStretch 186 = .ok (.aload 4, 2) := by decide +kernel
theorem dX2_appendStretch_188 : decode cX2_appendStretch 188 = .ok (.aastore, 1) := by decide +kernel
theorem dX2_appendStretch_189 : decode cX2_appendStretch 189 = .ok (.aload_n 0, 1) := by decide +kernel
theorem dX2_appendStretch_190 : decode cX2_appendStretch 190 = .ok (.dup, 1) := by decide +kernel
theorem dX2_appendStretch_191 : decode cX2_appendStretch 191 = .ok (.getfield 31, 3) := by decide +kernel
theorem dX2_appendStretch_194 : decode cX2_appendStretch 194 = .ok (.iconst 1, 1) := by decide +kernel
theorem dX2_appendStretch_195 : decode cX2_appendStretch 195 = .ok (.iadd, 1) := by decide +kernel
theorem dX2_appendStretch_196 : decode cX2_appendStretch 196 = .ok (.putfield 31, 3) := by decide +kernel
theorem dX2_appendStretch_199 : decode cX2_appendStretch 199 = .ok (.iconst 1, 1) := by decide +kernel
theorem dX2_appendStretch_200 : decode cX2_appendStretch 200 = .ok (.ireturn, 1) := by decide +kernel
theorem dX2_appendYard_0 : decode cX2_appendYard 0 = .ok (.aload_n 0, 1) := by decide +kernel
theorem dX2_appendYard_1 : decode cX2_appendYard 1 = .ok (.aload_n 0, 1) := by decide +kernel
theorem dX2_appendYard_2 : decode cX2_appendYard 2 = .ok (.getfield 39, 3) := by decide +kernel
theorem dX2_appendYard_5 : decode cX2_appendYard 5 = .ok (.invokevirtual 42, 3) := by decide +kernel
theorem dX2_appendYard_8 : decode cX2_appendYard 8 = .ok (.iload_n 1, 1) := by decide +kernel
theorem dX2_appendYard_9 : decode cX2_appendYard 9 = .ok (.bipush 101, 2) := by decide +kernel
theorem dX2_appendYard_11 : decode cX2_appendYard 11 = .ok (.if_icmp .ne 7, 3) := by decide +kernel
theorem dX2_appendYard_14 : decode cX2_appendYard 14 = .ok (.iconst 1, 1) := by decide +kernel
theorem dX2_appendYard_15 : decode cX2_appendYard 15 = .ok (.goto 4, 3) := by decide +kernel
theorem dX2_appendYard_18 : decode cX2_appendYard 18 = .ok (.iconst 0, 1) := by decide +kernel
theorem dX2_appendYard_19 : decode cX2_appendYard 19 = .ok (.iadd, 1) := by decide +kernel
theorem dX2_appendYard_20 : decode cX2_appendYard 20 = .ok (.iload_n 1, 1) := by decide +kernel
theorem dX2_appendYard_21 : decode cX2_appendYard 21 = .ok (.bipush 119, 2) := by decide +kernel
theorem dX2_appendYard_23 : decode cX2_appendYard 23 = .ok (.if_icmp .ne 7, 3) := by decide +kernel
theorem dX2_appendYard_26 : decode cX2_appendYard 26 = .ok (.iconst 1, 1) := by decide +kernel
theorem dX2_appendYard_27 : decode cX2_appendYard 27 = .ok (.goto 4, 3) := by decide +kernel
theorem dX2_appendYard_30 : decode cX2_appendYard 30 = .ok (.iconst 0, 1) := by decide +kernel
theorem dX2_appendYard_31 : decode cX2_appendYard 31 = .ok (.isub, 1) := by decide +kernel
theorem dX2_appendYard_32 : decode cX2_appendYard 32 = .ok (.istore_n 2, 1) := by decide +kernel
theorem dX2_appendYard_33 : decode cX2_appendYard 33 = .ok (.aload_n 0, 1) := by decide +kernel
theorem dX2_appendYard_34 : decode cX2_appendYard 34 = .ok (.aload_n 0, 1) := by decide +kernel
theorem dX2_appendYard_35 : decode cX2_appendYard 35 = .ok (.getfield 39, 3) := by decide +kernel
theorem dX2_appendYard_38 : decode cX2_appendYard 38 = .ok (.invokevirtual 46, 3) := by decide +kernel
theorem dX2_appendYard_41 : decode cX2_appendYard 41 = .ok (.iload_n 1, 1) := by decide +kernel
theorem dX2_appendYard_42 : decode cX2_appendYard 42 = .ok (.bipush 110, 2) := by decide +kernel
theorem dX2_appendYard_44 : decode cX2_appendYard 44 = .ok (.if_icmp .ne 7, 3) := by decide +kernel
theorem dX2_appendYard_47 : decode cX2_appendYard 47 = .ok (.iconst 1, 1) := by decide +kernel
theorem dX2_appendYard_48 : decode cX2_appendYard 48 = .ok (.goto 4, 3) := by decide +kernel
theorem dX2_appendYard_51 : decode cX2_appendYard 51 = .ok (.iconst 0, 1) := by decide +kernel
theorem dX2_appendYard_52 : decode cX2_appendYard 52 = .ok (.iadd, 1) := by decide +kernel
theorem dX2_appendYard_53 : decode cX2_appendYard 53 = .ok (.iload_n 1, 1) := by decide +kernel
theorem dX2_appendYard_54 : decode cX2_appendYard 54 = .ok (.bipush 115, 2) := by decide +kernel
theorem dX2_appendYard_56 : decode cX2_appendYard 56 = .ok (.if_icmp .ne 7, 3) := by decide +kernel
theorem dX2_appendYard_59 : decode cX2_appendYard 59 = .ok (.iconst 1, 1) := by decide +kernel
theorem dX2_appendYard_60 : decode cX2_appendYard 60 = .ok (.goto 4, 3) := by decide +kernel
theorem dX2_appendYard_63 : decode cX2_appendYard 63 = .ok (.iconst 0, 1) := by decide +kernel
theorem dX2_appendYard_64 : decode cX2_appendYard 64 = .ok (.isub, 1) := by decide +kernel
theorem dX2_appendYard_65 : decode cX2_appendYard 65 = .ok (.istore_n 3, 1) := by decide +kernel
theorem dX2_appendYard_66 : decode cX2_appendYard 66 = .ok (.aload_n 0, 1) := by decide +kernel
theorem dX2_appendYard_67 : decode cX2_appendYard 67 = .ok (.getfield 39, 3) := by decide +kernel
theorem dX2_appendYard_70 : decode cX2_appendYard 70 = .ok (.iconst 1, 1) := by decide +kernel
theorem dX2_appendYard_71 : decode cX2_appendYard 71 = .ok (.iadd, 1) := by decide +kernel
theorem dX2_appendYard_72 : decode cX2_appendYard 72 = .ok (.istore 4, 2) := by decide +kernel
theorem dX2_appendYard_74 : decode cX2_appendYard 74 = .ok (.iload 4, 2) := by decide +kernel
theorem dX2_appendYard_76 : decode cX2_appendYard 76 = .ok (.ifCond .lt 45, 3) := by decide +kernel
theorem dX2_appendYard_79 : decode cX2_appendYard 79 = .ok (.iload 4, 2) := by decide +kernel
theorem dX2_appendYard_81 : decode cX2_appendYard 81 = .ok (.aload_n 0, 1) := by decide +kernel
theorem dX2_appendYard_82 : decode cX2_appendYard 82 = .ok (.getfield 17, 3) := by decide +kernel
theorem dX2_appendYard_85 : decode cX2_appendYard 85 = .ok (.arraylength, 1) := by decide +kernel
theorem dX2_appendYard_86 : decode cX2_appendYard 86 = .ok (.if_icmp .ge 35, 3) := by decide +kernel
theorem dX2_appendYard_89 : decode cX2_appendYard 89 = .ok (.iload 4, 2) := by decide +kernel
theorem dX2_appendYard_91 : decode cX2_appendYard 91 = .ok (.aload_n 0, 1) := by decide +kernel
theorem dX2_appendYard_92 : decode cX2_appendYard 92 = .ok (.getfield 21, 3) := by decide +kernel
theorem dX2_appendYard_95 : decode cX2_appendYard 95 = .ok (.arraylength, 1) := by decide +kernel
theorem dX2_appendYard_96 : decode cX2_appendYard 96 = .ok (.if_icmp .ge 25, 3) := by decide +kernel
theorem dX2_appendYard_99 : decode cX2_appendYard 99 = .ok (.aload_n 0, 1) := by decide +kernel
theorem dX2_appendYard_100 : decode cX2_appendYard 100 = .ok (.getfield 17, 3) := by decide +kernel
theorem dX2_appendYard_103 : decode cX2_appendYard 103 = .ok (.iload 4, 2) := by decide +kernel
theorem dX2_appendYard_105 : decode cX2_appendYard 105 = .ok (.iload_n 2, 1) := by decide +kernel
theorem dX2_appendYard_106 : decode cX2_appendYard 106 = .ok (.iastore, 1) := by decide +kernel
theorem dX2_appendYard_107 : decode cX2_appendYard 107 = .ok (.aload_n 0, 1) := by decide +kernel
theorem dX2_appendYard_108 : decode cX2_appendYard 108 = .ok (.getfield 21, 3) := by decide +kernel
theorem dX2_appendYard_111 : decode cX2_appendYard 111 = .ok (.iload 4, 2) := by decide +kernel
theorem dX2_appendYard_113 : decode cX2_appendYard 113 = .ok (.iload_n 3, 1) := by decide +kernel
theorem dX2_appendYard_114 : decode cX2_appendYard 114 = .ok (.iastore, 1) := by decide +kernel
theorem dX2_appendYard_115 : decode cX2_appendYard 115 = .ok (.aload_n 0, 1) := by decide +kernel
theorem dX2_appendYard_116 : decode cX2_appendYard 116 = .ok (.iload 4, 2) := by decide +kernel
theorem dX2_appendYard_118 : decode cX2_appendYard 118 = .ok (.putfield 39, 3) := by decide +kernel
theorem dX2_appendYard_121 : decode cX2_appendYard 121 = .ok (.return_, 1) := by decide +kernel
theorem dX2_hasPlace_0 : decode cX2_hasPlace 0 = .ok (.iload_n 1, 1) := by decide +kernel
theorem dX2_hasPlace_1 : decode cX2_hasPlace 1 = .ok (.ifCond .lt 15, 3) := by decide +kernel
theorem dX2_hasPlace_4 : decode cX2_hasPlace 4 = .ok (.iload_n 1, 1) := by decide +kernel
theorem dX2_hasPlace_5 : decode cX2_hasPlace 5 = .ok (.aload_n 0, 1) := by decide +kernel
theorem dX2_hasPlace_6 : decode cX2_hasPlace 6 = .ok (.getfield 39, 3) := by decide +kernel
theorem dX2_hasPlace_9 : decode cX2_hasPlace 9 = .ok (.if_icmp .gt 7, 3) := by decide +kernel
theorem dX2_hasPlace_12 : decode cX2_hasPlace 12 = .ok (.iconst 1, 1) := by decide +kernel
theorem dX2_hasPlace_13 : decode cX2_hasPlace 13 = .ok (.goto 4, 3) := by decide +kernel
theorem dX2_hasPlace_16 : decode cX2_hasPlace 16 = .ok (.iconst 0, 1) := by decide +kernel
theorem dX2_hasPlace_17 : decode cX2_hasPlace 17 = .ok (.ireturn, 1) := by decide +kernel
theorem dX2_xAt_0 : decode cX2_xAt 0 = .ok (.iload_n 1, 1) := by decide +kernel
theorem dX2_xAt_1 : decode cX2_xAt 1 = .ok (.ifCond .lt 12, 3) := by decide +kernel
theorem dX2_xAt_4 : decode cX2_xAt 4 = .ok (.iload_n 1, 1) := by decide +kernel
theorem dX2_xAt_5 : decode cX2_xAt 5 = .ok (.aload_n 0, 1) := by decide +kernel
theorem dX2_xAt_6 : decode cX2_xAt 6 = .ok (.getfield 17, 3) := by decide +kernel
theorem dX2_xAt_9 : decode cX2_xAt 9 = .ok (.arraylength, 1) := by decide +kernel
theorem dX2_xAt_10 : decode cX2_xAt 10 = .ok (.if_icmp .lt 7, 3) := by decide +kernel
theorem dX2_xAt_13 : decode cX2_xAt 13 = .ok (.iconst 0, 1) := by decide +kernel
theorem dX2_xAt_14 : decode cX2_xAt 14 = .ok (.goto 9, 3) := by decide +kernel
theorem dX2_xAt_17 : decode cX2_xAt 17 = .ok (.aload_n 0, 1) := by decide +kernel
theorem dX2_xAt_18 : decode cX2_xAt 18 = .ok (.getfield 17, 3) := by decide +kernel
theorem dX2_xAt_21 : decode cX2_xAt 21 = .ok (.iload_n 1, 1) := by decide +kernel
theorem dX2_xAt_22 : decode cX2_xAt 22 = .ok (.iaload, 1) := by decide +kernel
theorem dX2_xAt_23 : decode cX2_xAt 23 = .ok (.ireturn, 1) := by decide +kernel
theorem dX2_yAt_0 : decode cX2_yAt 0 = .ok (.iload_n 1, 1) := by decide +kernel
theorem dX2_yAt_1 : decode cX2_yAt 1 = .ok (.ifCond .lt 12, 3) := by decide +kernel
theorem dX2_yAt_4 : decode cX2_yAt 4 = .ok (.iload_n 1, 1) := by decide +kernel
theorem dX2_yAt_5 : decode cX2_yAt 5 = .ok (.aload_n 0, 1) := by decide +kernel
theorem dX2_yAt_6 : decode cX2_yAt 6 = .ok (.getfield 21, 3) := by decide +kernel
theorem dX2_yAt_9 : decode cX2_yAt 9 = .ok (.arraylength, 1) := by decide +kernel
theorem dX2_yAt_10 : decode cX2_yAt 10 = .ok (.if_icmp .lt 7, 3) := by decide +kernel
theorem dX2_yAt_13 : decode cX2_yAt 13 = .ok (.iconst 0, 1) := by decide +kernel
theorem dX2_yAt_14 : decode cX2_yAt 14 = .ok (.goto 9, 3) := by decide +kernel
theorem dX2_yAt_17 : decode cX2_yAt 17 = .ok (.aload_n 0, 1) := by decide +kernel
theorem dX2_yAt_18 : decode cX2_yAt 18 = .ok (.getfield 21, 3) := by decide +kernel
theorem dX2_yAt_21 : decode cX2_yAt 21 = .ok (.iload_n 1, 1) := by decide +kernel
theorem dX2_yAt_22 : decode cX2_yAt 22 = .ok (.iaload, 1) := by decide +kernel
theorem dX2_yAt_23 : decode cX2_yAt 23 = .ok (.ireturn, 1) := by decide +kernel
theorem dX2_shoreNow_0 : decode cX2_shoreNow 0 = .ok (.aload_n 0, 1) := by decide +kernel
theorem dX2_shoreNow_1 : decode cX2_shoreNow 1 = .ok (.aload_n 0, 1) := by decide +kernel
theorem dX2_shoreNow_2 : decode cX2_shoreNow 2 = .ok (.getfield 53, 3) := by decide +kernel
theorem dX2_shoreNow_5 : decode cX2_shoreNow 5 = .ok (.invokevirtual 74, 3) := by decide +kernel
theorem dX2_shoreNow_8 : decode cX2_shoreNow 8 = .ok (.lreturn, 1) := by decide +kernel
theorem dX2_shoreAt_0 : decode cX2_shoreAt 0 = .ok (.lconst 1, 1) := by decide +kernel
theorem dX2_shoreAt_1 : decode cX2_shoreAt 1 = .ok (.lstore_n 2, 1) := by decide +kernel
theorem dX2_shoreAt_2 : decode cX2_shoreAt 2 = .ok (.iconst 0, 1) := by decide +kernel
theorem dX2_shoreAt_3 : decode cX2_shoreAt 3 = .ok (.istore 4, 2) := by decide +kernel
theorem dX2_shoreAt_5 : decode cX2_shoreAt 5 = .ok (.iload 4, 2) := by decide +kernel
theorem dX2_shoreAt_7 : decode cX2_shoreAt 7 = .ok (.bipush 8, 2) := by decide +kernel
theorem dX2_shoreAt_9 : decode cX2_shoreAt 9 = .ok (.if_icmp .ge 39, 3) := by decide +kernel
theorem dX2_shoreAt_12 : decode cX2_shoreAt 12 = .ok (.aload_n 0, 1) := by decide +kernel
theorem dX2_shoreAt_13 : decode cX2_shoreAt 13 = .ok (.iload 4, 2) := by decide +kernel
theorem dX2_shoreAt_15 : decode cX2_shoreAt 15 = .ok (.invokevirtual 35, 3) := by decide +kernel
theorem dX2_shoreAt_18 : decode cX2_shoreAt 18 = .ok (.astore 5, 2) := by decide +kernel
theorem dX2_shoreAt_20 : decode cX2_shoreAt 20 = .ok (.aload 5, 2) := by decide +kernel
theorem dX2_shoreAt_22 : decode cX2_shoreAt 22 = .ok (.ifnull 20, 3) := by decide +kernel
theorem dX2_shoreAt_25 : decode cX2_shoreAt 25 = .ok (.aload 5, 2) := by decide +kernel
theorem dX2_shoreAt_27 : decode cX2_shoreAt 27 = .ok (.iload_n 1, 1) := by decide +kernel
theorem dX2_shoreAt_28 : decode cX2_shoreAt 28 = .ok (.invokevirtual 78, 3) := by decide +kernel
theorem dX2_shoreAt_31 : decode cX2_shoreAt 31 = .ok (.ifCond .eq 11, 3) := by decide +kernel
theorem dX2_shoreAt_34 : decode cX2_shoreAt 34 = .ok (.lload_n 2, 1) := by decide +kernel
theorem dX2_shoreAt_35 : decode cX2_shoreAt 35 = .ok (.aload 5, 2) := by decide +kernel
theorem dX2_shoreAt_37 : decode cX2_shoreAt 37 = .ok (.invokevirtual 82, 3) := by decide +kernel
theorem dX2_shoreAt_40 : decode cX2_shoreAt 40 = .ok (.lor, 1) := by decide +kernel
theorem dX2_shoreAt_41 : decode cX2_shoreAt 41 = .ok (.lstore_n 2, 1) := by decide +kernel
theorem dX2_shoreAt_42 : decode cX2_shoreAt 42 = .ok (.iinc 4 1, 3) := by decide +kernel
theorem dX2_shoreAt_45 : decode cX2_shoreAt 45 = .ok (.goto (-40), 3) := by decide +kernel
theorem dX2_shoreAt_48 : decode cX2_shoreAt 48 = .ok (.lload_n 2, 1) := by decide +kernel
theorem dX2_shoreAt_49 : decode cX2_shoreAt 49 = .ok (.lreturn, 1) := by decide +kernel
theorem dX2_feesOfStretches_0 : decode cX2_feesOfStretches 0 = .ok (.iconst 0, 1) := by decide +kernel
theorem dX2_feesOfStretches_1 : decode cX2_feesOfStretches 1 = .ok (.istore_n 1, 1) := by decide +kernel
theorem dX2_feesOfStretches_2 : decode cX2_feesOfStretches 2 = .ok (.iconst 0, 1) := by decide +kernel
theorem dX2_feesOfStretches_3 : decode cX2_feesOfStretches 3 = .ok (.istore_n 2, 1) := by decide +kernel
theorem dX2_feesOfStretches_4 : decode cX2_feesOfStretches 4 = .ok (.iload_n 2, 1) := by decide +kernel
theorem dX2_feesOfStretches_5 : decode cX2_feesOfStretches 5 = .ok (.bipush 8, 2) := by decide +kernel
theorem dX2_feesOfStretches_7 : decode cX2_feesOfStretches 7 = .ok (.if_icmp .ge 30, 3) := by decide +kernel
theorem dX2_feesOfStretches_10 : decode cX2_feesOfStretches 10 = .ok (.aload_n 0, 1) := by decide +kernel
theorem dX2_feesOfStretches_11 : decode cX2_feesOfStretches 11 = .ok (.iload_n 2, 1) := by decide +kernel
theorem dX2_feesOfStretches_12 : decode cX2_feesOfStretches 12 = .ok (.invokevirtual 35, 3) := by decide +kernel
theorem dX2_feesOfStretches_15 : decode cX2_feesOfStretches 15 = .ok (.astore_n 3, 1) := by decide +kernel
theorem dX2_feesOfStretches_16 : decode cX2_feesOfStretches 16 = .ok (.iload_n 1, 1) := by decide +kernel
theorem dX2_feesOfStretches_17 : decode cX2_feesOfStretches 17 = .ok (.aload_n 3, 1) := by decide +kernel
theorem dX2_feesOfStretches_18 : decode cX2_feesOfStretches 18 = .ok (.ifnonnull 7, 3) := by decide +kernel
theorem dX2_feesOfStretches_21 : decode cX2_feesOfStretches 21 = .ok (.iconst 0, 1) := by decide +kernel
theorem dX2_feesOfStretches_22 : decode cX2_feesOfStretches 22 = .ok (.goto 7, 3) := by decide +kernel
theorem dX2_feesOfStretches_25 : decode cX2_feesOfStretches 25 = .ok (.aload_n 3, 1) := by decide +kernel
theorem dX2_feesOfStretches_26 : decode cX2_feesOfStretches 26 = .ok (.invokevirtual 86, 3) := by decide +kernel
theorem dX2_feesOfStretches_29 : decode cX2_feesOfStretches 29 = .ok (.iadd, 1) := by decide +kernel
theorem dX2_feesOfStretches_30 : decode cX2_feesOfStretches 30 = .ok (.istore_n 1, 1) := by decide +kernel
theorem dX2_feesOfStretches_31 : decode cX2_feesOfStretches 31 = .ok (.iinc 2 1, 3) := by decide +kernel
theorem dX2_feesOfStretches_34 : decode cX2_feesOfStretches 34 = .ok (.goto (-30), 3) := by decide +kernel
theorem dX2_feesOfStretches_37 : decode cX2_feesOfStretches 37 = .ok (.iload_n 1, 1) := by decide +kernel
theorem dX2_feesOfStretches_38 : decode cX2_feesOfStretches 38 = .ok (.ireturn, 1) := by decide +kernel
theorem dX2_feesOf_0 : decode cX2_feesOf 0 = .ok (.iconst 0, 1) := by decide +kernel
theorem dX2_feesOf_1 : decode cX2_feesOf 1 = .ok (.istore_n 3, 1) := by decide +kernel
theorem dX2_feesOf_2 : decode cX2_feesOf 2 = .ok (.iconst 0, 1) := by decide +kernel
theorem dX2_feesOf_3 : decode cX2_feesOf 3 = .ok (.istore 4, 2) := by decide +kernel
theorem dX2_feesOf_5 : decode cX2_feesOf 5 = .ok (.iload 4, 2) := by decide +kernel
theorem dX2_feesOf_7 : decode cX2_feesOf 7 = .ok (.bipush 8, 2) := by decide +kernel
theorem dX2_feesOf_9 : decode cX2_feesOf 9 = .ok (.if_icmp .ge 41, 3) := by decide +kernel
theorem dX2_feesOf_12 : decode cX2_feesOf 12 = .ok (.aload_n 0, 1) := by decide +kernel
theorem dX2_feesOf_13 : decode cX2_feesOf 13 = .ok (.iload 4, 2) := by decide +kernel
theorem dX2_feesOf_15 : decode cX2_feesOf 15 = .ok (.invokevirtual 35, 3) := by decide +kernel
theorem dX2_feesOf_18 : decode cX2_feesOf 18 = .ok (.astore 5, 2) := by decide +kernel
theorem dX2_feesOf_20 : decode cX2_feesOf 20 = .ok (.aload 5, 2) := by decide +kernel
theorem dX2_feesOf_22 : decode cX2_feesOf 22 = .ok (.ifnull 22, 3) := by decide +kernel
theorem dX2_feesOf_25 : decode cX2_feesOf 25 = .ok (.iload_n 3, 1) := by decide +kernel
theorem dX2_feesOf_26 : decode cX2_feesOf 26 = .ok (.aload 5, 2) := by decide +kernel
theorem dX2_feesOf_28 : decode cX2_feesOf 28 = .ok (.invokevirtual 86, 3) := by decide +kernel
theorem dX2_feesOf_31 : decode cX2_feesOf 31 = .ok (.lload_n 1, 1) := by decide +kernel
theorem dX2_feesOf_32 : decode cX2_feesOf 32 = .ok (.aload 5, 2) := by decide +kernel
theorem dX2_feesOf_34 : decode cX2_feesOf 34 = .ok (.invokevirtual 82, 3) := by decide +kernel
theorem dX2_feesOf_37 : decode cX2_feesOf 37 = .ok (.land, 1) := by decide +kernel
theorem dX2_feesOf_38 : decode cX2_feesOf 38 = .ok (.invokestatic 90, 3) := by decide +kernel
theorem dX2_feesOf_41 : decode cX2_feesOf 41 = .ok (.imul, 1) := by decide +kernel
theorem dX2_feesOf_42 : decode cX2_feesOf 42 = .ok (.iadd, 1) := by decide +kernel
theorem dX2_feesOf_43 : decode cX2_feesOf 43 = .ok (.istore_n 3, 1) := by decide +kernel
theorem dX2_feesOf_44 : decode cX2_feesOf 44 = .ok (.iinc 4 1, 3) := by decide +kernel
theorem dX2_feesOf_47 : decode cX2_feesOf 47 = .ok (.goto (-42), 3) := by decide +kernel
theorem dX2_feesOf_50 : decode cX2_feesOf 50 = .ok (.iload_n 3, 1) := by decide +kernel
theorem dX2_feesOf_51 : decode cX2_feesOf 51 = .ok (.ireturn, 1) := by decide +kernel
theorem dX2_isRodApart_0 : decode cX2_isRodApart 0 = .ok (.aload_n 0, 1) := by decide +kernel
theorem dX2_isRodApart_1 : decode cX2_isRodApart 1 = .ok (.iload_n 1, 1) := by decide +kernel
theorem dX2_isRodApart_2 : decode cX2_isRodApart 2 = .ok (.invokevirtual 42, 3) := by decide +kernel
theorem dX2_isRodApart_5 : decode cX2_isRodApart 5 = .ok (.aload_n 0, 1) := by decide +kernel
theorem dX2_isRodApart_6 : decode cX2_isRodApart 6 = .ok (.iload_n 2, 1) := by decide +kernel
theorem dX2_isRodApart_7 : decode cX2_isRodApart 7 = .ok (.invokevirtual 42, 3) := by decide +kernel
theorem dX2_isRodApart_10 : decode cX2_isRodApart 10 = .ok (.isub, 1) := by decide +kernel
theorem dX2_isRodApart_11 : decode cX2_isRodApart 11 = .ok (.istore 4, 2) := by decide +kernel
theorem dX2_isRodApart_13 : decode cX2_isRodApart 13 = .ok (.aload_n 0, 1) := by decide +kernel
theorem dX2_isRodApart_14 : decode cX2_isRodApart 14 = .ok (.iload_n 1, 1) := by decide +kernel
theorem dX2_isRodApart_15 : decode cX2_isRodApart 15 = .ok (.invokevirtual 46, 3) := by decide +kernel
theorem dX2_isRodApart_18 : decode cX2_isRodApart 18 = .ok (.aload_n 0, 1) := by decide +kernel
theorem dX2_isRodApart_19 : decode cX2_isRodApart 19 = .ok (.iload_n 2, 1) := by decide +kernel
theorem dX2_isRodApart_20 : decode cX2_isRodApart 20 = .ok (.invokevirtual 46, 3) := by decide +kernel
theorem dX2_isRodApart_23 : decode cX2_isRodApart 23 = .ok (.isub, 1) := by decide +kernel
theorem dX2_isRodApart_24 : decode cX2_isRodApart 24 = .ok (.istore 5, 2) := by decide +kernel
theorem dX2_isRodApart_26 : decode cX2_isRodApart 26 = .ok (.iload 4, 2) := by decide +kernel
theorem dX2_isRodApart_28 : decode cX2_isRodApart 28 = .ok (.iload 4, 2) := by decide +kernel
theorem dX2_isRodApart_30 : decode cX2_isRodApart 30 = .ok (.imul, 1) := by decide +kernel
theorem dX2_isRodApart_31 : decode cX2_isRodApart 31 = .ok (.iload 5, 2) := by decide +kernel
theorem dX2_isRodApart_33 : decode cX2_isRodApart 33 = .ok (.iload 5, 2) := by decide +kernel
theorem dX2_isRodApart_35 : decode cX2_isRodApart 35 = .ok (.imul, 1) := by decide +kernel
theorem dX2_isRodApart_36 : decode cX2_isRodApart 36 = .ok (.iadd, 1) := by decide +kernel
theorem dX2_isRodApart_37 : decode cX2_isRodApart 37 = .ok (.iload_n 3, 1) := by decide +kernel
theorem dX2_isRodApart_38 : decode cX2_isRodApart 38 = .ok (.iload_n 3, 1) := by decide +kernel
theorem dX2_isRodApart_39 : decode cX2_isRodApart 39 = .ok (.imul, 1) := by decide +kernel
theorem dX2_isRodApart_40 : decode cX2_isRodApart 40 = .ok (.if_icmp .lt 7, 3) := by decide +kernel
theorem dX2_isRodApart_43 : decode cX2_isRodApart 43 = .ok (.iconst 1, 1) := by decide +kernel
theorem dX2_isRodApart_44 : decode cX2_isRodApart 44 = .ok (.goto 4, 3) := by decide +kernel
theorem dX2_isRodApart_47 : decode cX2_isRodApart 47 = .ok (.iconst 0, 1) := by decide +kernel
theorem dX2_isRodApart_48 : decode cX2_isRodApart 48 = .ok (.ireturn, 1) := by decide +kernel
theorem dX2_reachedFrom_0 : decode cX2_reachedFrom 0 = .ok (.lconst 0, 1) := by decide +kernel
theorem dX2_reachedFrom_1 : decode cX2_reachedFrom 1 = .ok (.lstore 5, 2) := by decide +kernel
theorem dX2_reachedFrom_3 : decode cX2_reachedFrom 3 = .ok (.bipush (-9), 2) := by decide +kernel
theorem dX2_reachedFrom_5 : decode cX2_reachedFrom 5 = .ok (.istore 7, 2) := by decide +kernel
theorem dX2_reachedFrom_7 : decode cX2_reachedFrom 7 = .ok (.iload 4, 2) := by decide +kernel
theorem dX2_reachedFrom_9 : decode cX2_reachedFrom 9 = .ok (.istore 8, 2) := by decide +kernel
theorem dX2_reachedFrom_11 : decode cX2_reachedFrom 11 = .ok (.iload 8, 2) := by decide +kernel
theorem dX2_reachedFrom_13 : decode cX2_reachedFrom 13 = .ok (.aload_n 0, 1) := by decide +kernel
theorem dX2_reachedFrom_14 : decode cX2_reachedFrom 14 = .ok (.getfield 39, 3) := by decide +kernel
theorem dX2_reachedFrom_17 : decode cX2_reachedFrom 17 = .ok (.if_icmp .gt 50, 3) := by decide +kernel
theorem dX2_reachedFrom_20 : decode cX2_reachedFrom 20 = .ok (.lload_n 1, 1) := by decide +kernel
theorem dX2_reachedFrom_21 : decode cX2_reachedFrom 21 = .ok (.iload 8, 2) := by decide +kernel
theorem dX2_reachedFrom_23 : decode cX2_reachedFrom 23 = .ok (.invokestatic 96, 3) := by decide +kernel
theorem dX2_reachedFrom_26 : decode cX2_reachedFrom 26 = .ok (.ifCond .eq 35, 3) := by decide +kernel
theorem dX2_reachedFrom_29 : decode cX2_reachedFrom 29 = .ok (.iload 7, 2) := by decide +kernel
theorem dX2_reachedFrom_31 : decode cX2_reachedFrom 31 = .ok (.bipush (-9), 2) := by decide +kernel
theorem dX2_reachedFrom_33 : decode cX2_reachedFrom 33 = .ok (.if_icmp .eq 15, 3) := by decide +kernel
theorem dX2_reachedFrom_36 : decode cX2_reachedFrom 36 = .ok (.aload_n 0, 1) := by decide +kernel
theorem dX2_reachedFrom_37 : decode cX2_reachedFrom 37 = .ok (.iload 7, 2) := by decide +kernel
theorem dX2_reachedFrom_39 : decode cX2_reachedFrom 39 = .ok (.iload 8, 2) := by decide +kernel
theorem dX2_reachedFrom_41 : decode cX2_reachedFrom 41 = .ok (.iload_n 3, 1) := by decide +kernel
theorem dX2_reachedFrom_42 : decode cX2_reachedFrom 42 = .ok (.invokevirtual 100, 3) := by decide +kernel
theorem dX2_reachedFrom_45 : decode cX2_reachedFrom 45 = .ok (.ifCond .eq 16, 3) := by decide +kernel
theorem dX2_reachedFrom_48 : decode cX2_reachedFrom 48 = .ok (.lload 5, 2) := by decide +kernel
theorem dX2_reachedFrom_50 : decode cX2_reachedFrom 50 = .ok (.lconst 1, 1) := by decide +kernel
theorem dX2_reachedFrom_51 : decode cX2_reachedFrom 51 = .ok (.iload 8, 2) := by decide +kernel
theorem dX2_reachedFrom_53 : decode cX2_reachedFrom 53 = .ok (.lshl, 1) := by decide +kernel
theorem dX2_reachedFrom_54 : decode cX2_reachedFrom 54 = .ok (.lor, 1) := by decide +kernel
theorem dX2_reachedFrom_55 : decode cX2_reachedFrom 55 = .ok (.lstore 5, 2) := by decide +kernel
theorem dX2_reachedFrom_57 : decode cX2_reachedFrom 57 = .ok (.iload 8, 2) := by decide +kernel
theorem dX2_reachedFrom_59 : decode cX2_reachedFrom 59 = .ok (.istore 7, 2) := by decide +kernel
theorem dX2_reachedFrom_61 : decode cX2_reachedFrom 61 = .ok (.iinc 8 1, 3) := by decide +kernel
theorem dX2_reachedFrom_64 : decode cX2_reachedFrom 64 = .ok (.goto (-53), 3) := by decide +kernel
theorem dX2_reachedFrom_67 : decode cX2_reachedFrom 67 = .ok (.lload 5, 2) := by decide +kernel
theorem dX2_reachedFrom_69 : decode cX2_reachedFrom 69 = .ok (.lreturn, 1) := by decide +kernel
theorem dX2_milesOf_0 : decode cX2_milesOf 0 = .ok (.iload_n 3, 1) := by decide +kernel
theorem dX2_milesOf_1 : decode cX2_milesOf 1 = .ok (.aload_n 0, 1) := by decide +kernel
theorem dX2_milesOf_2 : decode cX2_milesOf 2 = .ok (.lload_n 1, 1) := by decide +kernel
theorem dX2_milesOf_3 : decode cX2_milesOf 3 = .ok (.iload_n 3, 1) := by decide +kernel
theorem dX2_milesOf_4 : decode cX2_milesOf 4 = .ok (.iload 4, 2) := by decide +kernel
theorem dX2_milesOf_6 : decode cX2_milesOf 6 = .ok (.invokevirtual 104, 3) := by decide +kernel
theorem dX2_milesOf_9 : decode cX2_milesOf 9 = .ok (.invokestatic 108, 3) := by decide +kernel
theorem dX2_milesOf_12 : decode cX2_milesOf 12 = .ok (.imul, 1) := by decide +kernel
theorem dX2_milesOf_13 : decode cX2_milesOf 13 = .ok (.ireturn, 1) := by decide +kernel
theorem dX2_milesWithout_0 : decode cX2_milesWithout 0 = .ok (.aload_n 0, 1) := by decide +kernel
theorem dX2_milesWithout_1 : decode cX2_milesWithout 1 = .ok (.aload_n 0, 1) := by decide +kernel
theorem dX2_milesWithout_2 : decode cX2_milesWithout 2 = .ok (.invokevirtual 111, 3) := by decide +kernel
theorem dX2_milesWithout_5 : decode cX2_milesWithout 5 = .ok (.aload_n 1, 1) := by decide +kernel
theorem dX2_milesWithout_6 : decode cX2_milesWithout 6 = .ok (.invokevirtual 82, 3) := by decide +kernel
theorem dX2_milesWithout_9 : decode cX2_milesWithout 9 = .ok (.ldc2_w 114, 3) := by decide +kernel
theorem dX2_milesWithout_12 : decode cX2_milesWithout 12 = .ok (.lxor, 1) := by decide +kernel
theorem dX2_milesWithout_13 : decode cX2_milesWithout 13 = .ok (.land, 1) := by decide +kernel
theorem dX2_milesWithout_14 : decode cX2_milesWithout 14 = .ok (.iload_n 2, 1) := by decide +kernel
theorem dX2_milesWithout_15 : decode cX2_milesWithout 15 = .ok (.iconst 0, 1) := by decide +kernel
theorem dX2_milesWithout_16 : decode cX2_milesWithout 16 = .ok (.invokevirtual 116, 3) := by decide +kernel
theorem dX2_milesWithout_19 : decode cX2_milesWithout 19 = .ok (.ireturn, 1) := by decide +kernel
theorem dX2_milesOfTwo_0 : decode cX2_milesOfTwo 0 = .ok (.aload_n 0, 1) := by decide +kernel
theorem dX2_milesOfTwo_1 : decode cX2_milesOfTwo 1 = .ok (.invokevirtual 111, 3) := by decide +kernel
theorem dX2_milesOfTwo_4 : decode cX2_milesOfTwo 4 = .ok (.lstore 4, 2) := by decide +kernel
theorem dX2_milesOfTwo_6 : decode cX2_milesOfTwo 6 = .ok (.iconst 0, 1) := by decide +kernel
theorem dX2_milesOfTwo_7 : decode cX2_milesOfTwo 7 = .ok (.istore 6, 2) := by decide +kernel
theorem dX2_milesOfTwo_9 : decode cX2_milesOfTwo 9 = .ok (.lload 4, 2) := by decide +kernel
theorem dX2_milesOfTwo_11 : decode cX2_milesOfTwo 11 = .ok (.invokestatic 120, 3) := by decide +kernel
theorem dX2_milesOfTwo_14 : decode cX2_milesOfTwo 14 = .ok (.istore 7, 2) := by decide +kernel
theorem dX2_milesOfTwo_16 : decode cX2_milesOfTwo 16 = .ok (.iconst 0, 1) := by decide +kernel
theorem dX2_milesOfTwo_17 : decode cX2_milesOfTwo 17 = .ok (.istore 8, 2) := by decide +kernel
theorem dX2_milesOfTwo_19 : decode cX2_milesOfTwo 19 = .ok (.iconst 0, 1) := by decide +kernel
theorem dX2_milesOfTwo_20 : decode cX2_milesOfTwo 20 = .ok (.istore 9, 2) := by decide +kernel
theorem dX2_milesOfTwo_22 : decode cX2_milesOfTwo 22 = .ok (.iconst 0, 1) := by decide +kernel
theorem dX2_milesOfTwo_23 : decode cX2_milesOfTwo 23 = .ok (.istore 10, 2) := by decide +kernel
theorem dX2_milesOfTwo_25 : decode cX2_milesOfTwo 25 = .ok (.iload 10, 2) := by decide +kernel
theorem dX2_milesOfTwo_27 : decode cX2_milesOfTwo 27 = .ok (.bipush 48, 2) := by decide +kernel
theorem dX2_milesOfTwo_29 : decode cX2_milesOfTwo 29 = .ok (.if_icmp .ge 75, 3) := by decide +kernel
theorem dX2_milesOfTwo_32 : decode cX2_milesOfTwo 32 = .ok (.aload_n 0, 1) := by decide +kernel
theorem dX2_milesOfTwo_33 : decode cX2_milesOfTwo 33 = .ok (.lload 4, 2) := by decide +kernel
theorem dX2_milesOfTwo_35 : decode cX2_milesOfTwo 35 = .ok (.iload 6, 2) := by decide +kernel
theorem dX2_milesOfTwo_37 : decode cX2_milesOfTwo 37 = .ok (.iload_n 1, 1) := by decide +kernel
theorem dX2_milesOfTwo_38 : decode cX2_milesOfTwo 38 = .ok (.iconst 1, 1) := by decide +kernel
theorem dX2_milesOfTwo_39 : decode cX2_milesOfTwo 39 = .ok (.invokevirtual 123, 3) := by decide +kernel
theorem dX2_milesOfTwo_42 : decode cX2_milesOfTwo 42 = .ok (.istore 11, 2) := by decide +kernel
theorem dX2_milesOfTwo_44 : decode cX2_milesOfTwo 44 = .ok (.iload 11, 2) := by decide +kernel
theorem dX2_milesOfTwo_46 : decode cX2_milesOfTwo 46 = .ok (.bipush (-9), 2) := by decide +kernel
theorem dX2_milesOfTwo_48 : decode cX2_milesOfTwo 48 = .ok (.if_icmp .eq 17, 3) := by decide +kernel
theorem dX2_milesOfTwo_51 : decode cX2_milesOfTwo 51 = .ok (.iload 11, 2) := by decide +kernel
theorem dX2_milesOfTwo_53 : decode cX2_milesOfTwo 53 = .ok (.iload 7, 2) := by decide +kernel
theorem dX2_milesOfTwo_55 : decode cX2_milesOfTwo 55 = .ok (.if_icmp .ge 10, 3) := by decide +kernel
theorem dX2_milesOfTwo_58 : decode cX2_milesOfTwo 58 = .ok (.iload 11, 2) := by decide +kernel
theorem dX2_milesOfTwo_60 : decode cX2_milesOfTwo 60 = .ok (.istore 6, 2) := by decide +kernel
theorem dX2_milesOfTwo_62 : decode cX2_milesOfTwo 62 = .ok (.iinc 8 1, 3) := by decide +kernel
theorem dX2_milesOfTwo_65 : decode cX2_milesOfTwo 65 = .ok (.aload_n 0, 1) := by decide +kernel
theorem dX2_milesOfTwo_66 : decode cX2_milesOfTwo 66 = .ok (.lload 4, 2) := by decide +kernel
theorem dX2_milesOfTwo_68 : decode cX2_milesOfTwo 68 = .ok (.iload 7, 2) := by decide +kernel
theorem dX2_milesOfTwo_70 : decode cX2_milesOfTwo 70 = .ok (.iload_n 2, 1) := by decide +kernel
theorem dX2_milesOfTwo_71 : decode cX2_milesOfTwo 71 = .ok (.iconst (-1), 1) := by decide +kernel
theorem dX2_milesOfTwo_72 : decode cX2_milesOfTwo 72 = .ok (.invokevirtual 123, 3) := by decide +kernel
theorem dX2_milesOfTwo_75 : decode cX2_milesOfTwo 75 = .ok (.istore 11, 2) := by decide +kernel
theorem dX2_milesOfTwo_77 : decode cX2_milesOfTwo 77 = .ok (.iload 11, 2) := by decide +kernel
theorem dX2_milesOfTwo_79 : decode cX2_milesOfTwo 79 = .ok (.bipush (-9), 2) := by decide +kernel
theorem dX2_milesOfTwo_81 : decode cX2_milesOfTwo 81 = .ok (.if_icmp .eq 17, 3) := by decide +kernel
theorem dX2_milesOfTwo_84 : decode cX2_milesOfTwo 84 = .ok (.iload 6, 2) := by decide +kernel
theorem dX2_milesOfTwo_86 : decode cX2_milesOfTwo 86 = .ok (.iload 11, 2) := by decide +kernel
theorem dX2_milesOfTwo_88 : decode cX2_milesOfTwo 88 = .ok (.if_icmp .ge 10, 3) := by decide +kernel
theorem dX2_milesOfTwo_91 : decode cX2_milesOfTwo 91 = .ok (.iload 11, 2) := by decide +kernel
theorem dX2_milesOfTwo_93 : decode cX2_milesOfTwo 93 = .ok (.istore 7, 2) := by decide +kernel
theorem dX2_milesOfTwo_95 : decode cX2_milesOfTwo 95 = .ok (.iinc 9 1, 3) := by decide +kernel
theorem dX2_milesOfTwo_98 : decode cX2_milesOfTwo 98 = .ok (.iinc 10 1, 3) := by decide +kernel
theorem dX2_milesOfTwo_101 : decode cX2_milesOfTwo 101 = .ok (.goto (-76), 3) := by decide +kernel
theorem dX2_milesOfTwo_104 : decode cX2_milesOfTwo 104 = .ok (.iload_n 3, 1) := by decide +kernel
theorem dX2_milesOfTwo_105 : decode cX2_milesOfTwo 105 = .ok (.ifCond .eq 10, 3) := by decide +kernel
theorem dX2_milesOfTwo_108 : decode cX2_milesOfTwo 108 = .ok (.iload_n 1, 1) := by decide +kernel
theorem dX2_milesOfTwo_109 : decode cX2_milesOfTwo 109 = .ok (.iload 8, 2) := by decide +kernel
theorem dX2_milesOfTwo_111 : decode cX2_milesOfTwo 111 = .ok (.imul, 1) := by decide +kernel
theorem dX2_milesOfTwo_112 : decode cX2_milesOfTwo 112 = .ok (.goto 7, 3) := by decide +kernel
theorem dX2_milesOfTwo_115 : decode cX2_milesOfTwo 115 = .ok (.iload_n 2, 1) := by decide +kernel
theorem dX2_milesOfTwo_116 : decode cX2_milesOfTwo 116 = .ok (.iload 9, 2) := by decide +kernel
theorem dX2_milesOfTwo_118 : decode cX2_milesOfTwo 118 = .ok (.imul, 1) := by decide +kernel
theorem dX2_milesOfTwo_119 : decode cX2_milesOfTwo 119 = .ok (.ireturn, 1) := by decide +kernel
theorem dX2_stepFrom_0 : decode cX2_stepFrom 0 = .ok (.iconst 1, 1) := by decide +kernel
theorem dX2_stepFrom_1 : decode cX2_stepFrom 1 = .ok (.istore 6, 2) := by decide +kernel
theorem dX2_stepFrom_3 : decode cX2_stepFrom 3 = .ok (.iload 6, 2) := by decide +kernel
theorem dX2_stepFrom_5 : decode cX2_stepFrom 5 = .ok (.aload_n 0, 1) := by decide +kernel
theorem dX2_stepFrom_6 : decode cX2_stepFrom 6 = .ok (.getfield 39, 3) := by decide +kernel
theorem dX2_stepFrom_9 : decode cX2_stepFrom 9 = .ok (.if_icmp .gt 42, 3) := by decide +kernel
theorem dX2_stepFrom_12 : decode cX2_stepFrom 12 = .ok (.iload_n 3, 1) := by decide +kernel
theorem dX2_stepFrom_13 : decode cX2_stepFrom 13 = .ok (.iload 6, 2) := by decide +kernel
theorem dX2_stepFrom_15 : decode cX2_stepFrom 15 = .ok (.iload 5, 2) := by decide +kernel
theorem dX2_stepFrom_17 : decode cX2_stepFrom 17 = .ok (.imul, 1) := by decide +kernel
theorem dX2_stepFrom_18 : decode cX2_stepFrom 18 = .ok (.iadd, 1) := by decide +kernel
theorem dX2_stepFrom_19 : decode cX2_stepFrom 19 = .ok (.istore 7, 2) := by decide +kernel
theorem dX2_stepFrom_21 : decode cX2_stepFrom 21 = .ok (.lload_n 1, 1) := by decide +kernel
theorem dX2_stepFrom_22 : decode cX2_stepFrom 22 = .ok (.iload 7, 2) := by decide +kernel
theorem dX2_stepFrom_24 : decode cX2_stepFrom 24 = .ok (.invokestatic 96, 3) := by decide +kernel
theorem dX2_stepFrom_27 : decode cX2_stepFrom 27 = .ok (.ifCond .eq 18, 3) := by decide +kernel
theorem dX2_stepFrom_30 : decode cX2_stepFrom 30 = .ok (.aload_n 0, 1) := by decide +kernel
theorem dX2_stepFrom_31 : decode cX2_stepFrom 31 = .ok (.iload_n 3, 1) := by decide +kernel
theorem dX2_stepFrom_32 : decode cX2_stepFrom 32 = .ok (.iload 7, 2) := by decide +kernel
theorem dX2_stepFrom_34 : decode cX2_stepFrom 34 = .ok (.iload 4, 2) := by decide +kernel
theorem dX2_stepFrom_36 : decode cX2_stepFrom 36 = .ok (.invokevirtual 100, 3) := by decide +kernel
theorem dX2_stepFrom_39 : decode cX2_stepFrom 39 = .ok (.ifCond .eq 6, 3) := by decide +kernel
theorem dX2_stepFrom_42 : decode cX2_stepFrom 42 = .ok (.iload 7, 2) := by decide +kernel
theorem dX2_stepFrom_44 : decode cX2_stepFrom 44 = .ok (.ireturn, 1) := by decide +kernel
theorem dX2_stepFrom_45 : decode cX2_stepFrom 45 = .ok (.iinc 6 1, 3) := by decide +kernel
theorem dX2_stepFrom_48 : decode cX2_stepFrom 48 = .ok (.goto (-45), 3) := by decide +kernel
theorem dX2_stepFrom_51 : decode cX2_stepFrom 51 = .ok (.bipush (-9), 2) := by decide +kernel
theorem dX2_stepFrom_53 : decode cX2_stepFrom 53 = .ok (.ireturn, 1) := by decide +kernel
theorem dX3_init_0 : decode cX3_init 0 = .ok (.aload_n 0, 1) := by decide +kernel
theorem dX3_init_1 : decode cX3_init 1 = .ok (.invokespecial 3, 3) := by decide +kernel
theorem dX3_init_4 : decode cX3_init 4 = .ok (.aload_n 0, 1) := by decide +kernel
theorem dX3_init_5 : decode cX3_init 5 = .ok (.bipush 80, 2) := by decide +kernel
theorem dX3_init_7 : decode cX3_init 7 = .ok (.newarray .int, 2) := by decide +kernel
theorem dX3_init_9 : decode cX3_init 9 = .ok (.putfield 9, 3) := by decide +kernel
theorem dX3_init_12 : decode cX3_init 12 = .ok (.return_, 1) := by decide +kernel
theorem dX3_append_0 : decode cX3_append 0 = .ok (.aload_n 0, 1) := by decide +kernel
theorem dX3_append_1 : decode cX3_append 1 = .ok (.getfield 15, 3) := by decide +kernel
theorem dX3_append_4 : decode cX3_append 4 = .ok (.ifCond .lt 15, 3) := by decide +kernel
theorem dX3_append_7 : decode cX3_append 7 = .ok (.aload_n 0, 1) := by decide +kernel
theorem dX3_append_8 : decode cX3_append 8 = .ok (.getfield 15, 3) := by decide +kernel
theorem dX3_append_11 : decode cX3_append 11 = .ok (.aload_n 0, 1) := by decide +kernel
theorem dX3_append_12 : decode cX3_append 12 = .ok (.getfield 9, 3) := by decide +kernel
theorem dX3_append_15 : decode cX3_append 15 = .ok (.arraylength, 1) := by decide +kernel
theorem dX3_append_16 : decode cX3_append 16 = .ok (.if_icmp .lt 5, 3) := by decide +kernel
theorem dX3_append_19 : decode cX3_append 19 = .ok (.iconst 0, 1) := by decide +kernel
theorem dX3_append_20 : decode cX3_append 20 = .ok (.ireturn, 1) := by decide +kernel
theorem dX3_append_21 : decode cX3_append 21 = .ok (.aload_n 0, 1) := by decide +kernel
theorem dX3_append_22 : decode cX3_append 22 = .ok (.getfield 9, 3) := by decide +kernel
theorem dX3_append_25 : decode cX3_append 25 = .ok (.aload_n 0, 1) := by decide +kernel
theorem dX3_append_26 : decode cX3_append 26 = .ok (.getfield 15, 3) := by decide +kernel
theorem dX3_append_29 : decode cX3_append 29 = .ok (.iload_n 1, 1) := by decide +kernel
theorem dX3_append_30 : decode cX3_append 30 = .ok (.iastore, 1) := by decide +kernel
theorem dX3_append_31 : decode cX3_append 31 = .ok (.aload_n 0, 1) := by decide +kernel
theorem dX3_append_32 : decode cX3_append 32 = .ok (.dup, 1) := by decide +kernel
theorem dX3_append_33 : decode cX3_append 33 = .ok (.getfield 15, 3) := by decide +kernel
theorem dX3_append_36 : decode cX3_append 36 = .ok (.iconst 1, 1) := by decide +kernel
theorem dX3_append_37 : decode cX3_append 37 = .ok (.iadd, 1) := by decide +kernel
theorem dX3_append_38 : decode cX3_append 38 = .ok (.putfield 15, 3) := by decide +kernel
theorem dX3_append_41 : decode cX3_append 41 = .ok (.iconst 1, 1) := by decide +kernel
theorem dX3_append_42 : decode cX3_append 42 = .ok (.ireturn, 1) := by decide +kernel
theorem dX3_letterAt_0 : decode cX3_letterAt 0 = .ok (.iload_n 1, 1) := by decide +kernel
theorem dX3_letterAt_1 : decode cX3_letterAt 1 = .ok (.ifCond .lt 20, 3) := by decide +kernel
theorem dX3_letterAt_4 : decode cX3_letterAt 4 = .ok (.iload_n 1, 1) := by decide +kernel
theorem dX3_letterAt_5 : decode cX3_letterAt 5 = .ok (.aload_n 0, 1) := by decide +kernel
theorem dX3_letterAt_6 : decode cX3_letterAt 6 = .ok (.getfield 15, 3) := by decide +kernel
theorem dX3_letterAt_9 : decode cX3_letterAt 9 = .ok (.if_icmp .ge 12, 3) := by decide +kernel
theorem dX3_letterAt_12 : decode cX3_letterAt 12 = .ok (.iload_n 1, 1) := by decide +kernel
theorem dX3_letterAt_13 : decode cX3_letterAt 13 = .ok (.aload_n 0, 1) := by decide +kernel
theorem dX3_letterAt_14 : decode cX3_letterAt 14 = .ok (.getfield 9, 3) := by decide +kernel
theorem dX3_letterAt_17 : decode cX3_letterAt 17 = .ok (.arraylength, 1) := by decide +kernel
theorem dX3_letterAt_18 : decode cX3_letterAt 18 = .ok (.if_icmp .lt 7, 3) := by decide +kernel
theorem dX3_letterAt_21 : decode cX3_letterAt 21 = .ok (.iconst (-1), 1) := by decide +kernel
theorem dX3_letterAt_22 : decode cX3_letterAt 22 = .ok (.goto 9, 3) := by decide +kernel
theorem dX3_letterAt_25 : decode cX3_letterAt 25 = .ok (.aload_n 0, 1) := by decide +kernel
theorem dX3_letterAt_26 : decode cX3_letterAt 26 = .ok (.getfield 9, 3) := by decide +kernel
theorem dX3_letterAt_29 : decode cX3_letterAt 29 = .ok (.iload_n 1, 1) := by decide +kernel
theorem dX3_letterAt_30 : decode cX3_letterAt 30 = .ok (.iaload, 1) := by decide +kernel
theorem dX3_letterAt_31 : decode cX3_letterAt 31 = .ok (.ireturn, 1) := by decide +kernel
theorem dX3_isDigit_0 : decode cX3_isDigit 0 = .ok (.aload_n 0, 1) := by decide +kernel
theorem dX3_isDigit_1 : decode cX3_isDigit 1 = .ok (.iload_n 1, 1) := by decide +kernel
theorem dX3_isDigit_2 : decode cX3_isDigit 2 = .ok (.invokevirtual 19, 3) := by decide +kernel
theorem dX3_isDigit_5 : decode cX3_isDigit 5 = .ok (.istore_n 2, 1) := by decide +kernel
theorem dX3_isDigit_6 : decode cX3_isDigit 6 = .ok (.iload_n 2, 1) := by decide +kernel
theorem dX3_isDigit_7 : decode cX3_isDigit 7 = .ok (.bipush 48, 2) := by decide +kernel
theorem dX3_isDigit_9 : decode cX3_isDigit 9 = .ok (.if_icmp .lt 13, 3) := by decide +kernel
theorem dX3_isDigit_12 : decode cX3_isDigit 12 = .ok (.iload_n 2, 1) := by decide +kernel
theorem dX3_isDigit_13 : decode cX3_isDigit 13 = .ok (.bipush 57, 2) := by decide +kernel
theorem dX3_isDigit_15 : decode cX3_isDigit 15 = .ok (.if_icmp .gt 7, 3) := by decide +kernel
theorem dX3_isDigit_18 : decode cX3_isDigit 18 = .ok (.iconst 1, 1) := by decide +kernel
theorem dX3_isDigit_19 : decode cX3_isDigit 19 = .ok (.goto 4, 3) := by decide +kernel
theorem dX3_isDigit_22 : decode cX3_isDigit 22 = .ok (.iconst 0, 1) := by decide +kernel
theorem dX3_isDigit_23 : decode cX3_isDigit 23 = .ok (.ireturn, 1) := by decide +kernel
theorem dX3_digitAt_0 : decode cX3_digitAt 0 = .ok (.aload_n 0, 1) := by decide +kernel
theorem dX3_digitAt_1 : decode cX3_digitAt 1 = .ok (.iload_n 1, 1) := by decide +kernel
theorem dX3_digitAt_2 : decode cX3_digitAt 2 = .ok (.invokevirtual 19, 3) := by decide +kernel
theorem dX3_digitAt_5 : decode cX3_digitAt 5 = .ok (.bipush 48, 2) := by decide +kernel
theorem dX3_digitAt_7 : decode cX3_digitAt 7 = .ok (.isub, 1) := by decide +kernel
theorem dX3_digitAt_8 : decode cX3_digitAt 8 = .ok (.ireturn, 1) := by decide +kernel
theorem dX3_pairAt_0 : decode cX3_pairAt 0 = .ok (.bipush 10, 2) := by decide +kernel
theorem dX3_pairAt_2 : decode cX3_pairAt 2 = .ok (.aload_n 0, 1) := by decide +kernel
theorem dX3_pairAt_3 : decode cX3_pairAt 3 = .ok (.iload_n 1, 1) := by decide +kernel
theorem dX3_pairAt_4 : decode cX3_pairAt 4 = .ok (.invokevirtual 23, 3) := by decide +kernel
theorem dX3_pairAt_7 : decode cX3_pairAt 7 = .ok (.imul, 1) := by decide +kernel
theorem dX3_pairAt_8 : decode cX3_pairAt 8 = .ok (.aload_n 0, 1) := by decide +kernel
theorem dX3_pairAt_9 : decode cX3_pairAt 9 = .ok (.iload_n 1, 1) := by decide +kernel
theorem dX3_pairAt_10 : decode cX3_pairAt 10 = .ok (.iconst 1, 1) := by decide +kernel
theorem dX3_pairAt_11 : decode cX3_pairAt 11 = .ok (.iadd, 1) := by decide +kernel
theorem dX3_pairAt_12 : decode cX3_pairAt 12 = .ok (.invokevirtual 23, 3) := by decide +kernel
theorem dX3_pairAt_15 : decode cX3_pairAt 15 = .ok (.iadd, 1) := by decide +kernel
theorem dX3_pairAt_16 : decode cX3_pairAt 16 = .ok (.ireturn, 1) := by decide +kernel
theorem dX3_isWay_0 : decode cX3_isWay 0 = .ok (.aload_n 0, 1) := by decide +kernel
theorem dX3_isWay_1 : decode cX3_isWay 1 = .ok (.iload_n 1, 1) := by decide +kernel
theorem dX3_isWay_2 : decode cX3_isWay 2 = .ok (.invokevirtual 19, 3) := by decide +kernel
theorem dX3_isWay_5 : decode cX3_isWay 5 = .ok (.istore_n 2, 1) := by decide +kernel
theorem dX3_isWay_6 : decode cX3_isWay 6 = .ok (.iload_n 2, 1) := by decide +kernel
theorem dX3_isWay_7 : decode cX3_isWay 7 = .ok (.bipush 110, 2) := by decide +kernel
theorem dX3_isWay_9 : decode cX3_isWay 9 = .ok (.if_icmp .eq 21, 3) := by decide +kernel
theorem dX3_isWay_12 : decode cX3_isWay 12 = .ok (.iload_n 2, 1) := by decide +kernel
theorem dX3_isWay_13 : decode cX3_isWay 13 = .ok (.bipush 101, 2) := by decide +kernel
theorem dX3_isWay_15 : decode cX3_isWay 15 = .ok (.if_icmp .eq 15, 3) := by decide +kernel
theorem dX3_isWay_18 : decode cX3_isWay 18 = .ok (.iload_n 2, 1) := by decide +kernel
theorem dX3_isWay_19 : decode cX3_isWay 19 = .ok (.bipush 115, 2) := by decide +kernel
theorem dX3_isWay_21 : decode cX3_isWay 21 = .ok (.if_icmp .eq 9, 3) := by decide +kernel
theorem dX3_isWay_24 : decode cX3_isWay 24 = .ok (.iload_n 2, 1) := by decide +kernel
theorem dX3_isWay_25 : decode cX3_isWay 25 = .ok (.bipush 119, 2) := by decide +kernel
theorem dX3_isWay_27 : decode cX3_isWay 27 = .ok (.if_icmp .ne 7, 3) := by decide +kernel
theorem dX3_isWay_30 : decode cX3_isWay 30 = .ok (.iconst 1, 1) := by decide +kernel
theorem dX3_isWay_31 : decode cX3_isWay 31 = .ok (.goto 4, 3) := by decide +kernel
theorem dX3_isWay_34 : decode cX3_isWay 34 = .ok (.iconst 0, 1) := by decide +kernel
theorem dX3_isWay_35 : decode cX3_isWay 35 = .ok (.ireturn, 1) := by decide +kernel
theorem dX3_waysFrom_0 : decode cX3_waysFrom 0 = .ok (.iconst 0, 1) := by decide +kernel
theorem dX3_waysFrom_1 : decode cX3_waysFrom 1 = .ok (.istore_n 2, 1) := by decide +kernel
theorem dX3_waysFrom_2 : decode cX3_waysFrom 2 = .ok (.iload_n 2, 1) := by decide +kernel
theorem dX3_waysFrom_3 : decode cX3_waysFrom 3 = .ok (.bipush 9, 2) := by decide +kernel
theorem dX3_waysFrom_5 : decode cX3_waysFrom 5 = .ok (.if_icmp .ge 19, 3) := by decide +kernel
theorem dX3_waysFrom_8 : decode cX3_waysFrom 8 = .ok (.aload_n 0, 1) := by decide +kernel
theorem dX3_waysFrom_9 : decode cX3_waysFrom 9 = .ok (.iload_n 1, 1) := by decide +kernel
theorem dX3_waysFrom_10 : decode cX3_waysFrom 10 = .ok (.iload_n 2, 1) := by decide +kernel
theorem dX3_waysFrom_11 : decode cX3_waysFrom 11 = .ok (.iadd, 1) := by decide +kernel
theorem dX3_waysFrom_12 : decode cX3_waysFrom 12 = .ok (.invokevirtual 26, 3) := by decide +kernel
theorem dX3_waysFrom_15 : decode cX3_waysFrom 15 = .ok (.ifCond .eq 9, 3) := by decide +kernel
theorem dX3_waysFrom_18 : decode cX3_waysFrom 18 = .ok (.iinc 2 1, 3) := by decide +kernel
theorem dX3_waysFrom_21 : decode cX3_waysFrom 21 = .ok (.goto (-19), 3) := by decide +kernel
theorem dX3_waysFrom_24 : decode cX3_waysFrom 24 = .ok (.iload_n 2, 1) := by decide +kernel
theorem dX3_waysFrom_25 : decode cX3_waysFrom 25 = .ok (.ireturn, 1) := by decide +kernel
theorem dX3_digitsOf_0 : decode cX3_digitsOf 0 = .ok (.iload_n 0, 1) := by decide +kernel
theorem dX3_digitsOf_1 : decode cX3_digitsOf 1 = .ok (.lookupswitch 42 #[(99, 35), (114, 37), (116, 40)], 35) := by decide +kernel
theorem dX3_digitsOf_36 : decode cX3_digitsOf 36 = .ok (.iconst 2, 1) := by decide +kernel
theorem dX3_digitsOf_37 : decode cX3_digitsOf 37 = .ok (.ireturn, 1) := by decide +kernel
theorem dX3_digitsOf_38 : decode cX3_digitsOf 38 = .ok (.bipush 6, 2) := by decide +kernel
theorem dX3_digitsOf_40 : decode cX3_digitsOf 40 = .ok (.ireturn, 1) := by decide +kernel
theorem dX3_digitsOf_41 : decode cX3_digitsOf 41 = .ok (.iconst 1, 1) := by decide +kernel
theorem dX3_digitsOf_42 : decode cX3_digitsOf 42 = .ok (.ireturn, 1) := by decide +kernel
theorem dX3_digitsOf_43 : decode cX3_digitsOf 43 = .ok (.iconst (-1), 1) := by decide +kernel
theorem dX3_digitsOf_44 : decode cX3_digitsOf 44 = .ok (.ireturn, 1) := by decide +kernel
theorem dX3_behindStatement_0 : decode cX3_behindStatement 0 = .ok (.aload_n 0, 1) := by decide +kernel
theorem dX3_behindStatement_1 : decode cX3_behindStatement 1 = .ok (.iload_n 1, 1) := by decide +kernel
theorem dX3_behindStatement_2 : decode cX3_behindStatement 2 = .ok (.invokevirtual 19, 3) := by decide +kernel
theorem dX3_behindStatement_5 : decode cX3_behindStatement 5 = .ok (.invokestatic 30, 3) := by decide +kernel
theorem dX3_behindStatement_8 : decode cX3_behindStatement 8 = .ok (.istore_n 2, 1) := by decide +kernel
theorem dX3_behindStatement_9 : decode cX3_behindStatement 9 = .ok (.iload_n 2, 1) := by decide +kernel
theorem dX3_behindStatement_10 : decode cX3_behindStatement 10 = .ok (.ifCond .ge 7, 3) := by decide +kernel
theorem dX3_behindStatement_13 : decode cX3_behindStatement 13 = .ok (.iconst (-1), 1) := by decide +kernel
theorem dX3_behindStatement_14 : decode cX3_behindStatement 14 = .ok (.iload_n 1, 1) := by decide +kernel
theorem dX3_behindStatement_15 : decode cX3_behindStatement 15 = .ok (.isub, 1) := by decide +kernel
theorem dX3_behindStatement_16 : decode cX3_behindStatement 16 = .ok (.ireturn, 1) := by decide +kernel
theorem dX3_behindStatement_17 : decode cX3_behindStatement 17 = .ok (.iload_n 1, 1) := by decide +kernel
theorem dX3_behindStatement_18 : decode cX3_behindStatement 18 = .ok (.iconst 1, 1) := by decide +kernel
theorem dX3_behindStatement_19 : decode cX3_behindStatement 19 = .ok (.iadd, 1) := by decide +kernel
theorem dX3_behindStatement_20 : decode cX3_behindStatement 20 = .ok (.istore_n 3, 1) := by decide +kernel
theorem dX3_behindStatement_21 : decode cX3_behindStatement 21 = .ok (.iconst 0, 1) := by decide +kernel
theorem dX3_behindStatement_22 : decode cX3_behindStatement 22 = .ok (.istore 4, 2) := by decide +kernel
theorem dX3_behindStatement_24 : decode cX3_behindStatement 24 = .ok (.iload 4, 2) := by decide +kernel
theorem dX3_behindStatement_26 : decode cX3_behindStatement 26 = .ok (.iload_n 2, 1) := by decide +kernel
theorem dX3_behindStatement_27 : decode cX3_behindStatement 27 = .ok (.if_icmp .ge 24, 3) := by decide +kernel
theorem dX3_behindStatement_30 : decode cX3_behindStatement 30 = .ok (.aload_n 0, 1) := by decide +kernel
theorem dX3_behindStatement_31 : decode cX3_behindStatement 31 = .ok (.iload_n 3, 1) := by decide +kernel
theorem dX3_behindStatement_32 : decode cX3_behindStatement 32 = .ok (.invokevirtual 33, 3) := by decide +kernel
theorem dX3_behindStatement_35 : decode cX3_behindStatement 35 = .ok (.ifCond .ne 7, 3) := by decide +kernel
theorem dX3_behindStatement_38 : decode cX3_behindStatement 38 = .ok (.iconst (-1), 1) := by decide +kernel
theorem dX3_behindStatement_39 : decode cX3_behindStatement 39 = .ok (.iload_n 3, 1) := by decide +kernel
theorem dX3_behindStatement_40 : decode cX3_behindStatement 40 = .ok (.isub, 1) := by decide +kernel
theorem dX3_behindStatement_41 : decode cX3_behindStatement 41 = .ok (.ireturn, 1) := by decide +kernel
theorem dX3_behindStatement_42 : decode cX3_behindStatement 42 = .ok (.iinc 3 1, 3) := by decide +kernel
theorem dX3_behindStatement_45 : decode cX3_behindStatement 45 = .ok (.iinc 4 1, 3) := by decide +kernel
theorem dX3_behindStatement_48 : decode cX3_behindStatement 48 = .ok (.goto (-24), 3) := by decide +kernel
theorem dX3_behindStatement_51 : decode cX3_behindStatement 51 = .ok (.aload_n 0, 1) := by decide +kernel
theorem dX3_behindStatement_52 : decode cX3_behindStatement 52 = .ok (.iload_n 1, 1) := by decide +kernel
theorem dX3_behindStatement_53 : decode cX3_behindStatement 53 = .ok (.invokevirtual 19, 3) := by decide +kernel
theorem dX3_behindStatement_56 : decode cX3_behindStatement 56 = .ok (.bipush 99, 2) := by decide +kernel
theorem dX3_behindStatement_58 : decode cX3_behindStatement 58 = .ok (.if_icmp .ne 24, 3) := by decide +kernel
theorem dX3_behindStatement_61 : decode cX3_behindStatement 61 = .ok (.aload_n 0, 1) := by decide +kernel
theorem dX3_behindStatement_62 : decode cX3_behindStatement 62 = .ok (.iload_n 3, 1) := by decide +kernel
theorem dX3_behindStatement_63 : decode cX3_behindStatement 63 = .ok (.invokevirtual 36, 3) := by decide +kernel
theorem dX3_behindStatement_66 : decode cX3_behindStatement 66 = .ok (.istore 4, 2) := by decide +kernel
theorem dX3_behindStatement_68 : decode cX3_behindStatement 68 = .ok (.iload 4, 2) := by decide +kernel
theorem dX3_behindStatement_70 : decode cX3_behindStatement 70 = .ok (.ifCond .ne 7, 3) := by decide +kernel
theorem dX3_behindStatement_73 : decode cX3_behindStatement 73 = .ok (.iconst (-1), 1) := by decide +kernel
theorem dX3_behindStatement_74 : decode cX3_behindStatement 74 = .ok (.iload_n 3, 1) := by decide +kernel
theorem dX3_behindStatement_75 : decode cX3_behindStatement 75 = .ok (.isub, 1) := by decide +kernel
theorem dX3_behindStatement_76 : decode cX3_behindStatement 76 = .ok (.ireturn, 1) := by decide +kernel
theorem dX3_behindStatement_77 : decode cX3_behindStatement 77 = .ok (.iload_n 3, 1) := by decide +kernel
theorem dX3_behindStatement_78 : decode cX3_behindStatement 78 = .ok (.iload 4, 2) := by decide +kernel
theorem dX3_behindStatement_80 : decode cX3_behindStatement 80 = .ok (.iadd, 1) := by decide +kernel
theorem dX3_behindStatement_81 : decode cX3_behindStatement 81 = .ok (.istore_n 3, 1) := by decide +kernel
theorem dX3_behindStatement_82 : decode cX3_behindStatement 82 = .ok (.aload_n 0, 1) := by decide +kernel
theorem dX3_behindStatement_83 : decode cX3_behindStatement 83 = .ok (.iload_n 3, 1) := by decide +kernel
theorem dX3_behindStatement_84 : decode cX3_behindStatement 84 = .ok (.invokevirtual 19, 3) := by decide +kernel
theorem dX3_behindStatement_87 : decode cX3_behindStatement 87 = .ok (.bipush 59, 2) := by decide +kernel
theorem dX3_behindStatement_89 : decode cX3_behindStatement 89 = .ok (.if_icmp .ne 9, 3) := by decide +kernel
theorem dX3_behindStatement_92 : decode cX3_behindStatement 92 = .ok (.iload_n 3, 1) := by decide +kernel
theorem dX3_behindStatement_93 : decode cX3_behindStatement 93 = .ok (.iconst 1, 1) := by decide +kernel
theorem dX3_behindStatement_94 : decode cX3_behindStatement 94 = .ok (.iadd, 1) := by decide +kernel
theorem dX3_behindStatement_95 : decode cX3_behindStatement 95 = .ok (.goto 6, 3) := by decide +kernel
theorem dX3_behindStatement_98 : decode cX3_behindStatement 98 = .ok (.iconst (-1), 1) := by decide +kernel
theorem dX3_behindStatement_99 : decode cX3_behindStatement 99 = .ok (.iload_n 3, 1) := by decide +kernel
theorem dX3_behindStatement_100 : decode cX3_behindStatement 100 = .ok (.isub, 1) := by decide +kernel
theorem dX3_behindStatement_101 : decode cX3_behindStatement 101 = .ok (.ireturn, 1) := by decide +kernel
theorem dX3_wrongLetter_0 : decode cX3_wrongLetter 0 = .ok (.iconst 0, 1) := by decide +kernel
theorem dX3_wrongLetter_1 : decode cX3_wrongLetter 1 = .ok (.istore_n 1, 1) := by decide +kernel
theorem dX3_wrongLetter_2 : decode cX3_wrongLetter 2 = .ok (.iconst 0, 1) := by decide +kernel
theorem dX3_wrongLetter_3 : decode cX3_wrongLetter 3 = .ok (.istore_n 2, 1) := by decide +kernel
theorem dX3_wrongLetter_4 : decode cX3_wrongLetter 4 = .ok (.iload_n 2, 1) := by decide +kernel
theorem dX3_wrongLetter_5 : decode cX3_wrongLetter 5 = .ok (.bipush 80, 2) := by decide +kernel
theorem dX3_wrongLetter_7 : decode cX3_wrongLetter 7 = .ok (.if_icmp .ge 37, 3) := by decide +kernel
theorem dX3_wrongLetter_10 : decode cX3_wrongLetter 10 = .ok (.iload_n 2, 1) := by decide +kernel
theorem dX3_wrongLetter_11 : decode cX3_wrongLetter 11 = .ok (.ifCond .eq 11, 3) := by decide +kernel
theorem dX3_wrongLetter_14 : decode cX3_wrongLetter 14 = .ok (.iload_n 1, 1) := by decide +kernel
theorem dX3_wrongLetter_15 : decode cX3_wrongLetter 15 = .ok (.aload_n 0, 1) := by decide +kernel
theorem dX3_wrongLetter_16 : decode cX3_wrongLetter 16 = .ok (.getfield 15, 3) := by decide +kernel
theorem dX3_wrongLetter_19 : decode cX3_wrongLetter 19 = .ok (.if_icmp .ge 25, 3) := by decide +kernel
theorem dX3_wrongLetter_22 : decode cX3_wrongLetter 22 = .ok (.aload_n 0, 1) := by decide +kernel
theorem dX3_wrongLetter_23 : decode cX3_wrongLetter 23 = .ok (.iload_n 1, 1) := by decide +kernel
theorem dX3_wrongLetter_24 : decode cX3_wrongLetter 24 = .ok (.invokevirtual 39, 3) := by decide +kernel
theorem dX3_wrongLetter_27 : decode cX3_wrongLetter 27 = .ok (.istore_n 3, 1) := by decide +kernel
theorem dX3_wrongLetter_28 : decode cX3_wrongLetter 28 = .ok (.iload_n 3, 1) := by decide +kernel
theorem dX3_wrongLetter_29 : decode cX3_wrongLetter 29 = .ok (.ifCond .ge 7, 3) := by decide +kernel
theorem dX3_wrongLetter_32 : decode cX3_wrongLetter 32 = .ok (.iconst (-1), 1) := by decide +kernel
theorem dX3_wrongLetter_33 : decode cX3_wrongLetter 33 = .ok (.iload_n 3, 1) := by decide +kernel
theorem dX3_wrongLetter_34 : decode cX3_wrongLetter 34 = .ok (.isub, 1) := by decide +kernel
theorem dX3_wrongLetter_35 : decode cX3_wrongLetter 35 = .ok (.ireturn, 1) := by decide +kernel
theorem dX3_wrongLetter_36 : decode cX3_wrongLetter 36 = .ok (.iload_n 3, 1) := by decide +kernel
theorem dX3_wrongLetter_37 : decode cX3_wrongLetter 37 = .ok (.istore_n 1, 1) := by decide +kernel
theorem dX3_wrongLetter_38 : decode cX3_wrongLetter 38 = .ok (.iinc 2 1, 3) := by decide +kernel
theorem dX3_wrongLetter_41 : decode cX3_wrongLetter 41 = .ok (.goto (-37), 3) := by decide +kernel
theorem dX3_wrongLetter_44 : decode cX3_wrongLetter 44 = .ok (.iconst (-1), 1) := by decide +kernel
theorem dX3_wrongLetter_45 : decode cX3_wrongLetter 45 = .ok (.ireturn, 1) := by decide +kernel
theorem dX3_tell_0 : decode cX3_tell 0 = .ok (.aload_n 0, 1) := by decide +kernel
theorem dX3_tell_1 : decode cX3_tell 1 = .ok (.iload_n 2, 1) := by decide +kernel
theorem dX3_tell_2 : decode cX3_tell 2 = .ok (.invokevirtual 19, 3) := by decide +kernel
theorem dX3_tell_5 : decode cX3_tell 5 = .ok (.lookupswitch 130 #[(99, 27), (114, 93)], 27) := by decide +kernel
theorem dX3_tell_32 : decode cX3_tell 32 = .ok (.aload_n 0, 1) := by decide +kernel
theorem dX3_tell_33 : decode cX3_tell 33 = .ok (.iload_n 2, 1) := by decide +kernel
theorem dX3_tell_34 : decode cX3_tell 34 = .ok (.iconst 3, 1) := by decide +kernel
theorem dX3_tell_35 : decode cX3_tell 35 = .ok (.iadd, 1) := by decide +kernel
theorem dX3_tell_36 : decode cX3_tell 36 = .ok (.invokevirtual 36, 3) := by decide +kernel
theorem dX3_tell_39 : decode cX3_tell 39 = .ok (.istore_n 3, 1) := by decide +kernel
theorem dX3_tell_40 : decode cX3_tell 40 = .ok (.aload_n 1, 1) := by decide +kernel
theorem dX3_tell_41 : decode cX3_tell 41 = .ok (.aload_n 0, 1) := by decide +kernel
theorem dX3_tell_42 : decode cX3_tell 42 = .ok (.iload_n 2, 1) := by decide +kernel
theorem dX3_tell_43 : decode cX3_tell 43 = .ok (.iconst 1, 1) := by decide +kernel
theorem dX3_tell_44 : decode cX3_tell 44 = .ok (.iadd, 1) := by decide +kernel
theorem dX3_tell_45 : decode cX3_tell 45 = .ok (.invokevirtual 23, 3) := by decide +kernel
theorem dX3_tell_48 : decode cX3_tell 48 = .ok (.aload_n 0, 1) := by decide +kernel
theorem dX3_tell_49 : decode cX3_tell 49 = .ok (.iload_n 2, 1) := by decide +kernel
theorem dX3_tell_50 : decode cX3_tell 50 = .ok (.iconst 2, 1) := by decide +kernel
theorem dX3_tell_51 : decode cX3_tell 51 = .ok (.iadd, 1) := by decide +kernel
theorem dX3_tell_52 : decode cX3_tell 52 = .ok (.invokevirtual 23, 3) := by decide +kernel
theorem dX3_tell_55 : decode cX3_tell 55 = .ok (.iload_n 3, 1) := by decide +kernel
theorem dX3_tell_56 : decode cX3_tell 56 = .ok (.invokevirtual 42, 3) := by decide +kernel
theorem dX3_tell_59 : decode cX3_tell 59 = .ok (.istore 4, 2) := by decide +kernel
theorem dX3_tell_61 : decode cX3_tell 61 = .ok (.iconst 0, 1) := by decide +kernel
theorem dX3_tell_62 : decode cX3_tell 62 = .ok (.istore 5, 2) := by decide +kernel
theorem dX3_tell_64 : decode cX3_tell 64 = .ok (.iload 4, 2) := by decide +kernel
theorem dX3_tell_66 : decode cX3_tell 66 = .ok (.ifCond .eq 29, 3) := by decide +kernel
theorem dX3_tell_69 : decode cX3_tell 69 = .ok (.iload 5, 2) := by decide +kernel
theorem dX3_tell_71 : decode cX3_tell 71 = .ok (.iload_n 3, 1) := by decide +kernel
theorem dX3_tell_72 : decode cX3_tell 72 = .ok (.if_icmp .ge 23, 3) := by decide +kernel
theorem dX3_tell_75 : decode cX3_tell 75 = .ok (.aload_n 1, 1) := by decide +kernel
theorem dX3_tell_76 : decode cX3_tell 76 = .ok (.aload_n 0, 1) := by decide +kernel
theorem dX3_tell_77 : decode cX3_tell 77 = .ok (.iload_n 2, 1) := by decide +kernel
theorem dX3_tell_78 : decode cX3_tell 78 = .ok (.iconst 3, 1) := by decide +kernel
theorem dX3_tell_79 : decode cX3_tell 79 = .ok (.iadd, 1) := by decide +kernel
theorem dX3_tell_80 : decode cX3_tell 80 = .ok (.iload 5, 2) := by decide +kernel
theorem dX3_tell_82 : decode cX3_tell 82 = .ok (.iadd, 1) := by decide +kernel
theorem dX3_tell_83 : decode cX3_tell 83 = .ok (.invokevirtual 19, 3) := by decide +kernel
theorem dX3_tell_86 : decode cX3_tell 86 = .ok (.invokevirtual 48, 3) := by decide +kernel
theorem dX3_tell_89 : decode cX3_tell 89 = .ok (.iinc 5 1, 3) := by decide +kernel
theorem dX3_tell_92 : decode cX3_tell 92 = .ok (.goto (-28), 3) := by decide +kernel
theorem dX3_tell_95 : decode cX3_tell 95 = .ok (.iload 4, 2) := by decide +kernel
theorem dX3_tell_97 : decode cX3_tell 97 = .ok (.ireturn, 1) := by decide +kernel
theorem dX3_tell_98 : decode cX3_tell 98 = .ok (.aload_n 1, 1) := by decide +kernel
theorem dX3_tell_99 : decode cX3_tell 99 = .ok (.getfield 52, 3) := by decide +kernel
theorem dX3_tell_102 : decode cX3_tell 102 = .ok (.aload_n 0, 1) := by decide +kernel
theorem dX3_tell_103 : decode cX3_tell 103 = .ok (.iload_n 2, 1) := by decide +kernel
theorem dX3_tell_104 : decode cX3_tell 104 = .ok (.iconst 1, 1) := by decide +kernel
theorem dX3_tell_105 : decode cX3_tell 105 = .ok (.iadd, 1) := by decide +kernel
theorem dX3_tell_106 : decode cX3_tell 106 = .ok (.invokevirtual 56, 3) := by decide +kernel
theorem dX3_tell_109 : decode cX3_tell 109 = .ok (.aload_n 0, 1) := by decide +kernel
theorem dX3_tell_110 : decode cX3_tell 110 = .ok (.iload_n 2, 1) := by decide +kernel
theorem dX3_tell_111 : decode cX3_tell 111 = .ok (.iconst 3, 1) := by decide +kernel
theorem dX3_tell_112 : decode cX3_tell 112 = .ok (.iadd, 1) := by decide +kernel
theorem dX3_tell_113 : decode cX3_tell 113 = .ok (.invokevirtual 56, 3) := by decide +kernel
theorem dX3_tell_116 : decode cX3_tell 116 = .ok (.aload_n 0, 1) := by decide +kernel
theorem dX3_tell_117 : decode cX3_tell 117 = .ok (.iload_n 2, 1) := by decide +kernel
theorem dX3_tell_118 : decode cX3_tell 118 = .ok (.iconst 5, 1) := by decide +kernel
theorem dX3_tell_119 : decode cX3_tell 119 = .ok (.iadd, 1) := by decide +kernel
theorem dX3_tell_120 : decode cX3_tell 120 = .ok (.invokevirtual 23, 3) := by decide +kernel
theorem dX3_tell_123 : decode cX3_tell 123 = .ok (.aload_n 0, 1) := by decide +kernel
theorem dX3_tell_124 : decode cX3_tell 124 = .ok (.iload_n 2, 1) := by decide +kernel
theorem dX3_tell_125 : decode cX3_tell 125 = .ok (.bipush 6, 2) := by decide +kernel
theorem dX3_tell_127 : decode cX3_tell 127 = .ok (.iadd, 1) := by decide +kernel
theorem dX3_tell_128 : decode cX3_tell 128 = .ok (.invokevirtual 23, 3) := by decide +kernel
theorem dX3_tell_131 : decode cX3_tell 131 = .ok (.invokevirtual 59, 3) := by decide +kernel
theorem dX3_tell_134 : decode cX3_tell 134 = .ok (.ireturn, 1) := by decide +kernel
theorem dX3_tell_135 : decode cX3_tell 135 = .ok (.aload_n 1, 1) := by decide +kernel
theorem dX3_tell_136 : decode cX3_tell 136 = .ok (.aload_n 0, 1) := by decide +kernel
theorem dX3_tell_137 : decode cX3_tell 137 = .ok (.iload_n 2, 1) := by decide +kernel
theorem dX3_tell_138 : decode cX3_tell 138 = .ok (.iconst 1, 1) := by decide +kernel
theorem dX3_tell_139 : decode cX3_tell 139 = .ok (.iadd, 1) := by decide +kernel
theorem dX3_tell_140 : decode cX3_tell 140 = .ok (.invokevirtual 23, 3) := by decide +kernel
theorem dX3_tell_143 : decode cX3_tell 143 = .ok (.putfield 65, 3) := by decide +kernel
theorem dX3_tell_146 : decode cX3_tell 146 = .ok (.iconst 1, 1) := by decide +kernel
theorem dX3_tell_147 : decode cX3_tell 147 = .ok (.ireturn, 1) := by decide +kernel
theorem dX4_init_0 : decode cX4_init 0 = .ok (.aload_n 0, 1) := by decide +kernel
theorem dX4_init_1 : decode cX4_init 1 = .ok (.iload_n 1, 1) := by decide +kernel
theorem dX4_init_2 : decode cX4_init 2 = .ok (.iload_n 2, 1) := by decide +kernel
theorem dX4_init_3 : decode cX4_init 3 = .ok (.iload_n 3, 1) := by decide +kernel
theorem dX4_init_4 : decode cX4_init 4 = .ok (.invokespecial 1, 3) := by decide +kernel
theorem dX4_init_7 : decode cX4_init 7 = .ok (.return_, 1) := by decide +kernel
theorem dX4_kind_0 : decode cX4_kind 0 = .ok (.iconst 4, 1) := by decide +kernel
theorem dX4_kind_1 : decode cX4_kind 1 = .ok (.ireturn, 1) := by decide +kernel
theorem dX4_isDry_0 : decode cX4_isDry 0 = .ok (.aload_n 0, 1) := by decide +kernel
theorem dX4_isDry_1 : decode cX4_isDry 1 = .ok (.iload_n 1, 1) := by decide +kernel
theorem dX4_isDry_2 : decode cX4_isDry 2 = .ok (.invokespecial 7, 3) := by decide +kernel
theorem dX4_isDry_5 : decode cX4_isDry 5 = .ok (.ifCond .eq 13, 3) := by decide +kernel
theorem dX4_isDry_8 : decode cX4_isDry 8 = .ok (.iload_n 1, 1) := by decide +kernel
theorem dX4_isDry_9 : decode cX4_isDry 9 = .ok (.iconst 1, 1) := by decide +kernel
theorem dX4_isDry_10 : decode cX4_isDry 10 = .ok (.iand, 1) := by decide +kernel
theorem dX4_isDry_11 : decode cX4_isDry 11 = .ok (.ifCond .ne 7, 3) := by decide +kernel
theorem dX4_isDry_14 : decode cX4_isDry 14 = .ok (.iconst 1, 1) := by decide +kernel
theorem dX4_isDry_15 : decode cX4_isDry 15 = .ok (.goto 4, 3) := by decide +kernel
theorem dX4_isDry_18 : decode cX4_isDry 18 = .ok (.iconst 0, 1) := by decide +kernel
theorem dX4_isDry_19 : decode cX4_isDry 19 = .ok (.ireturn, 1) := by decide +kernel
theorem dX4_fee_0 : decode cX4_fee 0 = .ok (.iconst 2, 1) := by decide +kernel
theorem dX4_fee_1 : decode cX4_fee 1 = .ok (.aload_n 0, 1) := by decide +kernel
theorem dX4_fee_2 : decode cX4_fee 2 = .ok (.invokespecial 11, 3) := by decide +kernel
theorem dX4_fee_5 : decode cX4_fee 5 = .ok (.imul, 1) := by decide +kernel
theorem dX4_fee_6 : decode cX4_fee 6 = .ok (.ireturn, 1) := by decide +kernel
theorem dX5_init_0 : decode cX5_init 0 = .ok (.aload_n 0, 1) := by decide +kernel
theorem dX5_init_1 : decode cX5_init 1 = .ok (.iload_n 1, 1) := by decide +kernel
theorem dX5_init_2 : decode cX5_init 2 = .ok (.iload_n 2, 1) := by decide +kernel
theorem dX5_init_3 : decode cX5_init 3 = .ok (.iload_n 3, 1) := by decide +kernel
theorem dX5_init_4 : decode cX5_init 4 = .ok (.invokespecial 1, 3) := by decide +kernel
theorem dX5_init_7 : decode cX5_init 7 = .ok (.return_, 1) := by decide +kernel
theorem dX5_kind_0 : decode cX5_kind 0 = .ok (.iconst 2, 1) := by decide +kernel
theorem dX5_kind_1 : decode cX5_kind 1 = .ok (.ireturn, 1) := by decide +kernel
theorem dX5_isDry_0 : decode cX5_isDry 0 = .ok (.iconst 0, 1) := by decide +kernel
theorem dX5_isDry_1 : decode cX5_isDry 1 = .ok (.ireturn, 1) := by decide +kernel
theorem dX5_fee_0 : decode cX5_fee 0 = .ok (.iconst 0, 1) := by decide +kernel
theorem dX5_fee_1 : decode cX5_fee 1 = .ok (.ireturn, 1) := by decide +kernel
theorem dX6_init_0 : decode cX6_init 0 = .ok (.aload_n 0, 1) := by decide +kernel
theorem dX6_init_1 : decode cX6_init 1 = .ok (.invokespecial 1, 3) := by decide +kernel
theorem dX6_init_4 : decode cX6_init 4 = .ok (.aload_n 0, 1) := by decide +kernel
theorem dX6_init_5 : decode cX6_init 5 = .ok (.iload_n 1, 1) := by decide +kernel
theorem dX6_init_6 : decode cX6_init 6 = .ok (.putfield 7, 3) := by decide +kernel
theorem dX6_init_9 : decode cX6_init 9 = .ok (.aload_n 0, 1) := by decide +kernel
theorem dX6_init_10 : decode cX6_init 10 = .ok (.iload_n 2, 1) := by decide +kernel
theorem dX6_init_11 : decode cX6_init 11 = .ok (.putfield 13, 3) := by decide +kernel
theorem dX6_init_14 : decode cX6_init 14 = .ok (.aload_n 0, 1) := by decide +kernel
theorem dX6_init_15 : decode cX6_init 15 = .ok (.iload_n 3, 1) := by decide +kernel
theorem dX6_init_16 : decode cX6_init 16 = .ok (.putfield 16, 3) := by decide +kernel
theorem dX6_init_19 : decode cX6_init 19 = .ok (.aload_n 0, 1) := by decide +kernel
theorem dX6_init_20 : decode cX6_init 20 = .ok (.iload 4, 2) := by decide +kernel
theorem dX6_init_22 : decode cX6_init 22 = .ok (.putfield 19, 3) := by decide +kernel
theorem dX6_init_25 : decode cX6_init 25 = .ok (.return_, 1) := by decide +kernel
theorem dX6_isIsland_0 : decode cX6_isIsland 0 = .ok (.iload_n 1, 1) := by decide +kernel
theorem dX6_isIsland_1 : decode cX6_isIsland 1 = .ok (.aload_n 0, 1) := by decide +kernel
theorem dX6_isIsland_2 : decode cX6_isIsland 2 = .ok (.getfield 16, 3) := by decide +kernel
theorem dX6_isIsland_5 : decode cX6_isIsland 5 = .ok (.if_icmp .lt 15, 3) := by decide +kernel
theorem dX6_isIsland_8 : decode cX6_isIsland 8 = .ok (.iload_n 1, 1) := by decide +kernel
theorem dX6_isIsland_9 : decode cX6_isIsland 9 = .ok (.aload_n 0, 1) := by decide +kernel
theorem dX6_isIsland_10 : decode cX6_isIsland 10 = .ok (.getfield 19, 3) := by decide +kernel
theorem dX6_isIsland_13 : decode cX6_isIsland 13 = .ok (.if_icmp .gt 7, 3) := by decide +kernel
theorem dX6_isIsland_16 : decode cX6_isIsland 16 = .ok (.iconst 1, 1) := by decide +kernel
theorem dX6_isIsland_17 : decode cX6_isIsland 17 = .ok (.goto 4, 3) := by decide +kernel
theorem dX6_isIsland_20 : decode cX6_isIsland 20 = .ok (.iconst 0, 1) := by decide +kernel
theorem dX6_isIsland_21 : decode cX6_isIsland 21 = .ok (.ireturn, 1) := by decide +kernel
theorem dX7_init_0 : decode cX7_init 0 = .ok (.aload_n 0, 1) := by decide +kernel
theorem dX7_init_1 : decode cX7_init 1 = .ok (.invokespecial 3, 3) := by decide +kernel
theorem dX7_init_4 : decode cX7_init 4 = .ok (.aload_n 0, 1) := by decide +kernel
theorem dX7_init_5 : decode cX7_init 5 = .ok (.bipush 6, 2) := by decide +kernel
theorem dX7_init_7 : decode cX7_init 7 = .ok (.anewarray 9, 3) := by decide +kernel
theorem dX7_init_10 : decode cX7_init 10 = .ok (.putfield 11, 3) := by decide +kernel
theorem dX7_init_13 : decode cX7_init 13 = .ok (.return_, 1) := by decide +kernel
theorem dX7_rockAt_0 : decode cX7_rockAt 0 = .ok (.iload_n 1, 1) := by decide +kernel
theorem dX7_rockAt_1 : decode cX7_rockAt 1 = .ok (.ifCond .lt 20, 3) := by decide +kernel
theorem dX7_rockAt_4 : decode cX7_rockAt 4 = .ok (.iload_n 1, 1) := by decide +kernel
theorem dX7_rockAt_5 : decode cX7_rockAt 5 = .ok (.aload_n 0, 1) := by decide +kernel
theorem dX7_rockAt_6 : decode cX7_rockAt 6 = .ok (.getfield 17, 3) := by decide +kernel
theorem dX7_rockAt_9 : decode cX7_rockAt 9 = .ok (.if_icmp .ge 12, 3) := by decide +kernel
theorem dX7_rockAt_12 : decode cX7_rockAt 12 = .ok (.iload_n 1, 1) := by decide +kernel
theorem dX7_rockAt_13 : decode cX7_rockAt 13 = .ok (.aload_n 0, 1) := by decide +kernel
theorem dX7_rockAt_14 : decode cX7_rockAt 14 = .ok (.getfield 11, 3) := by decide +kernel
theorem dX7_rockAt_17 : decode cX7_rockAt 17 = .ok (.arraylength, 1) := by decide +kernel
theorem dX7_rockAt_18 : decode cX7_rockAt 18 = .ok (.if_icmp .lt 7, 3) := by decide +kernel
theorem dX7_rockAt_21 : decode cX7_rockAt 21 = .ok (.aconst_null, 1) := by decide +kernel
theorem dX7_rockAt_22 : decode cX7_rockAt 22 = .ok (.goto 9, 3) := by decide +kernel
theorem dX7_rockAt_25 : decode cX7_rockAt 25 = .ok (.aload_n 0, 1) := by decide +kernel
theorem dX7_rockAt_26 : decode cX7_rockAt 26 = .ok (.getfield 11, 3) := by decide +kernel
theorem dX7_rockAt_29 : decode cX7_rockAt 29 = .ok (.iload_n 1, 1) := by decide +kernel
theorem dX7_rockAt_30 : decode cX7_rockAt 30 = .ok (.aaload, 1) := by decide +kernel
theorem dX7_rockAt_31 : decode cX7_rockAt 31 = .ok (.areturn, 1) := by decide +kernel
theorem dX7_append_0 : decode cX7_append 0 = .ok (.iload_n 3, 1) := by decide +kernel
theorem dX7_append_1 : decode cX7_append 1 = .ok (.iload 4, 2) := by decide +kernel
theorem dX7_append_3 : decode cX7_append 3 = .ok (.if_icmp .gt 22, 3) := by decide +kernel
theorem dX7_append_6 : decode cX7_append 6 = .ok (.aload_n 0, 1) := by decide +kernel
theorem dX7_append_7 : decode cX7_append 7 = .ok (.getfield 17, 3) := by decide +kernel
theorem dX7_append_10 : decode cX7_append 10 = .ok (.ifCond .lt 15, 3) := by decide +kernel
theorem dX7_append_13 : decode cX7_append 13 = .ok (.aload_n 0, 1) := by decide +kernel
theorem dX7_append_14 : decode cX7_append 14 = .ok (.getfield 17, 3) := by decide +kernel
theorem dX7_append_17 : decode cX7_append 17 = .ok (.aload_n 0, 1) := by decide +kernel
theorem dX7_append_18 : decode cX7_append 18 = .ok (.getfield 11, 3) := by decide +kernel
theorem dX7_append_21 : decode cX7_append 21 = .ok (.arraylength, 1) := by decide +kernel
theorem dX7_append_22 : decode cX7_append 22 = .ok (.if_icmp .lt 5, 3) := by decide +kernel
theorem dX7_append_25 : decode cX7_append 25 = .ok (.iconst 0, 1) := by decide +kernel
theorem dX7_append_26 : decode cX7_append 26 = .ok (.ireturn, 1) := by decide +kernel
theorem dX7_append_27 : decode cX7_append 27 = .ok (.aload_n 0, 1) := by decide +kernel
theorem dX7_append_28 : decode cX7_append 28 = .ok (.getfield 11, 3) := by decide +kernel
theorem dX7_append_31 : decode cX7_append 31 = .ok (.aload_n 0, 1) := by decide +kernel
theorem dX7_append_32 : decode cX7_append 32 = .ok (.getfield 17, 3) := by decide +kernel
theorem dX7_append_35 : decode cX7_append 35 = .ok (.new 9, 3) := by decide +kernel
theorem dX7_append_38 : decode cX7_append 38 = .ok (.dup, 1) := by decide +kernel
theorem dX7_append_39 : decode cX7_append 39 = .ok (.iload_n 1, 1) := by decide +kernel
theorem dX7_append_40 : decode cX7_append 40 = .ok (.iload_n 2, 1) := by decide +kernel
theorem dX7_append_41 : decode cX7_append 41 = .ok (.iload_n 3, 1) := by decide +kernel
theorem dX7_append_42 : decode cX7_append 42 = .ok (.iload 4, 2) := by decide +kernel
theorem dX7_append_44 : decode cX7_append 44 = .ok (.invokespecial 21, 3) := by decide +kernel
theorem dX7_append_47 : decode cX7_append 47 = .ok (.aastore, 1) := by decide +kernel
theorem dX7_append_48 : decode cX7_append 48 = .ok (.aload_n 0, 1) := by decide +kernel
theorem dX7_append_49 : decode cX7_append 49 = .ok (.dup, 1) := by decide +kernel
theorem dX7_append_50 : decode cX7_append 50 = .ok (.getfield 17, 3) := by decide +kernel
theorem dX7_append_53 : decode cX7_append 53 = .ok (.iconst 1, 1) := by decide +kernel
theorem dX7_append_54 : decode cX7_append 54 = .ok (.iadd, 1) := by decide +kernel
theorem dX7_append_55 : decode cX7_append 55 = .ok (.putfield 17, 3) := by decide +kernel
theorem dX7_append_58 : decode cX7_append 58 = .ok (.iconst 1, 1) := by decide +kernel
theorem dX7_append_59 : decode cX7_append 59 = .ok (.ireturn, 1) := by decide +kernel
theorem dX7_become_0 : decode cX7_become 0 = .ok (.aload_n 0, 1) := by decide +kernel
theorem dX7_become_1 : decode cX7_become 1 = .ok (.aload_n 1, 1) := by decide +kernel
theorem dX7_become_2 : decode cX7_become 2 = .ok (.getfield 17, 3) := by decide +kernel
theorem dX7_become_5 : decode cX7_become 5 = .ok (.putfield 17, 3) := by decide +kernel
theorem dX7_become_8 : decode cX7_become 8 = .ok (.iconst 0, 1) := by decide +kernel
theorem dX7_become_9 : decode cX7_become 9 = .ok (.istore_n 2, 1) := by decide +kernel
theorem dX7_become_10 : decode cX7_become 10 = .ok (.iload_n 2, 1) := by decide +kernel
theorem dX7_become_11 : decode cX7_become 11 = .ok (.aload_n 0, 1) := by decide +kernel
theorem dX7_become_12 : decode cX7_become 12 = .ok (.getfield 11, 3) := by decide +kernel
theorem dX7_become_15 : decode cX7_become 15 = .ok (.arraylength, 1) := by decide +kernel
theorem dX7_become_16 : decode cX7_become 16 = .ok (.if_icmp .ge 20, 3) := by decide +kernel
theorem dX7_become_19 : decode cX7_become 19 = .ok (.aload_n 0, 1) := by decide +kernel
theorem dX7_become_20 : decode cX7_become 20 = .ok (.getfield 11, 3) := by decide +kernel
theorem dX7_become_23 : decode cX7_become 23 = .ok (.iload_n 2, 1) := by decide +kernel
theorem dX7_become_24 : decode cX7_become 24 = .ok (.aload_n 1, 1) := by decide +kernel
theorem dX7_become_25 : decode cX7_become 25 = .ok (.iload_n 2, 1) := by decide +kernel
theorem dX7_become_26 : decode cX7_become 26 = .ok (.invokevirtual 24, 3) := by decide +kernel
theorem dX7_become_29 : decode cX7_become 29 = .ok (.aastore, 1) := by decide +kernel
theorem dX7_become_30 : decode cX7_become 30 = .ok (.iinc 2 1, 3) := by decide +kernel
theorem dX7_become_33 : decode cX7_become 33 = .ok (.goto (-23), 3) := by decide +kernel
theorem dX7_become_36 : decode cX7_become 36 = .ok (.return_, 1) := by decide +kernel
theorem dX7_islandsAt_0 : decode cX7_islandsAt 0 = .ok (.iconst 0, 1) := by decide +kernel
theorem dX7_islandsAt_1 : decode cX7_islandsAt 1 = .ok (.istore_n 2, 1) := by decide +kernel
theorem dX7_islandsAt_2 : decode cX7_islandsAt 2 = .ok (.iconst 0, 1) := by decide +kernel
theorem dX7_islandsAt_3 : decode cX7_islandsAt 3 = .ok (.istore_n 3, 1) := by decide +kernel
theorem dX7_islandsAt_4 : decode cX7_islandsAt 4 = .ok (.iload_n 3, 1) := by decide +kernel
theorem dX7_islandsAt_5 : decode cX7_islandsAt 5 = .ok (.bipush 6, 2) := by decide +kernel
theorem dX7_islandsAt_7 : decode cX7_islandsAt 7 = .ok (.if_icmp .ge 36, 3) := by decide +kernel
theorem dX7_islandsAt_10 : decode cX7_islandsAt 10 = .ok (.aload_n 0, 1) := by decide +kernel
theorem dX7_islandsAt_11 : decode cX7_islandsAt 11 = .ok (.iload_n 3, 1) := by decide +kernel
theorem dX7_islandsAt_12 : decode cX7_islandsAt 12 = .ok (.invokevirtual 24, 3) := by decide +kernel
theorem dX7_islandsAt_15 : decode cX7_islandsAt 15 = .ok (.astore 4, 2) := by decide +kernel
theorem dX7_islandsAt_17 : decode cX7_islandsAt 17 = .ok (.aload 4, 2) := by decide +kernel
theorem dX7_islandsAt_19 : decode cX7_islandsAt 19 = .ok (.ifnull 18, 3) := by decide +kernel
theorem dX7_islandsAt_22 : decode cX7_islandsAt 22 = .ok (.aload 4, 2) := by decide +kernel
theorem dX7_islandsAt_24 : decode cX7_islandsAt 24 = .ok (.iload_n 1, 1) := by decide +kernel
theorem dX7_islandsAt_25 : decode cX7_islandsAt 25 = .ok (.invokevirtual 28, 3) := by decide +kernel
theorem dX7_islandsAt_28 : decode cX7_islandsAt 28 = .ok (.ifCond .eq 9, 3) := by decide +kernel
theorem dX7_islandsAt_31 : decode cX7_islandsAt 31 = .ok (.iload_n 2, 1) := by decide +kernel
theorem dX7_islandsAt_32 : decode cX7_islandsAt 32 = .ok (.iconst 1, 1) := by decide +kernel
theorem dX7_islandsAt_33 : decode cX7_islandsAt 33 = .ok (.iload_n 3, 1) := by decide +kernel
theorem dX7_islandsAt_34 : decode cX7_islandsAt 34 = .ok (.ishl, 1) := by decide +kernel
theorem dX7_islandsAt_35 : decode cX7_islandsAt 35 = .ok (.ior, 1) := by decide +kernel
theorem dX7_islandsAt_36 : decode cX7_islandsAt 36 = .ok (.istore_n 2, 1) := by decide +kernel
theorem dX7_islandsAt_37 : decode cX7_islandsAt 37 = .ok (.iinc 3 1, 3) := by decide +kernel
theorem dX7_islandsAt_40 : decode cX7_islandsAt 40 = .ok (.goto (-36), 3) := by decide +kernel
theorem dX7_islandsAt_43 : decode cX7_islandsAt 43 = .ok (.iload_n 2, 1) := by decide +kernel
theorem dX7_islandsAt_44 : decode cX7_islandsAt 44 = .ok (.ireturn, 1) := by decide +kernel
theorem dX7_fewestHours_0 : decode cX7_fewestHours 0 = .ok (.sipush 1023, 3) := by decide +kernel
theorem dX7_fewestHours_3 : decode cX7_fewestHours 3 = .ok (.istore_n 1, 1) := by decide +kernel
theorem dX7_fewestHours_4 : decode cX7_fewestHours 4 = .ok (.iconst 0, 1) := by decide +kernel
theorem dX7_fewestHours_5 : decode cX7_fewestHours 5 = .ok (.istore_n 2, 1) := by decide +kernel
theorem dX7_fewestHours_6 : decode cX7_fewestHours 6 = .ok (.iload_n 2, 1) := by decide +kernel
theorem dX7_fewestHours_7 : decode cX7_fewestHours 7 = .ok (.sipush 1024, 3) := by decide +kernel
theorem dX7_fewestHours_10 : decode cX7_fewestHours 10 = .ok (.if_icmp .ge 30, 3) := by decide +kernel
theorem dX7_fewestHours_13 : decode cX7_fewestHours 13 = .ok (.iload_n 2, 1) := by decide +kernel
theorem dX7_fewestHours_14 : decode cX7_fewestHours 14 = .ok (.invokestatic 32, 3) := by decide +kernel
theorem dX7_fewestHours_17 : decode cX7_fewestHours 17 = .ok (.iload_n 1, 1) := by decide +kernel
theorem dX7_fewestHours_18 : decode cX7_fewestHours 18 = .ok (.invokestatic 32, 3) := by decide +kernel
theorem dX7_fewestHours_21 : decode cX7_fewestHours 21 = .ok (.if_icmp .ge 13, 3) := by decide +kernel
theorem dX7_fewestHours_24 : decode cX7_fewestHours 24 = .ok (.aload_n 0, 1) := by decide +kernel
theorem dX7_fewestHours_25 : decode cX7_fewestHours 25 = .ok (.iload_n 2, 1) := by decide +kernel
theorem dX7_fewestHours_26 : decode cX7_fewestHours 26 = .ok (.invokevirtual 38, 3) := by decide +kernel
theorem dX7_fewestHours_29 : decode cX7_fewestHours 29 = .ok (.ifCond .eq 5, 3) := by decide +kernel
theorem dX7_fewestHours_32 : decode cX7_fewestHours 32 = .ok (.iload_n 2, 1) := by decide +kernel
theorem dX7_fewestHours_33 : decode cX7_fewestHours 33 = .ok (.istore_n 1, 1) := by decide +kernel
theorem dX7_fewestHours_34 : decode cX7_fewestHours 34 = .ok (.iinc 2 1, 3) := by decide +kernel
theorem dX7_fewestHours_37 : decode cX7_fewestHours 37 = .ok (.goto (-31), 3) := by decide +kernel
theorem dX7_fewestHours_40 : decode cX7_fewestHours 40 = .ok (.iload_n 1, 1) := by decide +kernel
theorem dX7_fewestHours_41 : decode cX7_fewestHours 41 = .ok (.ireturn, 1) := by decide +kernel
theorem dX7_showsAll_0 : decode cX7_showsAll 0 = .ok (.iconst 0, 1) := by decide +kernel
theorem dX7_showsAll_1 : decode cX7_showsAll 1 = .ok (.istore_n 2, 1) := by decide +kernel
theorem dX7_showsAll_2 : decode cX7_showsAll 2 = .ok (.iconst 0, 1) := by decide +kernel
theorem dX7_showsAll_3 : decode cX7_showsAll 3 = .ok (.istore_n 3, 1) := by decide +kernel
theorem dX7_showsAll_4 : decode cX7_showsAll 4 = .ok (.iload_n 3, 1) := by decide +kernel
theorem dX7_showsAll_5 : decode cX7_showsAll 5 = .ok (.bipush 9, 2) := by decide +kernel
theorem dX7_showsAll_7 : decode cX7_showsAll 7 = .ok (.if_icmp .gt 25, 3) := by decide +kernel
theorem dX7_showsAll_10 : decode cX7_showsAll 10 = .ok (.iload_n 1, 1) := by decide +kernel
theorem dX7_showsAll_11 : decode cX7_showsAll 11 = .ok (.iload_n 3, 1) := by decide +kernel
theorem dX7_showsAll_12 : decode cX7_showsAll 12 = .ok (.ishr, 1) := by decide +kernel
theorem dX7_showsAll_13 : decode cX7_showsAll 13 = .ok (.iconst 1, 1) := by decide +kernel
theorem dX7_showsAll_14 : decode cX7_showsAll 14 = .ok (.iand, 1) := by decide +kernel
theorem dX7_showsAll_15 : decode cX7_showsAll 15 = .ok (.ifCond .eq 11, 3) := by decide +kernel
theorem dX7_showsAll_18 : decode cX7_showsAll 18 = .ok (.iload_n 2, 1) := by decide +kernel
theorem dX7_showsAll_19 : decode cX7_showsAll 19 = .ok (.aload_n 0, 1) := by decide +kernel
theorem dX7_showsAll_20 : decode cX7_showsAll 20 = .ok (.iload_n 3, 1) := by decide +kernel
theorem dX7_showsAll_21 : decode cX7_showsAll 21 = .ok (.invokevirtual 41, 3) := by decide +kernel
theorem dX7_showsAll_24 : decode cX7_showsAll 24 = .ok (.ior, 1) := by decide +kernel
theorem dX7_showsAll_25 : decode cX7_showsAll 25 = .ok (.istore_n 2, 1) := by decide +kernel
theorem dX7_showsAll_26 : decode cX7_showsAll 26 = .ok (.iinc 3 1, 3) := by decide +kernel
theorem dX7_showsAll_29 : decode cX7_showsAll 29 = .ok (.goto (-25), 3) := by decide +kernel
theorem dX7_showsAll_32 : decode cX7_showsAll 32 = .ok (.iload_n 2, 1) := by decide +kernel
theorem dX7_showsAll_33 : decode cX7_showsAll 33 = .ok (.invokestatic 32, 3) := by decide +kernel
theorem dX7_showsAll_36 : decode cX7_showsAll 36 = .ok (.aload_n 0, 1) := by decide +kernel
theorem dX7_showsAll_37 : decode cX7_showsAll 37 = .ok (.getfield 17, 3) := by decide +kernel
theorem dX7_showsAll_40 : decode cX7_showsAll 40 = .ok (.if_icmp .ne 7, 3) := by decide +kernel
theorem dX7_showsAll_43 : decode cX7_showsAll 43 = .ok (.iconst 1, 1) := by decide +kernel
theorem dX7_showsAll_44 : decode cX7_showsAll 44 = .ok (.goto 4, 3) := by decide +kernel
theorem dX7_showsAll_47 : decode cX7_showsAll 47 = .ok (.iconst 0, 1) := by decide +kernel
theorem dX7_showsAll_48 : decode cX7_showsAll 48 = .ok (.ireturn, 1) := by decide +kernel
theorem dX7_yardsFromHome_0 : decode cX7_yardsFromHome 0 = .ok (.aload_n 0, 1) := by decide +kernel
theorem dX7_yardsFromHome_1 : decode cX7_yardsFromHome 1 = .ok (.iload_n 1, 1) := by decide +kernel
theorem dX7_yardsFromHome_2 : decode cX7_yardsFromHome 2 = .ok (.invokevirtual 24, 3) := by decide +kernel
theorem dX7_yardsFromHome_5 : decode cX7_yardsFromHome 5 = .ok (.astore_n 2, 1) := by decide +kernel
theorem dX7_yardsFromHome_6 : decode cX7_yardsFromHome 6 = .ok (.aload_n 2, 1) := by decide +kernel
theorem dX7_yardsFromHome_7 : decode cX7_yardsFromHome 7 = .ok (.ifnonnull 7, 3) := by decide +kernel
theorem dX7_yardsFromHome_10 : decode cX7_yardsFromHome 10 = .ok (.iconst 0, 1) := by decide +kernel
theorem dX7_yardsFromHome_11 : decode cX7_yardsFromHome 11 = .ok (.goto 12, 3) := by decide +kernel
theorem dX7_yardsFromHome_14 : decode cX7_yardsFromHome 14 = .ok (.aload_n 2, 1) := by decide +kernel
theorem dX7_yardsFromHome_15 : decode cX7_yardsFromHome 15 = .ok (.getfield 44, 3) := by decide +kernel
theorem dX7_yardsFromHome_18 : decode cX7_yardsFromHome 18 = .ok (.aload_n 2, 1) := by decide +kernel
theorem dX7_yardsFromHome_19 : decode cX7_yardsFromHome 19 = .ok (.getfield 47, 3) := by decide +kernel
theorem dX7_yardsFromHome_22 : decode cX7_yardsFromHome 22 = .ok (.iadd, 1) := by decide +kernel
theorem dX7_yardsFromHome_23 : decode cX7_yardsFromHome 23 = .ok (.ireturn, 1) := by decide +kernel
theorem dX7_yardsBetween_0 : decode cX7_yardsBetween 0 = .ok (.aload_n 0, 1) := by decide +kernel
theorem dX7_yardsBetween_1 : decode cX7_yardsBetween 1 = .ok (.iload_n 1, 1) := by decide +kernel
theorem dX7_yardsBetween_2 : decode cX7_yardsBetween 2 = .ok (.invokevirtual 24, 3) := by decide +kernel
theorem dX7_yardsBetween_5 : decode cX7_yardsBetween 5 = .ok (.astore_n 3, 1) := by decide +kernel
theorem dX7_yardsBetween_6 : decode cX7_yardsBetween 6 = .ok (.aload_n 0, 1) := by decide +kernel
theorem dX7_yardsBetween_7 : decode cX7_yardsBetween 7 = .ok (.iload_n 2, 1) := by decide +kernel
theorem dX7_yardsBetween_8 : decode cX7_yardsBetween 8 = .ok (.invokevirtual 24, 3) := by decide +kernel
theorem dX7_yardsBetween_11 : decode cX7_yardsBetween 11 = .ok (.astore 4, 2) := by decide +kernel
theorem dX7_yardsBetween_13 : decode cX7_yardsBetween 13 = .ok (.aload_n 3, 1) := by decide +kernel
theorem dX7_yardsBetween_14 : decode cX7_yardsBetween 14 = .ok (.ifnull 8, 3) := by decide +kernel
theorem dX7_yardsBetween_17 : decode cX7_yardsBetween 17 = .ok (.aload 4, 2) := by decide +kernel
theorem dX7_yardsBetween_19 : decode cX7_yardsBetween 19 = .ok (.ifnonnull 5, 3) := by decide +kernel
theorem dX7_yardsBetween_22 : decode cX7_yardsBetween 22 = .ok (.iconst 0, 1) := by decide +kernel
theorem dX7_yardsBetween_23 : decode cX7_yardsBetween 23 = .ok (.ireturn, 1) := by decide +kernel
theorem dX7_yardsBetween_24 : decode cX7_yardsBetween 24 = .ok (.aload_n 3, 1) := by decide +kernel
theorem dX7_yardsBetween_25 : decode cX7_yardsBetween 25 = .ok (.getfield 44, 3) := by decide +kernel
theorem dX7_yardsBetween_28 : decode cX7_yardsBetween 28 = .ok (.aload 4, 2) := by decide +kernel
theorem dX7_yardsBetween_30 : decode cX7_yardsBetween 30 = .ok (.getfield 44, 3) := by decide +kernel
theorem dX7_yardsBetween_33 : decode cX7_yardsBetween 33 = .ok (.isub, 1) := by decide +kernel
theorem dX7_yardsBetween_34 : decode cX7_yardsBetween 34 = .ok (.invokestatic 50, 3) := by decide +kernel
theorem dX7_yardsBetween_37 : decode cX7_yardsBetween 37 = .ok (.aload_n 3, 1) := by decide +kernel
theorem dX7_yardsBetween_38 : decode cX7_yardsBetween 38 = .ok (.getfield 47, 3) := by decide +kernel
theorem dX7_yardsBetween_41 : decode cX7_yardsBetween 41 = .ok (.aload 4, 2) := by decide +kernel
theorem dX7_yardsBetween_43 : decode cX7_yardsBetween 43 = .ok (.getfield 47, 3) := by decide +kernel
theorem dX7_yardsBetween_46 : decode cX7_yardsBetween 46 = .ok (.isub, 1) := by decide +kernel
theorem dX7_yardsBetween_47 : decode cX7_yardsBetween 47 = .ok (.invokestatic 50, 3) := by decide +kernel
theorem dX7_yardsBetween_50 : decode cX7_yardsBetween 50 = .ok (.iadd, 1) := by decide +kernel
theorem dX7_yardsBetween_51 : decode cX7_yardsBetween 51 = .ok (.ireturn, 1) := by decide +kernel
theorem dX8_init_0 : decode cX8_init 0 = .ok (.aload_n 0, 1) := by decide +kernel
theorem dX8_init_1 : decode cX8_init 1 = .ok (.iload_n 1, 1) := by decide +kernel
theorem dX8_init_2 : decode cX8_init 2 = .ok (.iload_n 2, 1) := by decide +kernel
theorem dX8_init_3 : decode cX8_init 3 = .ok (.iload_n 3, 1) := by decide +kernel
theorem dX8_init_4 : decode cX8_init 4 = .ok (.invokespecial 1, 3) := by decide +kernel
theorem dX8_init_7 : decode cX8_init 7 = .ok (.return_, 1) := by decide +kernel
theorem dX8_kind_0 : decode cX8_kind 0 = .ok (.iconst 1, 1) := by decide +kernel
theorem dX8_kind_1 : decode cX8_kind 1 = .ok (.ireturn, 1) := by decide +kernel
theorem dX8_isDry_0 : decode cX8_isDry 0 = .ok (.iload_n 1, 1) := by decide +kernel
theorem dX8_isDry_1 : decode cX8_isDry 1 = .ok (.aload_n 0, 1) := by decide +kernel
theorem dX8_isDry_2 : decode cX8_isDry 2 = .ok (.getfield 7, 3) := by decide +kernel
theorem dX8_isDry_5 : decode cX8_isDry 5 = .ok (.if_icmp .gt 7, 3) := by decide +kernel
theorem dX8_isDry_8 : decode cX8_isDry 8 = .ok (.iconst 1, 1) := by decide +kernel
theorem dX8_isDry_9 : decode cX8_isDry 9 = .ok (.goto 4, 3) := by decide +kernel
theorem dX8_isDry_12 : decode cX8_isDry 12 = .ok (.iconst 0, 1) := by decide +kernel
theorem dX8_isDry_13 : decode cX8_isDry 13 = .ok (.ireturn, 1) := by decide +kernel
theorem dX8_fee_0 : decode cX8_fee 0 = .ok (.aload_n 0, 1) := by decide +kernel
theorem dX8_fee_1 : decode cX8_fee 1 = .ok (.invokespecial 13, 3) := by decide +kernel
theorem dX8_fee_4 : decode cX8_fee 4 = .ok (.iconst 1, 1) := by decide +kernel
theorem dX8_fee_5 : decode cX8_fee 5 = .ok (.iadd, 1) := by decide +kernel
theorem dX8_fee_6 : decode cX8_fee 6 = .ok (.ireturn, 1) := by decide +kernel
theorem dX9_init_0 : decode cX9_init 0 = .ok (.aload_n 0, 1) := by decide +kernel
theorem dX9_init_1 : decode cX9_init 1 = .ok (.invokespecial 1, 3) := by decide +kernel
theorem dX9_init_4 : decode cX9_init 4 = .ok (.aload_n 0, 1) := by decide +kernel
theorem dX9_init_5 : decode cX9_init 5 = .ok (.iload_n 1, 1) := by decide +kernel
theorem dX9_init_6 : decode cX9_init 6 = .ok (.putfield 7, 3) := by decide +kernel
theorem dX9_init_9 : decode cX9_init 9 = .ok (.aload_n 0, 1) := by decide +kernel
theorem dX9_init_10 : decode cX9_init 10 = .ok (.iload_n 2, 1) := by decide +kernel
theorem dX9_init_11 : decode cX9_init 11 = .ok (.putfield 13, 3) := by decide +kernel
theorem dX9_init_14 : decode cX9_init 14 = .ok (.aload_n 0, 1) := by decide +kernel
theorem dX9_init_15 : decode cX9_init 15 = .ok (.iload_n 3, 1) := by decide +kernel
theorem dX9_init_16 : decode cX9_init 16 = .ok (.putfield 16, 3) := by decide +kernel
theorem dX9_init_19 : decode cX9_init 19 = .ok (.return_, 1) := by decide +kernel
theorem dX9_kind_0 : decode cX9_kind 0 = .ok (.iconst 0, 1) := by decide +kernel
theorem dX9_kind_1 : decode cX9_kind 1 = .ok (.ireturn, 1) := by decide +kernel
theorem dX9_isDry_0 : decode cX9_isDry 0 = .ok (.iconst 1, 1) := by decide +kernel
theorem dX9_isDry_1 : decode cX9_isDry 1 = .ok (.ireturn, 1) := by decide +kernel
theorem dX9_fee_0 : decode cX9_fee 0 = .ok (.iconst 1, 1) := by decide +kernel
theorem dX9_fee_1 : decode cX9_fee 1 = .ok (.ireturn, 1) := by decide +kernel
theorem dX9_places_0 : decode cX9_places 0 = .ok (.lconst 1, 1) := by decide +kernel
theorem dX9_places_1 : decode cX9_places 1 = .ok (.aload_n 0, 1) := by decide +kernel
theorem dX9_places_2 : decode cX9_places 2 = .ok (.getfield 16, 3) := by decide +kernel
theorem dX9_places_5 : decode cX9_places 5 = .ok (.lshl, 1) := by decide +kernel
theorem dX9_places_6 : decode cX9_places 6 = .ok (.lconst 1, 1) := by decide +kernel
theorem dX9_places_7 : decode cX9_places 7 = .ok (.lsub, 1) := by decide +kernel
theorem dX9_places_8 : decode cX9_places 8 = .ok (.aload_n 0, 1) := by decide +kernel
theorem dX9_places_9 : decode cX9_places 9 = .ok (.getfield 13, 3) := by decide +kernel
theorem dX9_places_12 : decode cX9_places 12 = .ok (.lshl, 1) := by decide +kernel
theorem dX9_places_13 : decode cX9_places 13 = .ok (.lreturn, 1) := by decide +kernel
theorem dX10_init_0 : decode cX10_init 0 = .ok (.aload_n 0, 1) := by decide +kernel
theorem dX10_init_1 : decode cX10_init 1 = .ok (.iload_n 1, 1) := by decide +kernel
theorem dX10_init_2 : decode cX10_init 2 = .ok (.iload_n 2, 1) := by decide +kernel
theorem dX10_init_3 : decode cX10_init 3 = .ok (.iload_n 3, 1) := by decide +kernel
theorem dX10_init_4 : decode cX10_init 4 = .ok (.invokespecial 1, 3) := by decide +kernel
theorem dX10_init_7 : decode cX10_init 7 = .ok (.return_, 1) := by decide +kernel
theorem dX10_kind_0 : decode cX10_kind 0 = .ok (.iconst 5, 1) := by decide +kernel
theorem dX10_kind_1 : decode cX10_kind 1 = .ok (.ireturn, 1) := by decide +kernel
theorem dX10_isDry_0 : decode cX10_isDry 0 = .ok (.aload_n 0, 1) := by decide +kernel
theorem dX10_isDry_1 : decode cX10_isDry 1 = .ok (.iload_n 1, 1) := by decide +kernel
theorem dX10_isDry_2 : decode cX10_isDry 2 = .ok (.invokespecial 7, 3) := by decide +kernel
theorem dX10_isDry_5 : decode cX10_isDry 5 = .ok (.ifCond .eq 15, 3) := by decide +kernel
theorem dX10_isDry_8 : decode cX10_isDry 8 = .ok (.iload_n 1, 1) := by decide +kernel
theorem dX10_isDry_9 : decode cX10_isDry 9 = .ok (.aload_n 0, 1) := by decide +kernel
theorem dX10_isDry_10 : decode cX10_isDry 10 = .ok (.getfield 11, 3) := by decide +kernel
theorem dX10_isDry_13 : decode cX10_isDry 13 = .ok (.if_icmp .eq 7, 3) := by decide +kernel
theorem dX10_isDry_16 : decode cX10_isDry 16 = .ok (.iconst 1, 1) := by decide +kernel
theorem dX10_isDry_17 : decode cX10_isDry 17 = .ok (.goto 4, 3) := by decide +kernel
theorem dX10_isDry_20 : decode cX10_isDry 20 = .ok (.iconst 0, 1) := by decide +kernel
theorem dX10_isDry_21 : decode cX10_isDry 21 = .ok (.ireturn, 1) := by decide +kernel
theorem dX10_fee_0 : decode cX10_fee 0 = .ok (.aload_n 0, 1) := by decide +kernel
theorem dX10_fee_1 : decode cX10_fee 1 = .ok (.invokespecial 17, 3) := by decide +kernel
theorem dX10_fee_4 : decode cX10_fee 4 = .ok (.iconst 1, 1) := by decide +kernel
theorem dX10_fee_5 : decode cX10_fee 5 = .ok (.isub, 1) := by decide +kernel
theorem dX10_fee_6 : decode cX10_fee 6 = .ok (.ireturn, 1) := by decide +kernel
theorem dX11_init_0 : decode cX11_init 0 = .ok (.aload_n 0, 1) := by decide +kernel
theorem dX11_init_1 : decode cX11_init 1 = .ok (.invokespecial 1, 3) := by decide +kernel
theorem dX11_init_4 : decode cX11_init 4 = .ok (.aload_n 0, 1) := by decide +kernel
theorem dX11_init_5 : decode cX11_init 5 = .ok (.new 7, 3) := by decide +kernel
theorem dX11_init_8 : decode cX11_init 8 = .ok (.dup, 1) := by decide +kernel
theorem dX11_init_9 : decode cX11_init 9 = .ok (.invokespecial 9, 3) := by decide +kernel
theorem dX11_init_12 : decode cX11_init 12 = .ok (.putfield 10, 3) := by decide +kernel
theorem dX11_init_15 : decode cX11_init 15 = .ok (.aload_n 0, 1) := by decide +kernel
theorem dX11_init_16 : decode cX11_init 16 = .ok (.new 7, 3) := by decide +kernel
theorem dX11_init_19 : decode cX11_init 19 = .ok (.dup, 1) := by decide +kernel
theorem dX11_init_20 : decode cX11_init 20 = .ok (.invokespecial 9, 3) := by decide +kernel
theorem dX11_init_23 : decode cX11_init 23 = .ok (.putfield 16, 3) := by decide +kernel
theorem dX11_init_26 : decode cX11_init 26 = .ok (.aload_n 0, 1) := by decide +kernel
theorem dX11_init_27 : decode cX11_init 27 = .ok (.new 7, 3) := by decide +kernel
theorem dX11_init_30 : decode cX11_init 30 = .ok (.dup, 1) := by decide +kernel
theorem dX11_init_31 : decode cX11_init 31 = .ok (.invokespecial 9, 3) := by decide +kernel
theorem dX11_init_34 : decode cX11_init 34 = .ok (.putfield 19, 3) := by decide +kernel
theorem dX11_init_37 : decode cX11_init 37 = .ok (.aload_n 0, 1) := by decide +kernel
theorem dX11_init_38 : decode cX11_init 38 = .ok (.new 22, 3) := by decide +kernel
theorem dX11_init_41 : decode cX11_init 41 = .ok (.dup, 1) := by decide +kernel
theorem dX11_init_42 : decode cX11_init 42 = .ok (.invokespecial 24, 3) := by decide +kernel
theorem dX11_init_45 : decode cX11_init 45 = .ok (.putfield 25, 3) := by decide +kernel
theorem dX11_init_48 : decode cX11_init 48 = .ok (.aload_n 0, 1) := by decide +kernel
theorem dX11_init_49 : decode cX11_init 49 = .ok (.new 29, 3) := by decide +kernel
theorem dX11_init_52 : decode cX11_init 52 = .ok (.dup, 1) := by decide +kernel
theorem dX11_init_53 : decode cX11_init 53 = .ok (.invokespecial 31, 3) := by decide +kernel
theorem dX11_init_56 : decode cX11_init 56 = .ok (.putfield 32, 3) := by decide +kernel
theorem dX11_init_59 : decode cX11_init 59 = .ok (.aload_n 0, 1) := by decide +kernel
theorem dX11_init_60 : decode cX11_init 60 = .ok (.bipush 12, 2) := by decide +kernel
theorem dX11_init_62 : decode cX11_init 62 = .ok (.newarray .int, 2) := by decide +kernel
theorem dX11_init_64 : decode cX11_init 64 = .ok (.putfield 36, 3) := by decide +kernel
theorem dX11_init_67 : decode cX11_init 67 = .ok (.aload_n 0, 1) := by decide +kernel
theorem dX11_init_68 : decode cX11_init 68 = .ok (.bipush 7, 2) := by decide +kernel
theorem dX11_init_70 : decode cX11_init 70 = .ok (.newarray .int, 2) := by decide +kernel
theorem dX11_init_72 : decode cX11_init 72 = .ok (.putfield 40, 3) := by decide +kernel
theorem dX11_init_75 : decode cX11_init 75 = .ok (.return_, 1) := by decide +kernel
theorem dX11_feed_0 : decode cX11_feed 0 = .ok (.iload_n 1, 1) := by decide +kernel
theorem dX11_feed_1 : decode cX11_feed 1 = .ok (.ifCond .ge 10, 3) := by decide +kernel
theorem dX11_feed_4 : decode cX11_feed 4 = .ok (.aload_n 0, 1) := by decide +kernel
theorem dX11_feed_5 : decode cX11_feed 5 = .ok (.bipush (-4), 2) := by decide +kernel
theorem dX11_feed_7 : decode cX11_feed 7 = .ok (.invokevirtual 43, 3) := by decide +kernel
theorem dX11_feed_10 : decode cX11_feed 10 = .ok (.ireturn, 1) := by decide +kernel
theorem dX11_feed_11 : decode cX11_feed 11 = .ok (.iload_n 1, 1) := by decide +kernel
theorem dX11_feed_12 : decode cX11_feed 12 = .ok (.sipush 255, 3) := by decide +kernel
theorem dX11_feed_15 : decode cX11_feed 15 = .ok (.if_icmp .gt 14, 3) := by decide +kernel
theorem dX11_feed_18 : decode cX11_feed 18 = .ok (.aload_n 0, 1) := by decide +kernel
theorem dX11_feed_19 : decode cX11_feed 19 = .ok (.getfield 32, 3) := by decide +kernel
theorem dX11_feed_22 : decode cX11_feed 22 = .ok (.iload_n 1, 1) := by decide +kernel
theorem dX11_feed_23 : decode cX11_feed 23 = .ok (.invokevirtual 47, 3) := by decide +kernel
theorem dX11_feed_26 : decode cX11_feed 26 = .ok (.ifCond .ne 10, 3) := by decide +kernel
theorem dX11_feed_29 : decode cX11_feed 29 = .ok (.aload_n 0, 1) := by decide +kernel
theorem dX11_feed_30 : decode cX11_feed 30 = .ok (.bipush (-6), 2) := by decide +kernel
theorem dX11_feed_32 : decode cX11_feed 32 = .ok (.invokevirtual 43, 3) := by decide +kernel
theorem dX11_feed_35 : decode cX11_feed 35 = .ok (.ireturn, 1) := by decide +kernel
theorem dX11_feed_36 : decode cX11_feed 36 = .ok (.aload_n 0, 1) := by decide +kernel
theorem dX11_feed_37 : decode cX11_feed 37 = .ok (.getfield 32, 3) := by decide +kernel
theorem dX11_feed_40 : decode cX11_feed 40 = .ok (.getfield 51, 3) := by decide +kernel
theorem dX11_feed_43 : decode cX11_feed 43 = .ok (.ireturn, 1) := by decide +kernel
theorem dX11_coast_0 : decode cX11_coast 0 = .ok (.aload_n 0, 1) := by decide +kernel
theorem dX11_coast_1 : decode cX11_coast 1 = .ok (.getfield 32, 3) := by decide +kernel
theorem dX11_coast_4 : decode cX11_coast 4 = .ok (.invokevirtual 55, 3) := by decide +kernel
theorem dX11_coast_7 : decode cX11_coast 7 = .ok (.istore_n 1, 1) := by decide +kernel
theorem dX11_coast_8 : decode cX11_coast 8 = .ok (.iload_n 1, 1) := by decide +kernel
theorem dX11_coast_9 : decode cX11_coast 9 = .ok (.ifCond .ge 10, 3) := by decide +kernel
theorem dX11_coast_12 : decode cX11_coast 12 = .ok (.aload_n 0, 1) := by decide +kernel
theorem dX11_coast_13 : decode cX11_coast 13 = .ok (.invokevirtual 59, 3) := by decide +kernel
theorem dX11_coast_16 : decode cX11_coast 16 = .ok (.goto 8, 3) := by decide +kernel
theorem dX11_coast_19 : decode cX11_coast 19 = .ok (.sipush (-1000), 3) := by decide +kernel
theorem dX11_coast_22 : decode cX11_coast 22 = .ok (.iload_n 1, 1) := by decide +kernel
theorem dX11_coast_23 : decode cX11_coast 23 = .ok (.isub, 1) := by decide +kernel
theorem dX11_coast_24 : decode cX11_coast 24 = .ok (.istore_n 2, 1) := by decide +kernel
theorem dX11_coast_25 : decode cX11_coast 25 = .ok (.aload_n 0, 1) := by decide +kernel
theorem dX11_coast_26 : decode cX11_coast 26 = .ok (.getfield 32, 3) := by decide +kernel
theorem dX11_coast_29 : decode cX11_coast 29 = .ok (.iconst 0, 1) := by decide +kernel
theorem dX11_coast_30 : decode cX11_coast 30 = .ok (.putfield 51, 3) := by decide +kernel
theorem dX11_coast_33 : decode cX11_coast 33 = .ok (.iload_n 2, 1) := by decide +kernel
theorem dX11_coast_34 : decode cX11_coast 34 = .ok (.ireturn, 1) := by decide +kernel
theorem dX11_stretch_0 : decode cX11_stretch 0 = .ok (.aload_n 0, 1) := by decide +kernel
theorem dX11_stretch_1 : decode cX11_stretch 1 = .ok (.getfield 10, 3) := by decide +kernel
theorem dX11_stretch_4 : decode cX11_stretch 4 = .ok (.iload_n 1, 1) := by decide +kernel
theorem dX11_stretch_5 : decode cX11_stretch 5 = .ok (.invokevirtual 62, 3) := by decide +kernel
theorem dX11_stretch_8 : decode cX11_stretch 8 = .ok (.astore_n 3, 1) := by decide +kernel
theorem dX11_stretch_9 : decode cX11_stretch 9 = .ok (.aload_n 3, 1) := by decide +kernel
theorem dX11_stretch_10 : decode cX11_stretch 10 = .ok (.ifnonnull 9, 3) := by decide +kernel
theorem dX11_stretch_13 : decode cX11_stretch 13 = .ok (.aload_n 0, 1) := by decide +kernel
theorem dX11_stretch_14 : decode cX11_stretch 14 = .ok (.iconst (-1), 1) := by decide +kernel
theorem dX11_stretch_15 : decode cX11_stretch 15 = .ok (.invokevirtual 43, 3) := by decide +kernel
theorem dX11_stretch_18 : decode cX11_stretch 18 = .ok (.ireturn, 1) := by decide +kernel
theorem dX11_stretch_19 : decode cX11_stretch 19 = .ok (.iload_n 2, 1) := by decide +kernel
theorem dX11_stretch_20 : decode cX11_stretch 20 = .ok (.tableswitch 85 0 5 #[40, 45, 50, 55, 60, 80], 40) := by decide +kernel
theorem dX11_stretch_60 : decode cX11_stretch 60 = .ok (.aload_n 3, 1) := by decide +kernel
theorem dX11_stretch_61 : decode cX11_stretch 61 = .ok (.invokevirtual 66, 3) := by decide +kernel
theorem dX11_stretch_64 : decode cX11_stretch 64 = .ok (.ireturn, 1) := by decide +kernel
theorem dX11_stretch_65 : decode cX11_stretch 65 = .ok (.aload_n 3, 1) := by decide +kernel
theorem dX11_stretch_66 : decode cX11_stretch 66 = .ok (.getfield 71, 3) := by decide +kernel
theorem dX11_stretch_69 : decode cX11_stretch 69 = .ok (.ireturn, 1) := by decide +kernel
theorem dX11_stretch_70 : decode cX11_stretch 70 = .ok (.aload_n 3, 1) := by decide +kernel
theorem dX11_stretch_71 : decode cX11_stretch 71 = .ok (.getfield 74, 3) := by decide +kernel
theorem dX11_stretch_74 : decode cX11_stretch 74 = .ok (.ireturn, 1) := by decide +kernel
theorem dX11_stretch_75 : decode cX11_stretch 75 = .ok (.aload_n 3, 1) := by decide +kernel
theorem dX11_stretch_76 : decode cX11_stretch 76 = .ok (.getfield 77, 3) := by decide +kernel
theorem dX11_stretch_79 : decode cX11_stretch 79 = .ok (.ireturn, 1) := by decide +kernel
theorem dX11_stretch_80 : decode cX11_stretch 80 = .ok (.aload_n 3, 1) := by decide +kernel
theorem dX11_stretch_81 : decode cX11_stretch 81 = .ok (.aload_n 0, 1) := by decide +kernel
theorem dX11_stretch_82 : decode cX11_stretch 82 = .ok (.getfield 10, 3) := by decide +kernel
theorem dX11_stretch_85 : decode cX11_stretch 85 = .ok (.getfield 80, 3) := by decide +kernel
theorem dX11_stretch_88 : decode cX11_stretch 88 = .ok (.invokevirtual 83, 3) := by decide +kernel
theorem dX11_stretch_91 : decode cX11_stretch 91 = .ok (.ifCond .eq 7, 3) := by decide +kernel
theorem dX11_stretch_94 : decode cX11_stretch 94 = .ok (.iconst 1, 1) := by decide +kernel
theorem dX11_stretch_95 : decode cX11_stretch 95 = .ok (.goto 4, 3) := by decide +kernel
theorem dX11_stretch_98 : decode cX11_stretch 98 = .ok (.iconst 0, 1) := by decide +kernel
theorem dX11_stretch_99 : decode cX11_stretch 99 = .ok (.ireturn, 1) := by decide +kernel
theorem dX11_stretch_100 : decode cX11_stretch 100 = .ok (.aload_n 3, 1) := by decide +kernel
theorem dX11_stretch_101 : decode cX11_stretch 101 = .ok (.invokevirtual 86, 3) := by decide +kernel
theorem dX11_stretch_104 : decode cX11_stretch 104 = .ok (.ireturn, 1) := by decide +kernel
theorem dX11_stretch_105 : decode cX11_stretch 105 = .ok (.aload_n 0, 1) := by decide +kernel
theorem dX11_stretch_106 : decode cX11_stretch 106 = .ok (.bipush (-2), 2) := by decide +kernel
theorem dX11_stretch_108 : decode cX11_stretch 108 = .ok (.invokevirtual 43, 3) := by decide +kernel
theorem dX11_stretch_111 : decode cX11_stretch 111 = .ok (.ireturn, 1) := by decide +kernel
theorem dX11_point_0 : decode cX11_point 0 = .ok (.aload_n 0, 1) := by decide +kernel
theorem dX11_point_1 : decode cX11_point 1 = .ok (.getfield 10, 3) := by decide +kernel
theorem dX11_point_4 : decode cX11_point 4 = .ok (.iload_n 1, 1) := by decide +kernel
theorem dX11_point_5 : decode cX11_point 5 = .ok (.invokevirtual 89, 3) := by decide +kernel
theorem dX11_point_8 : decode cX11_point 8 = .ok (.ifCond .ne 12, 3) := by decide +kernel
theorem dX11_point_11 : decode cX11_point 11 = .ok (.ldc 92, 2) := by decide +kernel
theorem dX11_point_13 : decode cX11_point 13 = .ok (.aload_n 0, 1) := by decide +kernel
theorem dX11_point_14 : decode cX11_point 14 = .ok (.iconst (-1), 1) := by decide +kernel
theorem dX11_point_15 : decode cX11_point 15 = .ok (.invokevirtual 43, 3) := by decide +kernel
theorem dX11_point_18 : decode cX11_point 18 = .ok (.isub, 1) := by decide +kernel
theorem dX11_point_19 : decode cX11_point 19 = .ok (.ireturn, 1) := by decide +kernel
theorem dX11_point_20 : decode cX11_point 20 = .ok (.iload_n 2, 1) := by decide +kernel
theorem dX11_point_21 : decode cX11_point 21 = .ok (.lookupswitch 45 #[(0, 27), (1, 36)], 27) := by decide +kernel
theorem dX11_point_48 : decode cX11_point 48 = .ok (.aload_n 0, 1) := by decide +kernel
theorem dX11_point_49 : decode cX11_point 49 = .ok (.getfield 10, 3) := by decide +kernel
theorem dX11_point_52 : decode cX11_point 52 = .ok (.iload_n 1, 1) := by decide +kernel
theorem dX11_point_53 : decode cX11_point 53 = .ok (.invokevirtual 93, 3) := by decide +kernel
theorem dX11_point_56 : decode cX11_point 56 = .ok (.ireturn, 1) := by decide +kernel
theorem dX11_point_57 : decode cX11_point 57 = .ok (.aload_n 0, 1) := by decide +kernel
theorem dX11_point_58 : decode cX11_point 58 = .ok (.getfield 10, 3) := by decide +kernel
theorem dX11_point_61 : decode cX11_point 61 = .ok (.iload_n 1, 1) := by decide +kernel
theorem dX11_point_62 : decode cX11_point 62 = .ok (.invokevirtual 96, 3) := by decide +kernel
theorem dX11_point_65 : decode cX11_point 65 = .ok (.ireturn, 1) := by decide +kernel
theorem dX11_point_66 : decode cX11_point 66 = .ok (.ldc 92, 2) := by decide +kernel
theorem dX11_point_68 : decode cX11_point 68 = .ok (.aload_n 0, 1) := by decide +kernel
theorem dX11_point_69 : decode cX11_point 69 = .ok (.bipush (-2), 2) := by decide +kernel
theorem dX11_point_71 : decode cX11_point 71 = .ok (.invokevirtual 43, 3) := by decide +kernel
theorem dX11_point_74 : decode cX11_point 74 = .ok (.isub, 1) := by decide +kernel
theorem dX11_point_75 : decode cX11_point 75 = .ok (.ireturn, 1) := by decide +kernel
theorem dX11_shore_0 : decode cX11_shore 0 = .ok (.aload_n 0, 1) := by decide +kernel
theorem dX11_shore_1 : decode cX11_shore 1 = .ok (.getfield 10, 3) := by decide +kernel
theorem dX11_shore_4 : decode cX11_shore 4 = .ok (.iload_n 1, 1) := by decide +kernel
theorem dX11_shore_5 : decode cX11_shore 5 = .ok (.invokevirtual 89, 3) := by decide +kernel
theorem dX11_shore_8 : decode cX11_shore 8 = .ok (.ifCond .ne 9, 3) := by decide +kernel
theorem dX11_shore_11 : decode cX11_shore 11 = .ok (.aload_n 0, 1) := by decide +kernel
theorem dX11_shore_12 : decode cX11_shore 12 = .ok (.iconst (-1), 1) := by decide +kernel
theorem dX11_shore_13 : decode cX11_shore 13 = .ok (.invokevirtual 43, 3) := by decide +kernel
theorem dX11_shore_16 : decode cX11_shore 16 = .ok (.ireturn, 1) := by decide +kernel
theorem dX11_shore_17 : decode cX11_shore 17 = .ok (.aload_n 0, 1) := by decide +kernel
theorem dX11_shore_18 : decode cX11_shore 18 = .ok (.getfield 10, 3) := by decide +kernel
theorem dX11_shore_21 : decode cX11_shore 21 = .ok (.invokevirtual 99, 3) := by decide +kernel
theorem dX11_shore_24 : decode cX11_shore 24 = .ok (.iload_n 1, 1) := by decide +kernel
theorem dX11_shore_25 : decode cX11_shore 25 = .ok (.invokestatic 103, 3) := by decide +kernel
theorem dX11_shore_28 : decode cX11_shore 28 = .ok (.ifCond .eq 7, 3) := by decide +kernel
theorem dX11_shore_31 : decode cX11_shore 31 = .ok (.iconst 1, 1) := by decide +kernel
theorem dX11_shore_32 : decode cX11_shore 32 = .ok (.goto 4, 3) := by decide +kernel
theorem dX11_shore_35 : decode cX11_shore 35 = .ok (.iconst 0, 1) := by decide +kernel
theorem dX11_shore_36 : decode cX11_shore 36 = .ok (.ireturn, 1) := by decide +kernel
theorem dX11_tide_0 : decode cX11_tide 0 = .ok (.iload_n 1, 1) := by decide +kernel
theorem dX11_tide_1 : decode cX11_tide 1 = .ok (.ifCond .ge 10, 3) := by decide +kernel
theorem dX11_tide_4 : decode cX11_tide 4 = .ok (.aload_n 0, 1) := by decide +kernel
theorem dX11_tide_5 : decode cX11_tide 5 = .ok (.bipush (-4), 2) := by decide +kernel
theorem dX11_tide_7 : decode cX11_tide 7 = .ok (.invokevirtual 43, 3) := by decide +kernel
theorem dX11_tide_10 : decode cX11_tide 10 = .ok (.ireturn, 1) := by decide +kernel
theorem dX11_tide_11 : decode cX11_tide 11 = .ok (.iload_n 1, 1) := by decide +kernel
theorem dX11_tide_12 : decode cX11_tide 12 = .ok (.bipush 9, 2) := by decide +kernel
theorem dX11_tide_14 : decode cX11_tide 14 = .ok (.if_icmp .le 10, 3) := by decide +kernel
theorem dX11_tide_17 : decode cX11_tide 17 = .ok (.aload_n 0, 1) := by decide +kernel
theorem dX11_tide_18 : decode cX11_tide 18 = .ok (.bipush (-6), 2) := by decide +kernel
theorem dX11_tide_20 : decode cX11_tide 20 = .ok (.invokevirtual 43, 3) := by decide +kernel
theorem dX11_tide_23 : decode cX11_tide 23 = .ok (.ireturn, 1) := by decide +kernel
theorem dX11_tide_24 : decode cX11_tide 24 = .ok (.aload_n 0, 1) := by decide +kernel
theorem dX11_tide_25 : decode cX11_tide 25 = .ok (.getfield 10, 3) := by decide +kernel
theorem dX11_tide_28 : decode cX11_tide 28 = .ok (.getfield 80, 3) := by decide +kernel
theorem dX11_tide_31 : decode cX11_tide 31 = .ok (.istore_n 2, 1) := by decide +kernel
theorem dX11_tide_32 : decode cX11_tide 32 = .ok (.aload_n 0, 1) := by decide +kernel
theorem dX11_tide_33 : decode cX11_tide 33 = .ok (.getfield 10, 3) := by decide +kernel
theorem dX11_tide_36 : decode cX11_tide 36 = .ok (.iload_n 1, 1) := by decide +kernel
theorem dX11_tide_37 : decode cX11_tide 37 = .ok (.putfield 80, 3) := by decide +kernel
theorem dX11_tide_40 : decode cX11_tide 40 = .ok (.iload_n 2, 1) := by decide +kernel
theorem dX11_tide_41 : decode cX11_tide 41 = .ok (.ireturn, 1) := by decide +kernel
theorem dX11_walk_0 : decode cX11_walk 0 = .ok (.iload_n 3, 1) := by decide +kernel
theorem dX11_walk_1 : decode cX11_walk 1 = .ok (.ifCond .lt 8, 3) := by decide +kernel
theorem dX11_walk_4 : decode cX11_walk 4 = .ok (.iload_n 3, 1) := by decide +kernel
theorem dX11_walk_5 : decode cX11_walk 5 = .ok (.iconst 4, 1) := by decide +kernel
theorem dX11_walk_6 : decode cX11_walk 6 = .ok (.if_icmp .le 10, 3) := by decide +kernel
theorem dX11_walk_9 : decode cX11_walk 9 = .ok (.aload_n 0, 1) := by decide +kernel
theorem dX11_walk_10 : decode cX11_walk 10 = .ok (.bipush (-2), 2) := by decide +kernel
theorem dX11_walk_12 : decode cX11_walk 12 = .ok (.invokevirtual 43, 3) := by decide +kernel
theorem dX11_walk_15 : decode cX11_walk 15 = .ok (.ireturn, 1) := by decide +kernel
theorem dX11_walk_16 : decode cX11_walk 16 = .ok (.iload_n 1, 1) := by decide +kernel
theorem dX11_walk_17 : decode cX11_walk 17 = .ok (.iload_n 2, 1) := by decide +kernel
theorem dX11_walk_18 : decode cX11_walk 18 = .ok (.invokestatic 107, 3) := by decide +kernel
theorem dX11_walk_21 : decode cX11_walk 21 = .ok (.istore 4, 2) := by decide +kernel
theorem dX11_walk_23 : decode cX11_walk 23 = .ok (.iload 4, 2) := by decide +kernel
theorem dX11_walk_25 : decode cX11_walk 25 = .ok (.ifCond .eq 10, 3) := by decide +kernel
theorem dX11_walk_28 : decode cX11_walk 28 = .ok (.aload_n 0, 1) := by decide +kernel
theorem dX11_walk_29 : decode cX11_walk 29 = .ok (.iload 4, 2) := by decide +kernel
theorem dX11_walk_31 : decode cX11_walk 31 = .ok (.invokevirtual 43, 3) := by decide +kernel
theorem dX11_walk_34 : decode cX11_walk 34 = .ok (.ireturn, 1) := by decide +kernel
theorem dX11_walk_35 : decode cX11_walk 35 = .ok (.aload_n 0, 1) := by decide +kernel
theorem dX11_walk_36 : decode cX11_walk 36 = .ok (.getfield 10, 3) := by decide +kernel
theorem dX11_walk_39 : decode cX11_walk 39 = .ok (.invokevirtual 99, 3) := by decide +kernel
theorem dX11_walk_42 : decode cX11_walk 42 = .ok (.lstore 5, 2) := by decide +kernel
theorem dX11_walk_44 : decode cX11_walk 44 = .ok (.aload_n 0, 1) := by decide +kernel
theorem dX11_walk_45 : decode cX11_walk 45 = .ok (.getfield 10, 3) := by decide +kernel
theorem dX11_walk_48 : decode cX11_walk 48 = .ok (.lload 5, 2) := by decide +kernel
theorem dX11_walk_50 : decode cX11_walk 50 = .ok (.iload_n 1, 1) := by decide +kernel
theorem dX11_walk_51 : decode cX11_walk 51 = .ok (.iload_n 2, 1) := by decide +kernel
theorem dX11_walk_52 : decode cX11_walk 52 = .ok (.invokevirtual 111, 3) := by decide +kernel
theorem dX11_walk_55 : decode cX11_walk 55 = .ok (.lstore 7, 2) := by decide +kernel
theorem dX11_walk_57 : decode cX11_walk 57 = .ok (.iload_n 3, 1) := by decide +kernel
theorem dX11_walk_58 : decode cX11_walk 58 = .ok (.tableswitch 58 0 3 #[30, 36, 44, 52], 30) := by decide +kernel
theorem dX11_walk_88 : decode cX11_walk 88 = .ok (.lload 7, 2) := by decide +kernel
theorem dX11_walk_90 : decode cX11_walk 90 = .ok (.invokestatic 115, 3) := by decide +kernel
theorem dX11_walk_93 : decode cX11_walk 93 = .ok (.ireturn, 1) := by decide +kernel
theorem dX11_walk_94 : decode cX11_walk 94 = .ok (.iload_n 1, 1) := by decide +kernel
theorem dX11_walk_95 : decode cX11_walk 95 = .ok (.lload 7, 2) := by decide +kernel
theorem dX11_walk_97 : decode cX11_walk 97 = .ok (.invokestatic 115, 3) := by decide +kernel
theorem dX11_walk_100 : decode cX11_walk 100 = .ok (.imul, 1) := by decide +kernel
theorem dX11_walk_101 : decode cX11_walk 101 = .ok (.ireturn, 1) := by decide +kernel
theorem dX11_walk_102 : decode cX11_walk 102 = .ok (.aload_n 0, 1) := by decide +kernel
theorem dX11_walk_103 : decode cX11_walk 103 = .ok (.lload 7, 2) := by decide +kernel
theorem dX11_walk_105 : decode cX11_walk 105 = .ok (.iload_n 1, 1) := by decide +kernel
theorem dX11_walk_106 : decode cX11_walk 106 = .ok (.invokevirtual 119, 3) := by decide +kernel
theorem dX11_walk_109 : decode cX11_walk 109 = .ok (.ireturn, 1) := by decide +kernel
theorem dX11_walk_110 : decode cX11_walk 110 = .ok (.lload 7, 2) := by decide +kernel
theorem dX11_walk_112 : decode cX11_walk 112 = .ok (.invokestatic 123, 3) := by decide +kernel
theorem dX11_walk_115 : decode cX11_walk 115 = .ok (.ireturn, 1) := by decide +kernel
theorem dX11_walk_116 : decode cX11_walk 116 = .ok (.lload 5, 2) := by decide +kernel
theorem dX11_walk_118 : decode cX11_walk 118 = .ok (.lload 7, 2) := by decide +kernel
theorem dX11_walk_120 : decode cX11_walk 120 = .ok (.invokestatic 126, 3) := by decide +kernel
theorem dX11_walk_123 : decode cX11_walk 123 = .ok (.ireturn, 1) := by decide +kernel
theorem dX11_place_0 : decode cX11_place 0 = .ok (.iload_n 3, 1) := by decide +kernel
theorem dX11_place_1 : decode cX11_place 1 = .ok (.ifCond .ge 10, 3) := by decide +kernel
theorem dX11_place_4 : decode cX11_place 4 = .ok (.aload_n 0, 1) := by decide +kernel
theorem dX11_place_5 : decode cX11_place 5 = .ok (.bipush (-4), 2) := by decide +kernel
theorem dX11_place_7 : decode cX11_place 7 = .ok (.invokevirtual 43, 3) := by decide +kernel
theorem dX11_place_10 : decode cX11_place 10 = .ok (.ireturn, 1) := by decide +kernel
theorem dX11_place_11 : decode cX11_place 11 = .ok (.iload_n 1, 1) := by decide +kernel
theorem dX11_place_12 : decode cX11_place 12 = .ok (.iload_n 2, 1) := by decide +kernel
theorem dX11_place_13 : decode cX11_place 13 = .ok (.invokestatic 107, 3) := by decide +kernel
theorem dX11_place_16 : decode cX11_place 16 = .ok (.istore 4, 2) := by decide +kernel
theorem dX11_place_18 : decode cX11_place 18 = .ok (.iload 4, 2) := by decide +kernel
theorem dX11_place_20 : decode cX11_place 20 = .ok (.ifCond .eq 10, 3) := by decide +kernel
theorem dX11_place_23 : decode cX11_place 23 = .ok (.aload_n 0, 1) := by decide +kernel
theorem dX11_place_24 : decode cX11_place 24 = .ok (.iload 4, 2) := by decide +kernel
theorem dX11_place_26 : decode cX11_place 26 = .ok (.invokevirtual 43, 3) := by decide +kernel
theorem dX11_place_29 : decode cX11_place 29 = .ok (.ireturn, 1) := by decide +kernel
theorem dX11_place_30 : decode cX11_place 30 = .ok (.aload_n 0, 1) := by decide +kernel
theorem dX11_place_31 : decode cX11_place 31 = .ok (.getfield 10, 3) := by decide +kernel
theorem dX11_place_34 : decode cX11_place 34 = .ok (.aload_n 0, 1) := by decide +kernel
theorem dX11_place_35 : decode cX11_place 35 = .ok (.getfield 10, 3) := by decide +kernel
theorem dX11_place_38 : decode cX11_place 38 = .ok (.invokevirtual 99, 3) := by decide +kernel
theorem dX11_place_41 : decode cX11_place 41 = .ok (.iload_n 1, 1) := by decide +kernel
theorem dX11_place_42 : decode cX11_place 42 = .ok (.iload_n 2, 1) := by decide +kernel
theorem dX11_place_43 : decode cX11_place 43 = .ok (.invokevirtual 111, 3) := by decide +kernel
theorem dX11_place_46 : decode cX11_place 46 = .ok (.iload_n 3, 1) := by decide +kernel
theorem dX11_place_47 : decode cX11_place 47 = .ok (.invokestatic 130, 3) := by decide +kernel
theorem dX11_place_50 : decode cX11_place 50 = .ok (.ireturn, 1) := by decide +kernel
theorem dX11_best_0 : decode cX11_best 0 = .ok (.iload_n 1, 1) := by decide +kernel
theorem dX11_best_1 : decode cX11_best 1 = .ok (.ifCond .lt 17, 3) := by decide +kernel
theorem dX11_best_4 : decode cX11_best 4 = .ok (.iload_n 1, 1) := by decide +kernel
theorem dX11_best_5 : decode cX11_best 5 = .ok (.iconst 2, 1) := by decide +kernel
theorem dX11_best_6 : decode cX11_best 6 = .ok (.if_icmp .gt 12, 3) := by decide +kernel
theorem dX11_best_9 : decode cX11_best 9 = .ok (.iload_n 2, 1) := by decide +kernel
theorem dX11_best_10 : decode cX11_best 10 = .ok (.ifCond .lt 8, 3) := by decide +kernel
theorem dX11_best_13 : decode cX11_best 13 = .ok (.iload_n 2, 1) := by decide +kernel
theorem dX11_best_14 : decode cX11_best 14 = .ok (.iconst 1, 1) := by decide +kernel
theorem dX11_best_15 : decode cX11_best 15 = .ok (.if_icmp .le 10, 3) := by decide +kernel
theorem dX11_best_18 : decode cX11_best 18 = .ok (.aload_n 0, 1) := by decide +kernel
theorem dX11_best_19 : decode cX11_best 19 = .ok (.bipush (-2), 2) := by decide +kernel
theorem dX11_best_21 : decode cX11_best 21 = .ok (.invokevirtual 43, 3) := by decide +kernel
theorem dX11_best_24 : decode cX11_best 24 = .ok (.ireturn, 1) := by decide +kernel
theorem dX11_best_25 : decode cX11_best 25 = .ok (.aload_n 0, 1) := by decide +kernel
theorem dX11_best_26 : decode cX11_best 26 = .ok (.getfield 10, 3) := by decide +kernel
theorem dX11_best_29 : decode cX11_best 29 = .ok (.invokevirtual 99, 3) := by decide +kernel
theorem dX11_best_32 : decode cX11_best 32 = .ok (.lstore_n 3, 1) := by decide +kernel
theorem dX11_best_33 : decode cX11_best 33 = .ok (.bipush (-9), 2) := by decide +kernel
theorem dX11_best_35 : decode cX11_best 35 = .ok (.istore 5, 2) := by decide +kernel
theorem dX11_best_37 : decode cX11_best 37 = .ok (.iconst 0, 1) := by decide +kernel
theorem dX11_best_38 : decode cX11_best 38 = .ok (.istore 6, 2) := by decide +kernel
theorem dX11_best_40 : decode cX11_best 40 = .ok (.iconst 1, 1) := by decide +kernel
theorem dX11_best_41 : decode cX11_best 41 = .ok (.istore 7, 2) := by decide +kernel
theorem dX11_best_43 : decode cX11_best 43 = .ok (.iload 7, 2) := by decide +kernel
theorem dX11_best_45 : decode cX11_best 45 = .ok (.bipush 9, 2) := by decide +kernel
theorem dX11_best_47 : decode cX11_best 47 = .ok (.if_icmp .gt 125, 3) := by decide +kernel
theorem dX11_best_50 : decode cX11_best 50 = .ok (.iconst 0, 1) := by decide +kernel
theorem dX11_best_51 : decode cX11_best 51 = .ok (.istore 8, 2) := by decide +kernel
theorem dX11_best_53 : decode cX11_best 53 = .ok (.iload 8, 2) := by decide +kernel
theorem dX11_best_55 : decode cX11_best 55 = .ok (.bipush 9, 2) := by decide +kernel
theorem dX11_best_57 : decode cX11_best 57 = .ok (.if_icmp .gt 109, 3) := by decide +kernel
theorem dX11_best_60 : decode cX11_best 60 = .ok (.aload_n 0, 1) := by decide +kernel
theorem dX11_best_61 : decode cX11_best 61 = .ok (.getfield 10, 3) := by decide +kernel
theorem dX11_best_64 : decode cX11_best 64 = .ok (.lload_n 3, 1) := by decide +kernel
theorem dX11_best_65 : decode cX11_best 65 = .ok (.iload 7, 2) := by decide +kernel
theorem dX11_best_67 : decode cX11_best 67 = .ok (.iload 8, 2) := by decide +kernel
theorem dX11_best_69 : decode cX11_best 69 = .ok (.invokevirtual 111, 3) := by decide +kernel
theorem dX11_best_72 : decode cX11_best 72 = .ok (.lstore 9, 2) := by decide +kernel
theorem dX11_best_74 : decode cX11_best 74 = .ok (.iload_n 1, 1) := by decide +kernel
theorem dX11_best_75 : decode cX11_best 75 = .ok (.iconst 2, 1) := by decide +kernel
theorem dX11_best_76 : decode cX11_best 76 = .ok (.if_icmp .ne 14, 3) := by decide +kernel
theorem dX11_best_79 : decode cX11_best 79 = .ok (.iload 7, 2) := by decide +kernel
theorem dX11_best_81 : decode cX11_best 81 = .ok (.lload 9, 2) := by decide +kernel
theorem dX11_best_83 : decode cX11_best 83 = .ok (.invokestatic 115, 3) := by decide +kernel
theorem dX11_best_86 : decode cX11_best 86 = .ok (.imul, 1) := by decide +kernel
theorem dX11_best_87 : decode cX11_best 87 = .ok (.goto 11, 3) := by decide +kernel
theorem dX11_best_90 : decode cX11_best 90 = .ok (.aload_n 0, 1) := by decide +kernel
theorem dX11_best_91 : decode cX11_best 91 = .ok (.lload 9, 2) := by decide +kernel
theorem dX11_best_93 : decode cX11_best 93 = .ok (.iload 7, 2) := by decide +kernel
theorem dX11_best_95 : decode cX11_best 95 = .ok (.invokevirtual 119, 3) := by decide +kernel
theorem dX11_best_98 : decode cX11_best 98 = .ok (.istore 11, 2) := by decide +kernel
theorem dX11_best_100 : decode cX11_best 100 = .ok (.iload_n 1, 1) := by decide +kernel
theorem dX11_best_101 : decode cX11_best 101 = .ok (.iconst 1, 1) := by decide +kernel
theorem dX11_best_102 : decode cX11_best 102 = .ok (.if_icmp .ne 18, 3) := by decide +kernel
theorem dX11_best_105 : decode cX11_best 105 = .ok (.iload 11, 2) := by decide +kernel
theorem dX11_best_107 : decode cX11_best 107 = .ok (.iload 6, 2) := by decide +kernel
theorem dX11_best_109 : decode cX11_best 109 = .ok (.if_icmp .ge 7, 3) := by decide +kernel
theorem dX11_best_112 : decode cX11_best 112 = .ok (.iconst 1, 1) := by decide +kernel
theorem dX11_best_113 : decode cX11_best 113 = .ok (.goto 19, 3) := by decide +kernel
theorem dX11_best_116 : decode cX11_best 116 = .ok (.iconst 0, 1) := by decide +kernel
theorem dX11_best_117 : decode cX11_best 117 = .ok (.goto 15, 3) := by decide +kernel
theorem dX11_best_120 : decode cX11_best 120 = .ok (.iload 11, 2) := by decide +kernel
theorem dX11_best_122 : decode cX11_best 122 = .ok (.iload 6, 2) := by decide +kernel
theorem dX11_best_124 : decode cX11_best 124 = .ok (.if_icmp .le 7, 3) := by decide +kernel
theorem dX11_best_127 : decode cX11_best 127 = .ok (.iconst 1, 1) := by decide +kernel
theorem dX11_best_128 : decode cX11_best 128 = .ok (.goto 4, 3) := by decide +kernel
theorem dX11_best_131 : decode cX11_best 131 = .ok (.iconst 0, 1) := by decide +kernel
theorem dX11_best_132 : decode cX11_best 132 = .ok (.istore 12, 2) := by decide +kernel
theorem dX11_best_134 : decode cX11_best 134 = .ok (.iload 5, 2) := by decide +kernel
theorem dX11_best_136 : decode cX11_best 136 = .ok (.bipush (-9), 2) := by decide +kernel
theorem dX11_best_138 : decode cX11_best 138 = .ok (.if_icmp .eq 8, 3) := by decide +kernel
theorem dX11_best_141 : decode cX11_best 141 = .ok (.iload 12, 2) := by decide +kernel
theorem dX11_best_143 : decode cX11_best 143 = .ok (.ifCond .eq 17, 3) := by decide +kernel
theorem dX11_best_146 : decode cX11_best 146 = .ok (.bipush 10, 2) := by decide +kernel
theorem dX11_best_148 : decode cX11_best 148 = .ok (.iload 7, 2) := by decide +kernel
theorem dX11_best_150 : decode cX11_best 150 = .ok (.imul, 1) := by decide +kernel
theorem dX11_best_151 : decode cX11_best 151 = .ok (.iload 8, 2) := by decide +kernel
theorem dX11_best_153 : decode cX11_best 153 = .ok (.iadd, 1) := by decide +kernel
theorem dX11_best_154 : decode cX11_best 154 = .ok (.istore 5, 2) := by decide +kernel
theorem dX11_best_156 : decode cX11_best 156 = .ok (.iload 11, 2) := by decide +kernel
theorem dX11_best_158 : decode cX11_best 158 = .ok (.istore 6, 2) := by decide +kernel
theorem dX11_best_160 : decode cX11_best 160 = .ok (.iinc 8 1, 3) := by decide +kernel
theorem dX11_best_163 : decode cX11_best 163 = .ok (.goto (-110), 3) := by decide +kernel
theorem dX11_best_166 : decode cX11_best 166 = .ok (.iinc 7 1, 3) := by decide +kernel
theorem dX11_best_169 : decode cX11_best 169 = .ok (.goto (-126), 3) := by decide +kernel
theorem dX11_best_172 : decode cX11_best 172 = .ok (.iload_n 2, 1) := by decide +kernel
theorem dX11_best_173 : decode cX11_best 173 = .ok (.ifCond .ne 8, 3) := by decide +kernel
theorem dX11_best_176 : decode cX11_best 176 = .ok (.iload 5, 2) := by decide +kernel
theorem dX11_best_178 : decode cX11_best 178 = .ok (.goto 5, 3) := by decide +kernel
theorem dX11_best_181 : decode cX11_best 181 = .ok (.iload 6, 2) := by decide +kernel
theorem dX11_best_183 : decode cX11_best 183 = .ok (.ireturn, 1) := by decide +kernel
theorem dX11_span_0 : decode cX11_span 0 = .ok (.iload_n 1, 1) := by decide +kernel
theorem dX11_span_1 : decode cX11_span 1 = .ok (.invokestatic 133, 3) := by decide +kernel
theorem dX11_span_4 : decode cX11_span 4 = .ok (.istore_n 2, 1) := by decide +kernel
theorem dX11_span_5 : decode cX11_span 5 = .ok (.iload_n 2, 1) := by decide +kernel
theorem dX11_span_6 : decode cX11_span 6 = .ok (.ifCond .eq 9, 3) := by decide +kernel
theorem dX11_span_9 : decode cX11_span 9 = .ok (.aload_n 0, 1) := by decide +kernel
theorem dX11_span_10 : decode cX11_span 10 = .ok (.iload_n 2, 1) := by decide +kernel
theorem dX11_span_11 : decode cX11_span 11 = .ok (.invokevirtual 43, 3) := by decide +kernel
theorem dX11_span_14 : decode cX11_span 14 = .ok (.ireturn, 1) := by decide +kernel
theorem dX11_span_15 : decode cX11_span 15 = .ok (.aload_n 0, 1) := by decide +kernel
theorem dX11_span_16 : decode cX11_span 16 = .ok (.getfield 10, 3) := by decide +kernel
theorem dX11_span_19 : decode cX11_span 19 = .ok (.invokevirtual 99, 3) := by decide +kernel
theorem dX11_span_22 : decode cX11_span 22 = .ok (.lstore_n 3, 1) := by decide +kernel
theorem dX11_span_23 : decode cX11_span 23 = .ok (.aload_n 0, 1) := by decide +kernel
theorem dX11_span_24 : decode cX11_span 24 = .ok (.getfield 10, 3) := by decide +kernel
theorem dX11_span_27 : decode cX11_span 27 = .ok (.lload_n 3, 1) := by decide +kernel
theorem dX11_span_28 : decode cX11_span 28 = .ok (.iload_n 1, 1) := by decide +kernel
theorem dX11_span_29 : decode cX11_span 29 = .ok (.iconst 0, 1) := by decide +kernel
theorem dX11_span_30 : decode cX11_span 30 = .ok (.invokevirtual 136, 3) := by decide +kernel
theorem dX11_span_33 : decode cX11_span 33 = .ok (.istore 5, 2) := by decide +kernel
theorem dX11_span_35 : decode cX11_span 35 = .ok (.iload 5, 2) := by decide +kernel
theorem dX11_span_37 : decode cX11_span 37 = .ok (.istore 6, 2) := by decide +kernel
theorem dX11_span_39 : decode cX11_span 39 = .ok (.iconst 1, 1) := by decide +kernel
theorem dX11_span_40 : decode cX11_span 40 = .ok (.istore 7, 2) := by decide +kernel
theorem dX11_span_42 : decode cX11_span 42 = .ok (.iload 7, 2) := by decide +kernel
theorem dX11_span_44 : decode cX11_span 44 = .ok (.bipush 9, 2) := by decide +kernel
theorem dX11_span_46 : decode cX11_span 46 = .ok (.if_icmp .gt 40, 3) := by decide +kernel
theorem dX11_span_49 : decode cX11_span 49 = .ok (.aload_n 0, 1) := by decide +kernel
theorem dX11_span_50 : decode cX11_span 50 = .ok (.getfield 10, 3) := by decide +kernel
theorem dX11_span_53 : decode cX11_span 53 = .ok (.lload_n 3, 1) := by decide +kernel
theorem dX11_span_54 : decode cX11_span 54 = .ok (.iload_n 1, 1) := by decide +kernel
theorem dX11_span_55 : decode cX11_span 55 = .ok (.iload 7, 2) := by decide +kernel
theorem dX11_span_57 : decode cX11_span 57 = .ok (.invokevirtual 136, 3) := by decide +kernel
theorem dX11_span_60 : decode cX11_span 60 = .ok (.istore 8, 2) := by decide +kernel
theorem dX11_span_62 : decode cX11_span 62 = .ok (.iload 5, 2) := by decide +kernel
theorem dX11_span_64 : decode cX11_span 64 = .ok (.iload 8, 2) := by decide +kernel
theorem dX11_span_66 : decode cX11_span 66 = .ok (.invokestatic 140, 3) := by decide +kernel
theorem dX11_span_69 : decode cX11_span 69 = .ok (.istore 5, 2) := by decide +kernel
theorem dX11_span_71 : decode cX11_span 71 = .ok (.iload 6, 2) := by decide +kernel
theorem dX11_span_73 : decode cX11_span 73 = .ok (.iload 8, 2) := by decide +kernel
theorem dX11_span_75 : decode cX11_span 75 = .ok (.invokestatic 145, 3) := by decide +kernel
theorem dX11_span_78 : decode cX11_span 78 = .ok (.istore 6, 2) := by decide +kernel
theorem dX11_span_80 : decode cX11_span 80 = .ok (.iinc 7 1, 3) := by decide +kernel
theorem dX11_span_83 : decode cX11_span 83 = .ok (.goto (-41), 3) := by decide +kernel
theorem dX11_span_86 : decode cX11_span 86 = .ok (.iload 5, 2) := by decide +kernel
theorem dX11_span_88 : decode cX11_span 88 = .ok (.iload 6, 2) := by decide +kernel
theorem dX11_span_90 : decode cX11_span 90 = .ok (.isub, 1) := by decide +kernel
theorem dX11_span_91 : decode cX11_span 91 = .ok (.ireturn, 1) := by decide +kernel
theorem dX11_finer_0 : decode cX11_finer 0 = .ok (.iconst 1, 1) := by decide +kernel
theorem dX11_finer_1 : decode cX11_finer 1 = .ok (.iload_n 1, 1) := by decide +kernel
theorem dX11_finer_2 : decode cX11_finer 2 = .ok (.invokestatic 107, 3) := by decide +kernel
theorem dX11_finer_5 : decode cX11_finer 5 = .ok (.istore_n 2, 1) := by decide +kernel
theorem dX11_finer_6 : decode cX11_finer 6 = .ok (.iload_n 2, 1) := by decide +kernel
theorem dX11_finer_7 : decode cX11_finer 7 = .ok (.ifCond .eq 9, 3) := by decide +kernel
theorem dX11_finer_10 : decode cX11_finer 10 = .ok (.aload_n 0, 1) := by decide +kernel
theorem dX11_finer_11 : decode cX11_finer 11 = .ok (.iload_n 2, 1) := by decide +kernel
theorem dX11_finer_12 : decode cX11_finer 12 = .ok (.invokevirtual 43, 3) := by decide +kernel
theorem dX11_finer_15 : decode cX11_finer 15 = .ok (.ireturn, 1) := by decide +kernel
theorem dX11_finer_16 : decode cX11_finer 16 = .ok (.aload_n 0, 1) := by decide +kernel
theorem dX11_finer_17 : decode cX11_finer 17 = .ok (.getfield 10, 3) := by decide +kernel
theorem dX11_finer_20 : decode cX11_finer 20 = .ok (.invokevirtual 99, 3) := by decide +kernel
theorem dX11_finer_23 : decode cX11_finer 23 = .ok (.lstore_n 3, 1) := by decide +kernel
theorem dX11_finer_24 : decode cX11_finer 24 = .ok (.iconst 0, 1) := by decide +kernel
theorem dX11_finer_25 : decode cX11_finer 25 = .ok (.istore 5, 2) := by decide +kernel
theorem dX11_finer_27 : decode cX11_finer 27 = .ok (.aload_n 0, 1) := by decide +kernel
theorem dX11_finer_28 : decode cX11_finer 28 = .ok (.getfield 10, 3) := by decide +kernel
theorem dX11_finer_31 : decode cX11_finer 31 = .ok (.lload_n 3, 1) := by decide +kernel
theorem dX11_finer_32 : decode cX11_finer 32 = .ok (.iconst 1, 1) := by decide +kernel
theorem dX11_finer_33 : decode cX11_finer 33 = .ok (.iload_n 1, 1) := by decide +kernel
theorem dX11_finer_34 : decode cX11_finer 34 = .ok (.invokevirtual 136, 3) := by decide +kernel
theorem dX11_finer_37 : decode cX11_finer 37 = .ok (.istore 6, 2) := by decide +kernel
theorem dX11_finer_39 : decode cX11_finer 39 = .ok (.iconst 2, 1) := by decide +kernel
theorem dX11_finer_40 : decode cX11_finer 40 = .ok (.istore 7, 2) := by decide +kernel
theorem dX11_finer_42 : decode cX11_finer 42 = .ok (.iload 7, 2) := by decide +kernel
theorem dX11_finer_44 : decode cX11_finer 44 = .ok (.bipush 9, 2) := by decide +kernel
theorem dX11_finer_46 : decode cX11_finer 46 = .ok (.if_icmp .gt 36, 3) := by decide +kernel
theorem dX11_finer_49 : decode cX11_finer 49 = .ok (.aload_n 0, 1) := by decide +kernel
theorem dX11_finer_50 : decode cX11_finer 50 = .ok (.getfield 10, 3) := by decide +kernel
theorem dX11_finer_53 : decode cX11_finer 53 = .ok (.lload_n 3, 1) := by decide +kernel
theorem dX11_finer_54 : decode cX11_finer 54 = .ok (.iload 7, 2) := by decide +kernel
theorem dX11_finer_56 : decode cX11_finer 56 = .ok (.iload_n 1, 1) := by decide +kernel
theorem dX11_finer_57 : decode cX11_finer 57 = .ok (.invokevirtual 136, 3) := by decide +kernel
theorem dX11_finer_60 : decode cX11_finer 60 = .ok (.istore 8, 2) := by decide +kernel
theorem dX11_finer_62 : decode cX11_finer 62 = .ok (.iload 8, 2) := by decide +kernel
theorem dX11_finer_64 : decode cX11_finer 64 = .ok (.iload 6, 2) := by decide +kernel
theorem dX11_finer_66 : decode cX11_finer 66 = .ok (.if_icmp .le 6, 3) := by decide +kernel
theorem dX11_finer_69 : decode cX11_finer 69 = .ok (.iinc 5 1, 3) := by decide +kernel
theorem dX11_finer_72 : decode cX11_finer 72 = .ok (.iload 8, 2) := by decide +kernel
theorem dX11_finer_74 : decode cX11_finer 74 = .ok (.istore 6, 2) := by decide +kernel
theorem dX11_finer_76 : decode cX11_finer 76 = .ok (.iinc 7 1, 3) := by decide +kernel
theorem dX11_finer_79 : decode cX11_finer 79 = .ok (.goto (-37), 3) := by decide +kernel
theorem dX11_finer_82 : decode cX11_finer 82 = .ok (.iload 5, 2) := by decide +kernel
theorem dX11_finer_84 : decode cX11_finer 84 = .ok (.ireturn, 1) := by decide +kernel
theorem dX11_two_0 : decode cX11_two 0 = .ok (.iload_n 3, 1) := by decide +kernel
theorem dX11_two_1 : decode cX11_two 1 = .ok (.ifCond .lt 8, 3) := by decide +kernel
theorem dX11_two_4 : decode cX11_two 4 = .ok (.iload_n 3, 1) := by decide +kernel
theorem dX11_two_5 : decode cX11_two 5 = .ok (.iconst 1, 1) := by decide +kernel
theorem dX11_two_6 : decode cX11_two 6 = .ok (.if_icmp .le 10, 3) := by decide +kernel
theorem dX11_two_9 : decode cX11_two 9 = .ok (.aload_n 0, 1) := by decide +kernel
theorem dX11_two_10 : decode cX11_two 10 = .ok (.bipush (-2), 2) := by decide +kernel
theorem dX11_two_12 : decode cX11_two 12 = .ok (.invokevirtual 43, 3) := by decide +kernel
theorem dX11_two_15 : decode cX11_two 15 = .ok (.ireturn, 1) := by decide +kernel
theorem dX11_two_16 : decode cX11_two 16 = .ok (.iload_n 1, 1) := by decide +kernel
theorem dX11_two_17 : decode cX11_two 17 = .ok (.iconst 1, 1) := by decide +kernel
theorem dX11_two_18 : decode cX11_two 18 = .ok (.if_icmp .lt 8, 3) := by decide +kernel
theorem dX11_two_21 : decode cX11_two 21 = .ok (.iload_n 2, 1) := by decide +kernel
theorem dX11_two_22 : decode cX11_two 22 = .ok (.iconst 1, 1) := by decide +kernel
theorem dX11_two_23 : decode cX11_two 23 = .ok (.if_icmp .ge 10, 3) := by decide +kernel
theorem dX11_two_26 : decode cX11_two 26 = .ok (.aload_n 0, 1) := by decide +kernel
theorem dX11_two_27 : decode cX11_two 27 = .ok (.bipush (-4), 2) := by decide +kernel
theorem dX11_two_29 : decode cX11_two 29 = .ok (.invokevirtual 43, 3) := by decide +kernel
theorem dX11_two_32 : decode cX11_two 32 = .ok (.ireturn, 1) := by decide +kernel
theorem dX11_two_33 : decode cX11_two 33 = .ok (.iload_n 1, 1) := by decide +kernel
theorem dX11_two_34 : decode cX11_two 34 = .ok (.bipush 9, 2) := by decide +kernel
theorem dX11_two_36 : decode cX11_two 36 = .ok (.if_icmp .gt 9, 3) := by decide +kernel
theorem dX11_two_39 : decode cX11_two 39 = .ok (.iload_n 2, 1) := by decide +kernel
theorem dX11_two_40 : decode cX11_two 40 = .ok (.bipush 9, 2) := by decide +kernel
theorem dX11_two_42 : decode cX11_two 42 = .ok (.if_icmp .le 10, 3) := by decide +kernel
theorem dX11_two_45 : decode cX11_two 45 = .ok (.aload_n 0, 1) := by decide +kernel
theorem dX11_two_46 : decode cX11_two 46 = .ok (.bipush (-6), 2) := by decide +kernel
theorem dX11_two_48 : decode cX11_two 48 = .ok (.invokevirtual 43, 3) := by decide +kernel
theorem dX11_two_51 : decode cX11_two 51 = .ok (.ireturn, 1) := by decide +kernel
theorem dX11_two_52 : decode cX11_two 52 = .ok (.aload_n 0, 1) := by decide +kernel
theorem dX11_two_53 : decode cX11_two 53 = .ok (.getfield 10, 3) := by decide +kernel
theorem dX11_two_56 : decode cX11_two 56 = .ok (.iload_n 1, 1) := by decide +kernel
theorem dX11_two_57 : decode cX11_two 57 = .ok (.iload_n 2, 1) := by decide +kernel
theorem dX11_two_58 : decode cX11_two 58 = .ok (.iload_n 3, 1) := by decide +kernel
theorem dX11_two_59 : decode cX11_two 59 = .ok (.ifCond .ne 7, 3) := by decide +kernel
theorem dX11_two_62 : decode cX11_two 62 = .ok (.iconst 1, 1) := by decide +kernel
theorem dX11_two_63 : decode cX11_two 63 = .ok (.goto 4, 3) := by decide +kernel
theorem dX11_two_66 : decode cX11_two 66 = .ok (.iconst 0, 1) := by decide +kernel
theorem dX11_two_67 : decode cX11_two 67 = .ok (.invokevirtual 148, 3) := by decide +kernel
theorem dX11_two_70 : decode cX11_two 70 = .ok (.ireturn, 1) := by decide +kernel
theorem dX11_map_0 : decode cX11_map 0 = .ok (.iload_n 2, 1) := by decide +kernel
theorem dX11_map_1 : decode cX11_map 1 = .ok (.ifCond .lt 8, 3) := by decide +kernel
theorem dX11_map_4 : decode cX11_map 4 = .ok (.iload_n 2, 1) := by decide +kernel
theorem dX11_map_5 : decode cX11_map 5 = .ok (.iconst 1, 1) := by decide +kernel
theorem dX11_map_6 : decode cX11_map 6 = .ok (.if_icmp .le 10, 3) := by decide +kernel
theorem dX11_map_9 : decode cX11_map 9 = .ok (.aload_n 0, 1) := by decide +kernel
theorem dX11_map_10 : decode cX11_map 10 = .ok (.bipush (-2), 2) := by decide +kernel
theorem dX11_map_12 : decode cX11_map 12 = .ok (.invokevirtual 43, 3) := by decide +kernel
theorem dX11_map_15 : decode cX11_map 15 = .ok (.ireturn, 1) := by decide +kernel
theorem dX11_map_16 : decode cX11_map 16 = .ok (.iload_n 1, 1) := by decide +kernel
theorem dX11_map_17 : decode cX11_map 17 = .ok (.ifCond .ge 10, 3) := by decide +kernel
theorem dX11_map_20 : decode cX11_map 20 = .ok (.aload_n 0, 1) := by decide +kernel
theorem dX11_map_21 : decode cX11_map 21 = .ok (.bipush (-4), 2) := by decide +kernel
theorem dX11_map_23 : decode cX11_map 23 = .ok (.invokevirtual 43, 3) := by decide +kernel
theorem dX11_map_26 : decode cX11_map 26 = .ok (.ireturn, 1) := by decide +kernel
theorem dX11_map_27 : decode cX11_map 27 = .ok (.bipush (-9), 2) := by decide +kernel
theorem dX11_map_29 : decode cX11_map 29 = .ok (.istore_n 3, 1) := by decide +kernel
theorem dX11_map_30 : decode cX11_map 30 = .ok (.iconst 0, 1) := by decide +kernel
theorem dX11_map_31 : decode cX11_map 31 = .ok (.istore 4, 2) := by decide +kernel
theorem dX11_map_33 : decode cX11_map 33 = .ok (.iconst 1, 1) := by decide +kernel
theorem dX11_map_34 : decode cX11_map 34 = .ok (.istore 5, 2) := by decide +kernel
theorem dX11_map_36 : decode cX11_map 36 = .ok (.iload 5, 2) := by decide +kernel
theorem dX11_map_38 : decode cX11_map 38 = .ok (.bipush 9, 2) := by decide +kernel
theorem dX11_map_40 : decode cX11_map 40 = .ok (.if_icmp .gt 93, 3) := by decide +kernel
theorem dX11_map_43 : decode cX11_map 43 = .ok (.iconst 0, 1) := by decide +kernel
theorem dX11_map_44 : decode cX11_map 44 = .ok (.istore 6, 2) := by decide +kernel
theorem dX11_map_46 : decode cX11_map 46 = .ok (.iload 6, 2) := by decide +kernel
theorem dX11_map_48 : decode cX11_map 48 = .ok (.bipush 9, 2) := by decide +kernel
theorem dX11_map_50 : decode cX11_map 50 = .ok (.if_icmp .gt 77, 3) := by decide +kernel
theorem dX11_map_53 : decode cX11_map 53 = .ok (.iconst 0, 1) := by decide +kernel
theorem dX11_map_54 : decode cX11_map 54 = .ok (.istore 7, 2) := by decide +kernel
theorem dX11_map_56 : decode cX11_map 56 = .ok (.iload 7, 2) := by decide +kernel
theorem dX11_map_58 : decode cX11_map 58 = .ok (.bipush 9, 2) := by decide +kernel
theorem dX11_map_60 : decode cX11_map 60 = .ok (.if_icmp .gt 61, 3) := by decide +kernel
theorem dX11_map_63 : decode cX11_map 63 = .ok (.aload_n 0, 1) := by decide +kernel
theorem dX11_map_64 : decode cX11_map 64 = .ok (.getfield 10, 3) := by decide +kernel
theorem dX11_map_67 : decode cX11_map 67 = .ok (.aload_n 0, 1) := by decide +kernel
theorem dX11_map_68 : decode cX11_map 68 = .ok (.getfield 10, 3) := by decide +kernel
theorem dX11_map_71 : decode cX11_map 71 = .ok (.iload 7, 2) := by decide +kernel
theorem dX11_map_73 : decode cX11_map 73 = .ok (.invokevirtual 152, 3) := by decide +kernel
theorem dX11_map_76 : decode cX11_map 76 = .ok (.iload 5, 2) := by decide +kernel
theorem dX11_map_78 : decode cX11_map 78 = .ok (.iload 6, 2) := by decide +kernel
theorem dX11_map_80 : decode cX11_map 80 = .ok (.invokevirtual 136, 3) := by decide +kernel
theorem dX11_map_83 : decode cX11_map 83 = .ok (.iload_n 1, 1) := by decide +kernel
theorem dX11_map_84 : decode cX11_map 84 = .ok (.if_icmp .ne 31, 3) := by decide +kernel
theorem dX11_map_87 : decode cX11_map 87 = .ok (.iinc 4 1, 3) := by decide +kernel
theorem dX11_map_90 : decode cX11_map 90 = .ok (.iload_n 3, 1) := by decide +kernel
theorem dX11_map_91 : decode cX11_map 91 = .ok (.bipush (-9), 2) := by decide +kernel
theorem dX11_map_93 : decode cX11_map 93 = .ok (.if_icmp .ne 20, 3) := by decide +kernel
theorem dX11_map_96 : decode cX11_map 96 = .ok (.bipush 100, 2) := by decide +kernel
theorem dX11_map_98 : decode cX11_map 98 = .ok (.iload 5, 2) := by decide +kernel
theorem dX11_map_100 : decode cX11_map 100 = .ok (.imul, 1) := by decide +kernel
theorem dX11_map_101 : decode cX11_map 101 = .ok (.bipush 10, 2) := by decide +kernel
theorem dX11_map_103 : decode cX11_map 103 = .ok (.iload 6, 2) := by decide +kernel
theorem dX11_map_105 : decode cX11_map 105 = .ok (.imul, 1) := by decide +kernel
theorem dX11_map_106 : decode cX11_map 106 = .ok (.iadd, 1) := by decide +kernel
theorem dX11_map_107 : decode cX11_map 107 = .ok (.iload 7, 2) := by decide +kernel
theorem dX11_map_109 : decode cX11_map 109 = .ok (.iadd, 1) := by decide +kernel
theorem dX11_map_110 : decode cX11_map 110 = .ok (.goto 4, 3) := by decide +kernel
theorem dX11_map_113 : decode cX11_map 113 = .ok (.iload_n 3, 1) := by decide +kernel
theorem dX11_map_114 : decode cX11_map 114 = .ok (.istore_n 3, 1) := by decide +kernel
theorem dX11_map_115 : decode cX11_map 115 = .ok (.iinc 7 1, 3) := by decide +kernel
theorem dX11_map_118 : decode cX11_map 118 = .ok (.goto (-62), 3) := by decide +kernel
theorem dX11_map_121 : decode cX11_map 121 = .ok (.iinc 6 1, 3) := by decide +kernel
theorem dX11_map_124 : decode cX11_map 124 = .ok (.goto (-78), 3) := by decide +kernel
theorem dX11_map_127 : decode cX11_map 127 = .ok (.iinc 5 1, 3) := by decide +kernel
theorem dX11_map_130 : decode cX11_map 130 = .ok (.goto (-94), 3) := by decide +kernel
theorem dX11_map_133 : decode cX11_map 133 = .ok (.iload_n 2, 1) := by decide +kernel
theorem dX11_map_134 : decode cX11_map 134 = .ok (.ifCond .ne 8, 3) := by decide +kernel
theorem dX11_map_137 : decode cX11_map 137 = .ok (.iload 4, 2) := by decide +kernel
theorem dX11_map_139 : decode cX11_map 139 = .ok (.goto 4, 3) := by decide +kernel
theorem dX11_map_142 : decode cX11_map 142 = .ok (.iload_n 3, 1) := by decide +kernel
theorem dX11_map_143 : decode cX11_map 143 = .ok (.ireturn, 1) := by decide +kernel
theorem dX11_rock_0 : decode cX11_rock 0 = .ok (.aload_n 0, 1) := by decide +kernel
theorem dX11_rock_1 : decode cX11_rock 1 = .ok (.getfield 10, 3) := by decide +kernel
theorem dX11_rock_4 : decode cX11_rock 4 = .ok (.getfield 156, 3) := by decide +kernel
theorem dX11_rock_7 : decode cX11_rock 7 = .ok (.iload_n 1, 1) := by decide +kernel
theorem dX11_rock_8 : decode cX11_rock 8 = .ok (.invokevirtual 160, 3) := by decide +kernel
theorem dX11_rock_11 : decode cX11_rock 11 = .ok (.astore_n 3, 1) := by decide +kernel
theorem dX11_rock_12 : decode cX11_rock 12 = .ok (.aload_n 3, 1) := by decide +kernel
theorem dX11_rock_13 : decode cX11_rock 13 = .ok (.ifnonnull 9, 3) := by decide +kernel
theorem dX11_rock_16 : decode cX11_rock 16 = .ok (.aload_n 0, 1) := by decide +kernel
theorem dX11_rock_17 : decode cX11_rock 17 = .ok (.iconst (-1), 1) := by decide +kernel
theorem dX11_rock_18 : decode cX11_rock 18 = .ok (.invokevirtual 43, 3) := by decide +kernel
theorem dX11_rock_21 : decode cX11_rock 21 = .ok (.ireturn, 1) := by decide +kernel
theorem dX11_rock_22 : decode cX11_rock 22 = .ok (.iload_n 2, 1) := by decide +kernel
theorem dX11_rock_23 : decode cX11_rock 23 = .ok (.tableswitch 73 0 4 #[33, 38, 43, 48, 53], 33) := by decide +kernel
theorem dX11_rock_56 : decode cX11_rock 56 = .ok (.aload_n 3, 1) := by decide +kernel
theorem dX11_rock_57 : decode cX11_rock 57 = .ok (.getfield 166, 3) := by decide +kernel
theorem dX11_rock_60 : decode cX11_rock 60 = .ok (.ireturn, 1) := by decide +kernel
theorem dX11_rock_61 : decode cX11_rock 61 = .ok (.aload_n 3, 1) := by decide +kernel
theorem dX11_rock_62 : decode cX11_rock 62 = .ok (.getfield 171, 3) := by decide +kernel
theorem dX11_rock_65 : decode cX11_rock 65 = .ok (.ireturn, 1) := by decide +kernel
theorem dX11_rock_66 : decode cX11_rock 66 = .ok (.aload_n 3, 1) := by decide +kernel
theorem dX11_rock_67 : decode cX11_rock 67 = .ok (.getfield 174, 3) := by decide +kernel
theorem dX11_rock_70 : decode cX11_rock 70 = .ok (.ireturn, 1) := by decide +kernel
theorem dX11_rock_71 : decode cX11_rock 71 = .ok (.aload_n 3, 1) := by decide +kernel
theorem dX11_rock_72 : decode cX11_rock 72 = .ok (.getfield 177, 3) := by decide +kernel
theorem dX11_rock_75 : decode cX11_rock 75 = .ok (.ireturn, 1) := by decide +kernel
theorem dX11_rock_76 : decode cX11_rock 76 = .ok (.aload_n 3, 1) := by decide +kernel
theorem dX11_rock_77 : decode cX11_rock 77 = .ok (.aload_n 0, 1) := by decide +kernel
theorem dX11_rock_78 : decode cX11_rock 78 = .ok (.getfield 10, 3) := by decide +kernel
theorem dX11_rock_81 : decode cX11_rock 81 = .ok (.getfield 80, 3) := by decide +kernel
theorem dX11_rock_84 : decode cX11_rock 84 = .ok (.invokevirtual 180, 3) := by decide +kernel
theorem dX11_rock_87 : decode cX11_rock 87 = .ok (.ifCond .eq 7, 3) := by decide +kernel
theorem dX11_rock_90 : decode cX11_rock 90 = .ok (.iconst 1, 1) := by decide +kernel
theorem dX11_rock_91 : decode cX11_rock 91 = .ok (.goto 4, 3) := by decide +kernel
theorem dX11_rock_94 : decode cX11_rock 94 = .ok (.iconst 0, 1) := by decide +kernel
theorem dX11_rock_95 : decode cX11_rock 95 = .ok (.ireturn, 1) := by decide +kernel
theorem dX11_rock_96 : decode cX11_rock 96 = .ok (.aload_n 0, 1) := by decide +kernel
theorem dX11_rock_97 : decode cX11_rock 97 = .ok (.bipush (-2), 2) := by decide +kernel
theorem dX11_rock_99 : decode cX11_rock 99 = .ok (.invokevirtual 43, 3) := by decide +kernel
theorem dX11_rock_102 : decode cX11_rock 102 = .ok (.ireturn, 1) := by decide +kernel
theorem dX11_islands_0 : decode cX11_islands 0 = .ok (.aload_n 0, 1) := by decide +kernel
theorem dX11_islands_1 : decode cX11_islands 1 = .ok (.getfield 10, 3) := by decide +kernel
theorem dX11_islands_4 : decode cX11_islands 4 = .ok (.getfield 156, 3) := by decide +kernel
theorem dX11_islands_7 : decode cX11_islands 7 = .ok (.aload_n 0, 1) := by decide +kernel
theorem dX11_islands_8 : decode cX11_islands 8 = .ok (.getfield 10, 3) := by decide +kernel
theorem dX11_islands_11 : decode cX11_islands 11 = .ok (.getfield 80, 3) := by decide +kernel
theorem dX11_islands_14 : decode cX11_islands 14 = .ok (.invokevirtual 183, 3) := by decide +kernel
theorem dX11_islands_17 : decode cX11_islands 17 = .ok (.ireturn, 1) := by decide +kernel
theorem dX11_hours_0 : decode cX11_hours 0 = .ok (.iload_n 1, 1) := by decide +kernel
theorem dX11_hours_1 : decode cX11_hours 1 = .ok (.ifCond .lt 8, 3) := by decide +kernel
theorem dX11_hours_4 : decode cX11_hours 4 = .ok (.iload_n 1, 1) := by decide +kernel
theorem dX11_hours_5 : decode cX11_hours 5 = .ok (.iconst 1, 1) := by decide +kernel
theorem dX11_hours_6 : decode cX11_hours 6 = .ok (.if_icmp .le 10, 3) := by decide +kernel
theorem dX11_hours_9 : decode cX11_hours 9 = .ok (.aload_n 0, 1) := by decide +kernel
theorem dX11_hours_10 : decode cX11_hours 10 = .ok (.bipush (-2), 2) := by decide +kernel
theorem dX11_hours_12 : decode cX11_hours 12 = .ok (.invokevirtual 43, 3) := by decide +kernel
theorem dX11_hours_15 : decode cX11_hours 15 = .ok (.ireturn, 1) := by decide +kernel
theorem dX11_hours_16 : decode cX11_hours 16 = .ok (.aload_n 0, 1) := by decide +kernel
theorem dX11_hours_17 : decode cX11_hours 17 = .ok (.getfield 10, 3) := by decide +kernel
theorem dX11_hours_20 : decode cX11_hours 20 = .ok (.getfield 156, 3) := by decide +kernel
theorem dX11_hours_23 : decode cX11_hours 23 = .ok (.invokevirtual 186, 3) := by decide +kernel
theorem dX11_hours_26 : decode cX11_hours 26 = .ok (.istore_n 2, 1) := by decide +kernel
theorem dX11_hours_27 : decode cX11_hours 27 = .ok (.iload_n 1, 1) := by decide +kernel
theorem dX11_hours_28 : decode cX11_hours 28 = .ok (.ifCond .ne 10, 3) := by decide +kernel
theorem dX11_hours_31 : decode cX11_hours 31 = .ok (.iload_n 2, 1) := by decide +kernel
theorem dX11_hours_32 : decode cX11_hours 32 = .ok (.invokestatic 189, 3) := by decide +kernel
theorem dX11_hours_35 : decode cX11_hours 35 = .ok (.goto 4, 3) := by decide +kernel
theorem dX11_hours_38 : decode cX11_hours 38 = .ok (.iload_n 2, 1) := by decide +kernel
theorem dX11_hours_39 : decode cX11_hours 39 = .ok (.ireturn, 1) := by decide +kernel
theorem dX11_boat_0 : decode cX11_boat 0 = .ok (.aload_n 0, 1) := by decide +kernel
theorem dX11_boat_1 : decode cX11_boat 1 = .ok (.getfield 25, 3) := by decide +kernel
theorem dX11_boat_4 : decode cX11_boat 4 = .ok (.aload_n 0, 1) := by decide +kernel
theorem dX11_boat_5 : decode cX11_boat 5 = .ok (.getfield 10, 3) := by decide +kernel
theorem dX11_boat_8 : decode cX11_boat 8 = .ok (.getfield 156, 3) := by decide +kernel
theorem dX11_boat_11 : decode cX11_boat 11 = .ok (.aload_n 0, 1) := by decide +kernel
theorem dX11_boat_12 : decode cX11_boat 12 = .ok (.getfield 10, 3) := by decide +kernel
theorem dX11_boat_15 : decode cX11_boat 15 = .ok (.getfield 156, 3) := by decide +kernel
theorem dX11_boat_18 : decode cX11_boat 18 = .ok (.aload_n 0, 1) := by decide +kernel
theorem dX11_boat_19 : decode cX11_boat 19 = .ok (.getfield 10, 3) := by decide +kernel
theorem dX11_boat_22 : decode cX11_boat 22 = .ok (.getfield 80, 3) := by decide +kernel
theorem dX11_boat_25 : decode cX11_boat 25 = .ok (.invokevirtual 183, 3) := by decide +kernel
theorem dX11_boat_28 : decode cX11_boat 28 = .ok (.invokevirtual 194, 3) := by decide +kernel
theorem dX11_boat_31 : decode cX11_boat 31 = .ok (.ireturn, 1) := by decide +kernel
theorem dX11_cut_0 : decode cX11_cut 0 = .ok (.aload_n 0, 1) := by decide +kernel
theorem dX11_cut_1 : decode cX11_cut 1 = .ok (.getfield 10, 3) := by decide +kernel
theorem dX11_cut_4 : decode cX11_cut 4 = .ok (.iload_n 1, 1) := by decide +kernel
theorem dX11_cut_5 : decode cX11_cut 5 = .ok (.invokevirtual 62, 3) := by decide +kernel
theorem dX11_cut_8 : decode cX11_cut 8 = .ok (.astore_n 3, 1) := by decide +kernel
theorem dX11_cut_9 : decode cX11_cut 9 = .ok (.aload_n 3, 1) := by decide +kernel
theorem dX11_cut_10 : decode cX11_cut 10 = .ok (.ifnonnull 9, 3) := by decide +kernel
theorem dX11_cut_13 : decode cX11_cut 13 = .ok (.aload_n 0, 1) := by decide +kernel
theorem dX11_cut_14 : decode cX11_cut 14 = .ok (.iconst (-1), 1) := by decide +kernel
theorem dX11_cut_15 : decode cX11_cut 15 = .ok (.invokevirtual 43, 3) := by decide +kernel
theorem dX11_cut_18 : decode cX11_cut 18 = .ok (.ireturn, 1) := by decide +kernel
theorem dX11_cut_19 : decode cX11_cut 19 = .ok (.iload_n 2, 1) := by decide +kernel
theorem dX11_cut_20 : decode cX11_cut 20 = .ok (.invokestatic 133, 3) := by decide +kernel
theorem dX11_cut_23 : decode cX11_cut 23 = .ok (.istore 4, 2) := by decide +kernel
theorem dX11_cut_25 : decode cX11_cut 25 = .ok (.iload 4, 2) := by decide +kernel
theorem dX11_cut_27 : decode cX11_cut 27 = .ok (.ifCond .eq 10, 3) := by decide +kernel
theorem dX11_cut_30 : decode cX11_cut 30 = .ok (.aload_n 0, 1) := by decide +kernel
theorem dX11_cut_31 : decode cX11_cut 31 = .ok (.iload 4, 2) := by decide +kernel
theorem dX11_cut_33 : decode cX11_cut 33 = .ok (.invokevirtual 43, 3) := by decide +kernel
theorem dX11_cut_36 : decode cX11_cut 36 = .ok (.ireturn, 1) := by decide +kernel
theorem dX11_cut_37 : decode cX11_cut 37 = .ok (.aload_n 0, 1) := by decide +kernel
theorem dX11_cut_38 : decode cX11_cut 38 = .ok (.getfield 10, 3) := by decide +kernel
theorem dX11_cut_41 : decode cX11_cut 41 = .ok (.aload_n 3, 1) := by decide +kernel
theorem dX11_cut_42 : decode cX11_cut 42 = .ok (.iload_n 2, 1) := by decide +kernel
theorem dX11_cut_43 : decode cX11_cut 43 = .ok (.invokevirtual 198, 3) := by decide +kernel
theorem dX11_cut_46 : decode cX11_cut 46 = .ok (.ireturn, 1) := by decide +kernel
theorem dX11_worstCut_0 : decode cX11_worstCut 0 = .ok (.iload_n 1, 1) := by decide +kernel
theorem dX11_worstCut_1 : decode cX11_worstCut 1 = .ok (.invokestatic 133, 3) := by decide +kernel
theorem dX11_worstCut_4 : decode cX11_worstCut 4 = .ok (.istore_n 2, 1) := by decide +kernel
theorem dX11_worstCut_5 : decode cX11_worstCut 5 = .ok (.iload_n 2, 1) := by decide +kernel
theorem dX11_worstCut_6 : decode cX11_worstCut 6 = .ok (.ifCond .eq 9, 3) := by decide +kernel
theorem dX11_worstCut_9 : decode cX11_worstCut 9 = .ok (.aload_n 0, 1) := by decide +kernel
theorem dX11_worstCut_10 : decode cX11_worstCut 10 = .ok (.iload_n 2, 1) := by decide +kernel
theorem dX11_worstCut_11 : decode cX11_worstCut 11 = .ok (.invokevirtual 43, 3) := by decide +kernel
theorem dX11_worstCut_14 : decode cX11_worstCut 14 = .ok (.ireturn, 1) := by decide +kernel
theorem dX11_worstCut_15 : decode cX11_worstCut 15 = .ok (.bipush (-9), 2) := by decide +kernel
theorem dX11_worstCut_17 : decode cX11_worstCut 17 = .ok (.istore_n 3, 1) := by decide +kernel
theorem dX11_worstCut_18 : decode cX11_worstCut 18 = .ok (.iconst 0, 1) := by decide +kernel
theorem dX11_worstCut_19 : decode cX11_worstCut 19 = .ok (.istore 4, 2) := by decide +kernel
theorem dX11_worstCut_21 : decode cX11_worstCut 21 = .ok (.iconst 0, 1) := by decide +kernel
theorem dX11_worstCut_22 : decode cX11_worstCut 22 = .ok (.istore 5, 2) := by decide +kernel
theorem dX11_worstCut_24 : decode cX11_worstCut 24 = .ok (.iload 5, 2) := by decide +kernel
theorem dX11_worstCut_26 : decode cX11_worstCut 26 = .ok (.bipush 8, 2) := by decide +kernel
theorem dX11_worstCut_28 : decode cX11_worstCut 28 = .ok (.if_icmp .ge 57, 3) := by decide +kernel
theorem dX11_worstCut_31 : decode cX11_worstCut 31 = .ok (.aload_n 0, 1) := by decide +kernel
theorem dX11_worstCut_32 : decode cX11_worstCut 32 = .ok (.getfield 10, 3) := by decide +kernel
theorem dX11_worstCut_35 : decode cX11_worstCut 35 = .ok (.iload 5, 2) := by decide +kernel
theorem dX11_worstCut_37 : decode cX11_worstCut 37 = .ok (.invokevirtual 62, 3) := by decide +kernel
theorem dX11_worstCut_40 : decode cX11_worstCut 40 = .ok (.astore 6, 2) := by decide +kernel
theorem dX11_worstCut_42 : decode cX11_worstCut 42 = .ok (.aload 6, 2) := by decide +kernel
theorem dX11_worstCut_44 : decode cX11_worstCut 44 = .ok (.ifnull 35, 3) := by decide +kernel
theorem dX11_worstCut_47 : decode cX11_worstCut 47 = .ok (.aload_n 0, 1) := by decide +kernel
theorem dX11_worstCut_48 : decode cX11_worstCut 48 = .ok (.getfield 10, 3) := by decide +kernel
theorem dX11_worstCut_51 : decode cX11_worstCut 51 = .ok (.aload 6, 2) := by decide +kernel
theorem dX11_worstCut_53 : decode cX11_worstCut 53 = .ok (.iload_n 1, 1) := by decide +kernel
theorem dX11_worstCut_54 : decode cX11_worstCut 54 = .ok (.invokevirtual 198, 3) := by decide +kernel
theorem dX11_worstCut_57 : decode cX11_worstCut 57 = .ok (.istore 7, 2) := by decide +kernel
theorem dX11_worstCut_59 : decode cX11_worstCut 59 = .ok (.iload_n 3, 1) := by decide +kernel
theorem dX11_worstCut_60 : decode cX11_worstCut 60 = .ok (.bipush (-9), 2) := by decide +kernel
theorem dX11_worstCut_62 : decode cX11_worstCut 62 = .ok (.if_icmp .eq 10, 3) := by decide +kernel
theorem dX11_worstCut_65 : decode cX11_worstCut 65 = .ok (.iload 7, 2) := by decide +kernel
theorem dX11_worstCut_67 : decode cX11_worstCut 67 = .ok (.iload 4, 2) := by decide +kernel
theorem dX11_worstCut_69 : decode cX11_worstCut 69 = .ok (.if_icmp .ge 10, 3) := by decide +kernel
theorem dX11_worstCut_72 : decode cX11_worstCut 72 = .ok (.iload 5, 2) := by decide +kernel
theorem dX11_worstCut_74 : decode cX11_worstCut 74 = .ok (.istore_n 3, 1) := by decide +kernel
theorem dX11_worstCut_75 : decode cX11_worstCut 75 = .ok (.iload 7, 2) := by decide +kernel
theorem dX11_worstCut_77 : decode cX11_worstCut 77 = .ok (.istore 4, 2) := by decide +kernel
theorem dX11_worstCut_79 : decode cX11_worstCut 79 = .ok (.iinc 5 1, 3) := by decide +kernel
theorem dX11_worstCut_82 : decode cX11_worstCut 82 = .ok (.goto (-58), 3) := by decide +kernel
theorem dX11_worstCut_85 : decode cX11_worstCut 85 = .ok (.iload_n 3, 1) := by decide +kernel
theorem dX11_worstCut_86 : decode cX11_worstCut 86 = .ok (.ireturn, 1) := by decide +kernel
theorem dX11_copy_0 : decode cX11_copy 0 = .ok (.iload_n 1, 1) := by decide +kernel
theorem dX11_copy_1 : decode cX11_copy 1 = .ok (.iconst 1, 1) := by decide +kernel
theorem dX11_copy_2 : decode cX11_copy 2 = .ok (.if_icmp .lt 8, 3) := by decide +kernel
theorem dX11_copy_5 : decode cX11_copy 5 = .ok (.iload_n 2, 1) := by decide +kernel
theorem dX11_copy_6 : decode cX11_copy 6 = .ok (.iconst 1, 1) := by decide +kernel
theorem dX11_copy_7 : decode cX11_copy 7 = .ok (.if_icmp .ge 10, 3) := by decide +kernel
theorem dX11_copy_10 : decode cX11_copy 10 = .ok (.aload_n 0, 1) := by decide +kernel
theorem dX11_copy_11 : decode cX11_copy 11 = .ok (.bipush (-4), 2) := by decide +kernel
theorem dX11_copy_13 : decode cX11_copy 13 = .ok (.invokevirtual 43, 3) := by decide +kernel
theorem dX11_copy_16 : decode cX11_copy 16 = .ok (.ireturn, 1) := by decide +kernel
theorem dX11_copy_17 : decode cX11_copy 17 = .ok (.iload_n 1, 1) := by decide +kernel
theorem dX11_copy_18 : decode cX11_copy 18 = .ok (.bipush 9, 2) := by decide +kernel
theorem dX11_copy_20 : decode cX11_copy 20 = .ok (.if_icmp .gt 9, 3) := by decide +kernel
theorem dX11_copy_23 : decode cX11_copy 23 = .ok (.iload_n 2, 1) := by decide +kernel
theorem dX11_copy_24 : decode cX11_copy 24 = .ok (.bipush 9, 2) := by decide +kernel
theorem dX11_copy_26 : decode cX11_copy 26 = .ok (.if_icmp .le 10, 3) := by decide +kernel
theorem dX11_copy_29 : decode cX11_copy 29 = .ok (.aload_n 0, 1) := by decide +kernel
theorem dX11_copy_30 : decode cX11_copy 30 = .ok (.bipush (-6), 2) := by decide +kernel
theorem dX11_copy_32 : decode cX11_copy 32 = .ok (.invokevirtual 43, 3) := by decide +kernel
theorem dX11_copy_35 : decode cX11_copy 35 = .ok (.ireturn, 1) := by decide +kernel
theorem dX11_copy_36 : decode cX11_copy 36 = .ok (.aload_n 0, 1) := by decide +kernel
theorem dX11_copy_37 : decode cX11_copy 37 = .ok (.getfield 10, 3) := by decide +kernel
theorem dX11_copy_40 : decode cX11_copy 40 = .ok (.aload_n 0, 1) := by decide +kernel
theorem dX11_copy_41 : decode cX11_copy 41 = .ok (.getfield 10, 3) := by decide +kernel
theorem dX11_copy_44 : decode cX11_copy 44 = .ok (.invokevirtual 99, 3) := by decide +kernel
theorem dX11_copy_47 : decode cX11_copy 47 = .ok (.iload_n 1, 1) := by decide +kernel
theorem dX11_copy_48 : decode cX11_copy 48 = .ok (.invokestatic 202, 3) := by decide +kernel
theorem dX11_copy_51 : decode cX11_copy 51 = .ok (.iload_n 2, 1) := by decide +kernel
theorem dX11_copy_52 : decode cX11_copy 52 = .ok (.iconst 0, 1) := by decide +kernel
theorem dX11_copy_53 : decode cX11_copy 53 = .ok (.invokevirtual 136, 3) := by decide +kernel
theorem dX11_copy_56 : decode cX11_copy 56 = .ok (.ireturn, 1) := by decide +kernel
theorem dX11_sure_0 : decode cX11_sure 0 = .ok (.iload_n 1, 1) := by decide +kernel
theorem dX11_sure_1 : decode cX11_sure 1 = .ok (.invokestatic 133, 3) := by decide +kernel
theorem dX11_sure_4 : decode cX11_sure 4 = .ok (.istore_n 2, 1) := by decide +kernel
theorem dX11_sure_5 : decode cX11_sure 5 = .ok (.iload_n 2, 1) := by decide +kernel
theorem dX11_sure_6 : decode cX11_sure 6 = .ok (.ifCond .eq 9, 3) := by decide +kernel
theorem dX11_sure_9 : decode cX11_sure 9 = .ok (.aload_n 0, 1) := by decide +kernel
theorem dX11_sure_10 : decode cX11_sure 10 = .ok (.iload_n 2, 1) := by decide +kernel
theorem dX11_sure_11 : decode cX11_sure 11 = .ok (.invokevirtual 43, 3) := by decide +kernel
theorem dX11_sure_14 : decode cX11_sure 14 = .ok (.ireturn, 1) := by decide +kernel
theorem dX11_sure_15 : decode cX11_sure 15 = .ok (.aload_n 0, 1) := by decide +kernel
theorem dX11_sure_16 : decode cX11_sure 16 = .ok (.getfield 10, 3) := by decide +kernel
theorem dX11_sure_19 : decode cX11_sure 19 = .ok (.invokevirtual 99, 3) := by decide +kernel
theorem dX11_sure_22 : decode cX11_sure 22 = .ok (.lstore_n 3, 1) := by decide +kernel
theorem dX11_sure_23 : decode cX11_sure 23 = .ok (.lload_n 3, 1) := by decide +kernel
theorem dX11_sure_24 : decode cX11_sure 24 = .ok (.lstore 5, 2) := by decide +kernel
theorem dX11_sure_26 : decode cX11_sure 26 = .ok (.iconst 1, 1) := by decide +kernel
theorem dX11_sure_27 : decode cX11_sure 27 = .ok (.istore 7, 2) := by decide +kernel
theorem dX11_sure_29 : decode cX11_sure 29 = .ok (.iload 7, 2) := by decide +kernel
theorem dX11_sure_31 : decode cX11_sure 31 = .ok (.iload_n 1, 1) := by decide +kernel
theorem dX11_sure_32 : decode cX11_sure 32 = .ok (.if_icmp .gt 25, 3) := by decide +kernel
theorem dX11_sure_35 : decode cX11_sure 35 = .ok (.lload 5, 2) := by decide +kernel
theorem dX11_sure_37 : decode cX11_sure 37 = .ok (.aload_n 0, 1) := by decide +kernel
theorem dX11_sure_38 : decode cX11_sure 38 = .ok (.getfield 10, 3) := by decide +kernel
theorem dX11_sure_41 : decode cX11_sure 41 = .ok (.lload_n 3, 1) := by decide +kernel
theorem dX11_sure_42 : decode cX11_sure 42 = .ok (.iload 7, 2) := by decide +kernel
theorem dX11_sure_44 : decode cX11_sure 44 = .ok (.iconst 0, 1) := by decide +kernel
theorem dX11_sure_45 : decode cX11_sure 45 = .ok (.invokevirtual 111, 3) := by decide +kernel
theorem dX11_sure_48 : decode cX11_sure 48 = .ok (.land, 1) := by decide +kernel
theorem dX11_sure_49 : decode cX11_sure 49 = .ok (.lstore 5, 2) := by decide +kernel
theorem dX11_sure_51 : decode cX11_sure 51 = .ok (.iinc 7 1, 3) := by decide +kernel
theorem dX11_sure_54 : decode cX11_sure 54 = .ok (.goto (-25), 3) := by decide +kernel
theorem dX11_sure_57 : decode cX11_sure 57 = .ok (.lload 5, 2) := by decide +kernel
theorem dX11_sure_59 : decode cX11_sure 59 = .ok (.invokestatic 206, 3) := by decide +kernel
theorem dX11_sure_62 : decode cX11_sure 62 = .ok (.ireturn, 1) := by decide +kernel
theorem dX11_row_0 : decode cX11_row 0 = .ok (.iload_n 1, 1) := by decide +kernel
theorem dX11_row_1 : decode cX11_row 1 = .ok (.ifCond .ge 10, 3) := by decide +kernel
theorem dX11_row_4 : decode cX11_row 4 = .ok (.aload_n 0, 1) := by decide +kernel
theorem dX11_row_5 : decode cX11_row 5 = .ok (.bipush (-4), 2) := by decide +kernel
theorem dX11_row_7 : decode cX11_row 7 = .ok (.invokevirtual 43, 3) := by decide +kernel
theorem dX11_row_10 : decode cX11_row 10 = .ok (.ireturn, 1) := by decide +kernel
theorem dX11_row_11 : decode cX11_row 11 = .ok (.iload_n 1, 1) := by decide +kernel
theorem dX11_row_12 : decode cX11_row 12 = .ok (.bipush 48, 2) := by decide +kernel
theorem dX11_row_14 : decode cX11_row 14 = .ok (.if_icmp .gt 22, 3) := by decide +kernel
theorem dX11_row_17 : decode cX11_row 17 = .ok (.aload_n 0, 1) := by decide +kernel
theorem dX11_row_18 : decode cX11_row 18 = .ok (.getfield 210, 3) := by decide +kernel
theorem dX11_row_21 : decode cX11_row 21 = .ok (.ifCond .lt 15, 3) := by decide +kernel
theorem dX11_row_24 : decode cX11_row 24 = .ok (.aload_n 0, 1) := by decide +kernel
theorem dX11_row_25 : decode cX11_row 25 = .ok (.getfield 210, 3) := by decide +kernel
theorem dX11_row_28 : decode cX11_row 28 = .ok (.aload_n 0, 1) := by decide +kernel
theorem dX11_row_29 : decode cX11_row 29 = .ok (.getfield 36, 3) := by decide +kernel
theorem dX11_row_32 : decode cX11_row 32 = .ok (.arraylength, 1) := by decide +kernel
theorem dX11_row_33 : decode cX11_row 33 = .ok (.if_icmp .lt 10, 3) := by decide +kernel
theorem dX11_row_36 : decode cX11_row 36 = .ok (.aload_n 0, 1) := by decide +kernel
theorem dX11_row_37 : decode cX11_row 37 = .ok (.bipush (-6), 2) := by decide +kernel
theorem dX11_row_39 : decode cX11_row 39 = .ok (.invokevirtual 43, 3) := by decide +kernel
theorem dX11_row_42 : decode cX11_row 42 = .ok (.ireturn, 1) := by decide +kernel
theorem dX11_row_43 : decode cX11_row 43 = .ok (.aload_n 0, 1) := by decide +kernel
theorem dX11_row_44 : decode cX11_row 44 = .ok (.getfield 36, 3) := by decide +kernel
theorem dX11_row_47 : decode cX11_row 47 = .ok (.aload_n 0, 1) := by decide +kernel
theorem dX11_row_48 : decode cX11_row 48 = .ok (.getfield 210, 3) := by decide +kernel
theorem dX11_row_51 : decode cX11_row 51 = .ok (.iload_n 1, 1) := by decide +kernel
theorem dX11_row_52 : decode cX11_row 52 = .ok (.iastore, 1) := by decide +kernel
theorem dX11_row_53 : decode cX11_row 53 = .ok (.aload_n 0, 1) := by decide +kernel
theorem dX11_row_54 : decode cX11_row 54 = .ok (.dup, 1) := by decide +kernel
theorem dX11_row_55 : decode cX11_row 55 = .ok (.getfield 210, 3) := by decide +kernel
theorem dX11_row_58 : decode cX11_row 58 = .ok (.iconst 1, 1) := by decide +kernel
theorem dX11_row_59 : decode cX11_row 59 = .ok (.iadd, 1) := by decide +kernel
theorem dX11_row_60 : decode cX11_row 60 = .ok (.putfield 210, 3) := by decide +kernel
theorem dX11_row_63 : decode cX11_row 63 = .ok (.aload_n 0, 1) := by decide +kernel
theorem dX11_row_64 : decode cX11_row 64 = .ok (.getfield 210, 3) := by decide +kernel
theorem dX11_row_67 : decode cX11_row 67 = .ok (.ireturn, 1) := by decide +kernel
theorem dX11_judge_0 : decode cX11_judge 0 = .ok (.iload_n 1, 1) := by decide +kernel
theorem dX11_judge_1 : decode cX11_judge 1 = .ok (.iload_n 2, 1) := by decide +kernel
theorem dX11_judge_2 : decode cX11_judge 2 = .ok (.invokestatic 107, 3) := by decide +kernel
theorem dX11_judge_5 : decode cX11_judge 5 = .ok (.istore_n 3, 1) := by decide +kernel
theorem dX11_judge_6 : decode cX11_judge 6 = .ok (.iload_n 3, 1) := by decide +kernel
theorem dX11_judge_7 : decode cX11_judge 7 = .ok (.ifCond .eq 9, 3) := by decide +kernel
theorem dX11_judge_10 : decode cX11_judge 10 = .ok (.aload_n 0, 1) := by decide +kernel
theorem dX11_judge_11 : decode cX11_judge 11 = .ok (.iload_n 3, 1) := by decide +kernel
theorem dX11_judge_12 : decode cX11_judge 12 = .ok (.invokevirtual 43, 3) := by decide +kernel
theorem dX11_judge_15 : decode cX11_judge 15 = .ok (.ireturn, 1) := by decide +kernel
theorem dX11_judge_16 : decode cX11_judge 16 = .ok (.aload_n 0, 1) := by decide +kernel
theorem dX11_judge_17 : decode cX11_judge 17 = .ok (.getfield 10, 3) := by decide +kernel
theorem dX11_judge_20 : decode cX11_judge 20 = .ok (.aload_n 0, 1) := by decide +kernel
theorem dX11_judge_21 : decode cX11_judge 21 = .ok (.getfield 10, 3) := by decide +kernel
theorem dX11_judge_24 : decode cX11_judge 24 = .ok (.invokevirtual 99, 3) := by decide +kernel
theorem dX11_judge_27 : decode cX11_judge 27 = .ok (.iload_n 1, 1) := by decide +kernel
theorem dX11_judge_28 : decode cX11_judge 28 = .ok (.iload_n 2, 1) := by decide +kernel
theorem dX11_judge_29 : decode cX11_judge 29 = .ok (.invokevirtual 111, 3) := by decide +kernel
theorem dX11_judge_32 : decode cX11_judge 32 = .ok (.lstore 4, 2) := by decide +kernel
theorem dX11_judge_34 : decode cX11_judge 34 = .ok (.bipush (-9), 2) := by decide +kernel
theorem dX11_judge_36 : decode cX11_judge 36 = .ok (.istore 6, 2) := by decide +kernel
theorem dX11_judge_38 : decode cX11_judge 38 = .ok (.iconst 0, 1) := by decide +kernel
theorem dX11_judge_39 : decode cX11_judge 39 = .ok (.istore 7, 2) := by decide +kernel
theorem dX11_judge_41 : decode cX11_judge 41 = .ok (.iload 7, 2) := by decide +kernel
theorem dX11_judge_43 : decode cX11_judge 43 = .ok (.aload_n 0, 1) := by decide +kernel
theorem dX11_judge_44 : decode cX11_judge 44 = .ok (.getfield 210, 3) := by decide +kernel
theorem dX11_judge_47 : decode cX11_judge 47 = .ok (.if_icmp .ge 47, 3) := by decide +kernel
theorem dX11_judge_50 : decode cX11_judge 50 = .ok (.iload 7, 2) := by decide +kernel
theorem dX11_judge_52 : decode cX11_judge 52 = .ok (.aload_n 0, 1) := by decide +kernel
theorem dX11_judge_53 : decode cX11_judge 53 = .ok (.getfield 36, 3) := by decide +kernel
theorem dX11_judge_56 : decode cX11_judge 56 = .ok (.arraylength, 1) := by decide +kernel
theorem dX11_judge_57 : decode cX11_judge 57 = .ok (.if_icmp .ge 37, 3) := by decide +kernel
theorem dX11_judge_60 : decode cX11_judge 60 = .ok (.iload 6, 2) := by decide +kernel
theorem dX11_judge_62 : decode cX11_judge 62 = .ok (.bipush (-9), 2) := by decide +kernel
theorem dX11_judge_64 : decode cX11_judge 64 = .ok (.if_icmp .ne 30, 3) := by decide +kernel
theorem dX11_judge_67 : decode cX11_judge 67 = .ok (.aload_n 0, 1) := by decide +kernel
theorem dX11_judge_68 : decode cX11_judge 68 = .ok (.getfield 36, 3) := by decide +kernel
theorem dX11_judge_71 : decode cX11_judge 71 = .ok (.iload 7, 2) := by decide +kernel
theorem dX11_judge_73 : decode cX11_judge 73 = .ok (.iaload, 1) := by decide +kernel
theorem dX11_judge_74 : decode cX11_judge 74 = .ok (.lload 4, 2) := by decide +kernel
theorem dX11_judge_76 : decode cX11_judge 76 = .ok (.iload 7, 2) := by decide +kernel
theorem dX11_judge_78 : decode cX11_judge 78 = .ok (.invokestatic 130, 3) := by decide +kernel
theorem dX11_judge_81 : decode cX11_judge 81 = .ok (.if_icmp .eq 7, 3) := by decide +kernel
theorem dX11_judge_84 : decode cX11_judge 84 = .ok (.iload 7, 2) := by decide +kernel
theorem dX11_judge_86 : decode cX11_judge 86 = .ok (.istore 6, 2) := by decide +kernel
theorem dX11_judge_88 : decode cX11_judge 88 = .ok (.iinc 7 1, 3) := by decide +kernel
theorem dX11_judge_91 : decode cX11_judge 91 = .ok (.goto (-50), 3) := by decide +kernel
theorem dX11_judge_94 : decode cX11_judge 94 = .ok (.aload_n 0, 1) := by decide +kernel
theorem dX11_judge_95 : decode cX11_judge 95 = .ok (.iconst 0, 1) := by decide +kernel
theorem dX11_judge_96 : decode cX11_judge 96 = .ok (.putfield 210, 3) := by decide +kernel
theorem dX11_judge_99 : decode cX11_judge 99 = .ok (.iload 6, 2) := by decide +kernel
theorem dX11_judge_101 : decode cX11_judge 101 = .ok (.ireturn, 1) := by decide +kernel
theorem dX11_seeds_0 : decode cX11_seeds 0 = .ok (.iload_n 1, 1) := by decide +kernel
theorem dX11_seeds_1 : decode cX11_seeds 1 = .ok (.iconst 1, 1) := by decide +kernel
theorem dX11_seeds_2 : decode cX11_seeds 2 = .ok (.if_icmp .ge 10, 3) := by decide +kernel
theorem dX11_seeds_5 : decode cX11_seeds 5 = .ok (.aload_n 0, 1) := by decide +kernel
theorem dX11_seeds_6 : decode cX11_seeds 6 = .ok (.bipush (-4), 2) := by decide +kernel
theorem dX11_seeds_8 : decode cX11_seeds 8 = .ok (.invokevirtual 43, 3) := by decide +kernel
theorem dX11_seeds_11 : decode cX11_seeds 11 = .ok (.ireturn, 1) := by decide +kernel
theorem dX11_seeds_12 : decode cX11_seeds 12 = .ok (.iload_n 1, 1) := by decide +kernel
theorem dX11_seeds_13 : decode cX11_seeds 13 = .ok (.bipush 60, 2) := by decide +kernel
theorem dX11_seeds_15 : decode cX11_seeds 15 = .ok (.if_icmp .le 10, 3) := by decide +kernel
theorem dX11_seeds_18 : decode cX11_seeds 18 = .ok (.aload_n 0, 1) := by decide +kernel
theorem dX11_seeds_19 : decode cX11_seeds 19 = .ok (.bipush (-6), 2) := by decide +kernel
theorem dX11_seeds_21 : decode cX11_seeds 21 = .ok (.invokevirtual 43, 3) := by decide +kernel
theorem dX11_seeds_24 : decode cX11_seeds 24 = .ok (.ireturn, 1) := by decide +kernel
theorem dX11_seeds_25 : decode cX11_seeds 25 = .ok (.iconst 0, 1) := by decide +kernel
theorem dX11_seeds_26 : decode cX11_seeds 26 = .ok (.istore_n 3, 1) := by decide +kernel
theorem dX11_seeds_27 : decode cX11_seeds 27 = .ok (.iload_n 2, 1) := by decide +kernel
theorem dX11_seeds_28 : decode cX11_seeds 28 = .ok (.istore 4, 2) := by decide +kernel
theorem dX11_seeds_30 : decode cX11_seeds 30 = .ok (.iconst 0, 1) := by decide +kernel
theorem dX11_seeds_31 : decode cX11_seeds 31 = .ok (.istore 5, 2) := by decide +kernel
theorem dX11_seeds_33 : decode cX11_seeds 33 = .ok (.iload 5, 2) := by decide +kernel
theorem dX11_seeds_35 : decode cX11_seeds 35 = .ok (.iload_n 1, 1) := by decide +kernel
theorem dX11_seeds_36 : decode cX11_seeds 36 = .ok (.if_icmp .ge 82, 3) := by decide +kernel
theorem dX11_seeds_39 : decode cX11_seeds 39 = .ok (.iload 4, 2) := by decide +kernel
theorem dX11_seeds_41 : decode cX11_seeds 41 = .ok (.invokestatic 213, 3) := by decide +kernel
theorem dX11_seeds_44 : decode cX11_seeds 44 = .ok (.istore 4, 2) := by decide +kernel
theorem dX11_seeds_46 : decode cX11_seeds 46 = .ok (.iconst 1, 1) := by decide +kernel
theorem dX11_seeds_47 : decode cX11_seeds 47 = .ok (.bipush 9, 2) := by decide +kernel
theorem dX11_seeds_49 : decode cX11_seeds 49 = .ok (.iload 4, 2) := by decide +kernel
theorem dX11_seeds_51 : decode cX11_seeds 51 = .ok (.invokestatic 216, 3) := by decide +kernel
theorem dX11_seeds_54 : decode cX11_seeds 54 = .ok (.iadd, 1) := by decide +kernel
theorem dX11_seeds_55 : decode cX11_seeds 55 = .ok (.istore 6, 2) := by decide +kernel
theorem dX11_seeds_57 : decode cX11_seeds 57 = .ok (.iload 4, 2) := by decide +kernel
theorem dX11_seeds_59 : decode cX11_seeds 59 = .ok (.invokestatic 213, 3) := by decide +kernel
theorem dX11_seeds_62 : decode cX11_seeds 62 = .ok (.istore 4, 2) := by decide +kernel
theorem dX11_seeds_64 : decode cX11_seeds 64 = .ok (.bipush 10, 2) := by decide +kernel
theorem dX11_seeds_66 : decode cX11_seeds 66 = .ok (.iload 4, 2) := by decide +kernel
theorem dX11_seeds_68 : decode cX11_seeds 68 = .ok (.invokestatic 216, 3) := by decide +kernel
theorem dX11_seeds_71 : decode cX11_seeds 71 = .ok (.istore 7, 2) := by decide +kernel
theorem dX11_seeds_73 : decode cX11_seeds 73 = .ok (.iload 4, 2) := by decide +kernel
theorem dX11_seeds_75 : decode cX11_seeds 75 = .ok (.invokestatic 213, 3) := by decide +kernel
theorem dX11_seeds_78 : decode cX11_seeds 78 = .ok (.istore 4, 2) := by decide +kernel
theorem dX11_seeds_80 : decode cX11_seeds 80 = .ok (.bipush 10, 2) := by decide +kernel
theorem dX11_seeds_82 : decode cX11_seeds 82 = .ok (.iload 4, 2) := by decide +kernel
theorem dX11_seeds_84 : decode cX11_seeds 84 = .ok (.invokestatic 216, 3) := by decide +kernel
theorem dX11_seeds_87 : decode cX11_seeds 87 = .ok (.istore 8, 2) := by decide +kernel
theorem dX11_seeds_89 : decode cX11_seeds 89 = .ok (.iload_n 3, 1) := by decide +kernel
theorem dX11_seeds_90 : decode cX11_seeds 90 = .ok (.aload_n 0, 1) := by decide +kernel
theorem dX11_seeds_91 : decode cX11_seeds 91 = .ok (.getfield 10, 3) := by decide +kernel
theorem dX11_seeds_94 : decode cX11_seeds 94 = .ok (.aload_n 0, 1) := by decide +kernel
theorem dX11_seeds_95 : decode cX11_seeds 95 = .ok (.getfield 10, 3) := by decide +kernel
theorem dX11_seeds_98 : decode cX11_seeds 98 = .ok (.iload 8, 2) := by decide +kernel
theorem dX11_seeds_100 : decode cX11_seeds 100 = .ok (.invokevirtual 152, 3) := by decide +kernel
theorem dX11_seeds_103 : decode cX11_seeds 103 = .ok (.iload 6, 2) := by decide +kernel
theorem dX11_seeds_105 : decode cX11_seeds 105 = .ok (.iload 7, 2) := by decide +kernel
theorem dX11_seeds_107 : decode cX11_seeds 107 = .ok (.invokevirtual 136, 3) := by decide +kernel
theorem dX11_seeds_110 : decode cX11_seeds 110 = .ok (.iadd, 1) := by decide +kernel
theorem dX11_seeds_111 : decode cX11_seeds 111 = .ok (.istore_n 3, 1) := by decide +kernel
theorem dX11_seeds_112 : decode cX11_seeds 112 = .ok (.iinc 5 1, 3) := by decide +kernel
theorem dX11_seeds_115 : decode cX11_seeds 115 = .ok (.goto (-82), 3) := by decide +kernel
theorem dX11_seeds_118 : decode cX11_seeds 118 = .ok (.iload_n 3, 1) := by decide +kernel
theorem dX11_seeds_119 : decode cX11_seeds 119 = .ok (.ireturn, 1) := by decide +kernel
theorem dX11_image_0 : decode cX11_image 0 = .ok (.aload_n 0, 1) := by decide +kernel
theorem dX11_image_1 : decode cX11_image 1 = .ok (.getfield 19, 3) := by decide +kernel
theorem dX11_image_4 : decode cX11_image 4 = .ok (.aload_n 0, 1) := by decide +kernel
theorem dX11_image_5 : decode cX11_image 5 = .ok (.getfield 10, 3) := by decide +kernel
theorem dX11_image_8 : decode cX11_image 8 = .ok (.invokevirtual 219, 3) := by decide +kernel
theorem dX11_image_11 : decode cX11_image 11 = .ok (.aload_n 0, 1) := by decide +kernel
theorem dX11_image_12 : decode cX11_image 12 = .ok (.iconst 1, 1) := by decide +kernel
theorem dX11_image_13 : decode cX11_image 13 = .ok (.putfield 223, 3) := by decide +kernel
theorem dX11_image_16 : decode cX11_image 16 = .ok (.aload_n 0, 1) := by decide +kernel
theorem dX11_image_17 : decode cX11_image 17 = .ok (.getfield 10, 3) := by decide +kernel
theorem dX11_image_20 : decode cX11_image 20 = .ok (.getfield 227, 3) := by decide +kernel
theorem dX11_image_23 : decode cX11_image 23 = .ok (.ireturn, 1) := by decide +kernel
theorem dX11_restore_0 : decode cX11_restore 0 = .ok (.aload_n 0, 1) := by decide +kernel
theorem dX11_restore_1 : decode cX11_restore 1 = .ok (.getfield 223, 3) := by decide +kernel
theorem dX11_restore_4 : decode cX11_restore 4 = .ok (.ifCond .ne 10, 3) := by decide +kernel
theorem dX11_restore_7 : decode cX11_restore 7 = .ok (.aload_n 0, 1) := by decide +kernel
theorem dX11_restore_8 : decode cX11_restore 8 = .ok (.bipush (-3), 2) := by decide +kernel
theorem dX11_restore_10 : decode cX11_restore 10 = .ok (.invokevirtual 43, 3) := by decide +kernel
theorem dX11_restore_13 : decode cX11_restore 13 = .ok (.ireturn, 1) := by decide +kernel
theorem dX11_restore_14 : decode cX11_restore 14 = .ok (.aload_n 0, 1) := by decide +kernel
theorem dX11_restore_15 : decode cX11_restore 15 = .ok (.getfield 10, 3) := by decide +kernel
theorem dX11_restore_18 : decode cX11_restore 18 = .ok (.aload_n 0, 1) := by decide +kernel
theorem dX11_restore_19 : decode cX11_restore 19 = .ok (.getfield 19, 3) := by decide +kernel
theorem dX11_restore_22 : decode cX11_restore 22 = .ok (.invokevirtual 219, 3) := by decide +kernel
theorem dX11_restore_25 : decode cX11_restore 25 = .ok (.aload_n 0, 1) := by decide +kernel
theorem dX11_restore_26 : decode cX11_restore 26 = .ok (.getfield 10, 3) := by decide +kernel
theorem dX11_restore_29 : decode cX11_restore 29 = .ok (.getfield 227, 3) := by decide +kernel
theorem dX11_restore_32 : decode cX11_restore 32 = .ok (.ireturn, 1) := by decide +kernel
theorem dX11_count_0 : decode cX11_count 0 = .ok (.iload_n 1, 1) := by decide +kernel
theorem dX11_count_1 : decode cX11_count 1 = .ok (.tableswitch 114 0 7 #[47, 55, 63, 71, 82, 93, 101, 106], 47) := by decide +kernel
theorem dX11_count_48 : decode cX11_count 48 = .ok (.aload_n 0, 1) := by decide +kernel
theorem dX11_count_49 : decode cX11_count 49 = .ok (.getfield 10, 3) := by decide +kernel
theorem dX11_count_52 : decode cX11_count 52 = .ok (.getfield 230, 3) := by decide +kernel
theorem dX11_count_55 : decode cX11_count 55 = .ok (.ireturn, 1) := by decide +kernel
theorem dX11_count_56 : decode cX11_count 56 = .ok (.aload_n 0, 1) := by decide +kernel
theorem dX11_count_57 : decode cX11_count 57 = .ok (.getfield 10, 3) := by decide +kernel
theorem dX11_count_60 : decode cX11_count 60 = .ok (.getfield 227, 3) := by decide +kernel
theorem dX11_count_63 : decode cX11_count 63 = .ok (.ireturn, 1) := by decide +kernel
theorem dX11_count_64 : decode cX11_count 64 = .ok (.aload_n 0, 1) := by decide +kernel
theorem dX11_count_65 : decode cX11_count 65 = .ok (.getfield 10, 3) := by decide +kernel
theorem dX11_count_68 : decode cX11_count 68 = .ok (.getfield 80, 3) := by decide +kernel
theorem dX11_count_71 : decode cX11_count 71 = .ok (.ireturn, 1) := by decide +kernel
theorem dX11_count_72 : decode cX11_count 72 = .ok (.aload_n 0, 1) := by decide +kernel
theorem dX11_count_73 : decode cX11_count 73 = .ok (.getfield 10, 3) := by decide +kernel
theorem dX11_count_76 : decode cX11_count 76 = .ok (.invokevirtual 99, 3) := by decide +kernel
theorem dX11_count_79 : decode cX11_count 79 = .ok (.invokestatic 206, 3) := by decide +kernel
theorem dX11_count_82 : decode cX11_count 82 = .ok (.ireturn, 1) := by decide +kernel
theorem dX11_count_83 : decode cX11_count 83 = .ok (.aload_n 0, 1) := by decide +kernel
theorem dX11_count_84 : decode cX11_count 84 = .ok (.getfield 10, 3) := by decide +kernel
theorem dX11_count_87 : decode cX11_count 87 = .ok (.getfield 156, 3) := by decide +kernel
theorem dX11_count_90 : decode cX11_count 90 = .ok (.getfield 233, 3) := by decide +kernel
theorem dX11_count_93 : decode cX11_count 93 = .ok (.ireturn, 1) := by decide +kernel
theorem dX11_count_94 : decode cX11_count 94 = .ok (.aload_n 0, 1) := by decide +kernel
theorem dX11_count_95 : decode cX11_count 95 = .ok (.getfield 32, 3) := by decide +kernel
theorem dX11_count_98 : decode cX11_count 98 = .ok (.getfield 51, 3) := by decide +kernel
theorem dX11_count_101 : decode cX11_count 101 = .ok (.ireturn, 1) := by decide +kernel
theorem dX11_count_102 : decode cX11_count 102 = .ok (.aload_n 0, 1) := by decide +kernel
theorem dX11_count_103 : decode cX11_count 103 = .ok (.getfield 210, 3) := by decide +kernel
theorem dX11_count_106 : decode cX11_count 106 = .ok (.ireturn, 1) := by decide +kernel
theorem dX11_count_107 : decode cX11_count 107 = .ok (.aload_n 0, 1) := by decide +kernel
theorem dX11_count_108 : decode cX11_count 108 = .ok (.getfield 10, 3) := by decide +kernel
theorem dX11_count_111 : decode cX11_count 111 = .ok (.invokevirtual 234, 3) := by decide +kernel
theorem dX11_count_114 : decode cX11_count 114 = .ok (.ireturn, 1) := by decide +kernel
theorem dX11_count_115 : decode cX11_count 115 = .ok (.aload_n 0, 1) := by decide +kernel
theorem dX11_count_116 : decode cX11_count 116 = .ok (.iload_n 1, 1) := by decide +kernel
theorem dX11_count_117 : decode cX11_count 117 = .ok (.bipush 10, 2) := by decide +kernel
theorem dX11_count_119 : decode cX11_count 119 = .ok (.isub, 1) := by decide +kernel
theorem dX11_count_120 : decode cX11_count 120 = .ok (.invokevirtual 237, 3) := by decide +kernel
theorem dX11_count_123 : decode cX11_count 123 = .ok (.ireturn, 1) := by decide +kernel
theorem dX11_refuse_0 : decode cX11_refuse 0 = .ok (.iload_n 1, 1) := by decide +kernel
theorem dX11_refuse_1 : decode cX11_refuse 1 = .ok (.ineg, 1) := by decide +kernel
theorem dX11_refuse_2 : decode cX11_refuse 2 = .ok (.istore_n 2, 1) := by decide +kernel
theorem dX11_refuse_3 : decode cX11_refuse 3 = .ok (.iload_n 2, 1) := by decide +kernel
theorem dX11_refuse_4 : decode cX11_refuse 4 = .ok (.ifCond .lt 22, 3) := by decide +kernel
theorem dX11_refuse_7 : decode cX11_refuse 7 = .ok (.iload_n 2, 1) := by decide +kernel
theorem dX11_refuse_8 : decode cX11_refuse 8 = .ok (.aload_n 0, 1) := by decide +kernel
theorem dX11_refuse_9 : decode cX11_refuse 9 = .ok (.getfield 40, 3) := by decide +kernel
theorem dX11_refuse_12 : decode cX11_refuse 12 = .ok (.arraylength, 1) := by decide +kernel
theorem dX11_refuse_13 : decode cX11_refuse 13 = .ok (.if_icmp .ge 13, 3) := by decide +kernel
theorem dX11_refuse_16 : decode cX11_refuse 16 = .ok (.aload_n 0, 1) := by decide +kernel
theorem dX11_refuse_17 : decode cX11_refuse 17 = .ok (.getfield 40, 3) := by decide +kernel
theorem dX11_refuse_20 : decode cX11_refuse 20 = .ok (.iload_n 2, 1) := by decide +kernel
theorem dX11_refuse_21 : decode cX11_refuse 21 = .ok (.dup2, 1) := by decide +kernel
theorem dX11_refuse_22 : decode cX11_refuse 22 = .ok (.iaload, 1) := by decide +kernel
theorem dX11_refuse_23 : decode cX11_refuse 23 = .ok (.iconst 1, 1) := by decide +kernel
theorem dX11_refuse_24 : decode cX11_refuse 24 = .ok (.iadd, 1) := by decide +kernel
theorem dX11_refuse_25 : decode cX11_refuse 25 = .ok (.iastore, 1) := by decide +kernel
theorem dX11_refuse_26 : decode cX11_refuse 26 = .ok (.iload_n 1, 1) := by decide +kernel
theorem dX11_refuse_27 : decode cX11_refuse 27 = .ok (.ireturn, 1) := by decide +kernel
theorem dX11_refusalsOf_0 : decode cX11_refusalsOf 0 = .ok (.iload_n 1, 1) := by decide +kernel
theorem dX11_refusalsOf_1 : decode cX11_refusalsOf 1 = .ok (.iconst 1, 1) := by decide +kernel
theorem dX11_refusalsOf_2 : decode cX11_refusalsOf 2 = .ok (.if_icmp .lt 12, 3) := by decide +kernel
theorem dX11_refusalsOf_5 : decode cX11_refusalsOf 5 = .ok (.iload_n 1, 1) := by decide +kernel
theorem dX11_refusalsOf_6 : decode cX11_refusalsOf 6 = .ok (.aload_n 0, 1) := by decide +kernel
theorem dX11_refusalsOf_7 : decode cX11_refusalsOf 7 = .ok (.getfield 40, 3) := by decide +kernel
theorem dX11_refusalsOf_10 : decode cX11_refusalsOf 10 = .ok (.arraylength, 1) := by decide +kernel
theorem dX11_refusalsOf_11 : decode cX11_refusalsOf 11 = .ok (.if_icmp .lt 6, 3) := by decide +kernel
theorem dX11_refusalsOf_14 : decode cX11_refusalsOf 14 = .ok (.bipush (-9), 2) := by decide +kernel
theorem dX11_refusalsOf_16 : decode cX11_refusalsOf 16 = .ok (.ireturn, 1) := by decide +kernel
theorem dX11_refusalsOf_17 : decode cX11_refusalsOf 17 = .ok (.aload_n 0, 1) := by decide +kernel
theorem dX11_refusalsOf_18 : decode cX11_refusalsOf 18 = .ok (.getfield 40, 3) := by decide +kernel
theorem dX11_refusalsOf_21 : decode cX11_refusalsOf 21 = .ok (.iload_n 1, 1) := by decide +kernel
theorem dX11_refusalsOf_22 : decode cX11_refusalsOf 22 = .ok (.iaload, 1) := by decide +kernel
theorem dX11_refusalsOf_23 : decode cX11_refusalsOf 23 = .ok (.ireturn, 1) := by decide +kernel
theorem dX11_rodRefusal_0 : decode cX11_rodRefusal 0 = .ok (.iload_n 0, 1) := by decide +kernel
theorem dX11_rodRefusal_1 : decode cX11_rodRefusal 1 = .ok (.iconst 0, 1) := by decide +kernel
theorem dX11_rodRefusal_2 : decode cX11_rodRefusal 2 = .ok (.invokestatic 107, 3) := by decide +kernel
theorem dX11_rodRefusal_5 : decode cX11_rodRefusal 5 = .ok (.ireturn, 1) := by decide +kernel
theorem dX11_walkRefusal_0 : decode cX11_walkRefusal 0 = .ok (.iload_n 0, 1) := by decide +kernel
theorem dX11_walkRefusal_1 : decode cX11_walkRefusal 1 = .ok (.iconst 1, 1) := by decide +kernel
theorem dX11_walkRefusal_2 : decode cX11_walkRefusal 2 = .ok (.if_icmp .lt 7, 3) := by decide +kernel
theorem dX11_walkRefusal_5 : decode cX11_walkRefusal 5 = .ok (.iload_n 1, 1) := by decide +kernel
theorem dX11_walkRefusal_6 : decode cX11_walkRefusal 6 = .ok (.ifCond .ge 6, 3) := by decide +kernel
theorem dX11_walkRefusal_9 : decode cX11_walkRefusal 9 = .ok (.bipush (-4), 2) := by decide +kernel
theorem dX11_walkRefusal_11 : decode cX11_walkRefusal 11 = .ok (.ireturn, 1) := by decide +kernel
theorem dX11_walkRefusal_12 : decode cX11_walkRefusal 12 = .ok (.iload_n 0, 1) := by decide +kernel
theorem dX11_walkRefusal_13 : decode cX11_walkRefusal 13 = .ok (.bipush 9, 2) := by decide +kernel
theorem dX11_walkRefusal_15 : decode cX11_walkRefusal 15 = .ok (.if_icmp .gt 9, 3) := by decide +kernel
theorem dX11_walkRefusal_18 : decode cX11_walkRefusal 18 = .ok (.iload_n 1, 1) := by decide +kernel
theorem dX11_walkRefusal_19 : decode cX11_walkRefusal 19 = .ok (.bipush 9, 2) := by decide +kernel
theorem dX11_walkRefusal_21 : decode cX11_walkRefusal 21 = .ok (.if_icmp .le 8, 3) := by decide +kernel
theorem dX11_walkRefusal_24 : decode cX11_walkRefusal 24 = .ok (.bipush (-6), 2) := by decide +kernel
theorem dX11_walkRefusal_26 : decode cX11_walkRefusal 26 = .ok (.goto 4, 3) := by decide +kernel
theorem dX11_walkRefusal_29 : decode cX11_walkRefusal 29 = .ok (.iconst 0, 1) := by decide +kernel
theorem dX11_walkRefusal_30 : decode cX11_walkRefusal 30 = .ok (.ireturn, 1) := by decide +kernel
theorem dX11_readStatements_0 : decode cX11_readStatements 0 = .ok (.aload_n 0, 1) := by decide +kernel
theorem dX11_readStatements_1 : decode cX11_readStatements 1 = .ok (.getfield 16, 3) := by decide +kernel
theorem dX11_readStatements_4 : decode cX11_readStatements 4 = .ok (.aload_n 0, 1) := by decide +kernel
theorem dX11_readStatements_5 : decode cX11_readStatements 5 = .ok (.getfield 10, 3) := by decide +kernel
theorem dX11_readStatements_8 : decode cX11_readStatements 8 = .ok (.invokevirtual 219, 3) := by decide +kernel
theorem dX11_readStatements_11 : decode cX11_readStatements 11 = .ok (.iconst 0, 1) := by decide +kernel
theorem dX11_readStatements_12 : decode cX11_readStatements 12 = .ok (.istore_n 1, 1) := by decide +kernel
theorem dX11_readStatements_13 : decode cX11_readStatements 13 = .ok (.iconst 0, 1) := by decide +kernel
theorem dX11_readStatements_14 : decode cX11_readStatements 14 = .ok (.istore_n 2, 1) := by decide +kernel
theorem dX11_readStatements_15 : decode cX11_readStatements 15 = .ok (.iconst 0, 1) := by decide +kernel
theorem dX11_readStatements_16 : decode cX11_readStatements 16 = .ok (.istore_n 3, 1) := by decide +kernel
theorem dX11_readStatements_17 : decode cX11_readStatements 17 = .ok (.iload_n 3, 1) := by decide +kernel
theorem dX11_readStatements_18 : decode cX11_readStatements 18 = .ok (.bipush 80, 2) := by decide +kernel
theorem dX11_readStatements_20 : decode cX11_readStatements 20 = .ok (.if_icmp .ge 53, 3) := by decide +kernel
theorem dX11_readStatements_23 : decode cX11_readStatements 23 = .ok (.iload_n 2, 1) := by decide +kernel
theorem dX11_readStatements_24 : decode cX11_readStatements 24 = .ok (.aload_n 0, 1) := by decide +kernel
theorem dX11_readStatements_25 : decode cX11_readStatements 25 = .ok (.getfield 32, 3) := by decide +kernel
theorem dX11_readStatements_28 : decode cX11_readStatements 28 = .ok (.getfield 51, 3) := by decide +kernel
theorem dX11_readStatements_31 : decode cX11_readStatements 31 = .ok (.if_icmp .ge 42, 3) := by decide +kernel
theorem dX11_readStatements_34 : decode cX11_readStatements 34 = .ok (.aload_n 0, 1) := by decide +kernel
theorem dX11_readStatements_35 : decode cX11_readStatements 35 = .ok (.getfield 32, 3) := by decide +kernel
theorem dX11_readStatements_38 : decode cX11_readStatements 38 = .ok (.aload_n 0, 1) := by decide +kernel
theorem dX11_readStatements_39 : decode cX11_readStatements 39 = .ok (.getfield 16, 3) := by decide +kernel
theorem dX11_readStatements_42 : decode cX11_readStatements 42 = .ok (.iload_n 2, 1) := by decide +kernel
theorem dX11_readStatements_43 : decode cX11_readStatements 43 = .ok (.invokevirtual 240, 3) := by decide +kernel
theorem dX11_readStatements_46 : decode cX11_readStatements 46 = .ok (.ifCond .ne 9, 3) := by decide +kernel
theorem dX11_readStatements_49 : decode cX11_readStatements 49 = .ok (.sipush (-2000), 3) := by decide +kernel
theorem dX11_readStatements_52 : decode cX11_readStatements 52 = .ok (.iload_n 2, 1) := by decide +kernel
theorem dX11_readStatements_53 : decode cX11_readStatements 53 = .ok (.isub, 1) := by decide +kernel
theorem dX11_readStatements_54 : decode cX11_readStatements 54 = .ok (.ireturn, 1) := by decide +kernel
theorem dX11_readStatements_55 : decode cX11_readStatements 55 = .ok (.aload_n 0, 1) := by decide +kernel
theorem dX11_readStatements_56 : decode cX11_readStatements 56 = .ok (.getfield 32, 3) := by decide +kernel
theorem dX11_readStatements_59 : decode cX11_readStatements 59 = .ok (.iload_n 2, 1) := by decide +kernel
theorem dX11_readStatements_60 : decode cX11_readStatements 60 = .ok (.invokevirtual 244, 3) := by decide +kernel
theorem dX11_readStatements_63 : decode cX11_readStatements 63 = .ok (.istore_n 2, 1) := by decide +kernel
theorem dX11_readStatements_64 : decode cX11_readStatements 64 = .ok (.iinc 1 1, 3) := by decide +kernel
theorem dX11_readStatements_67 : decode cX11_readStatements 67 = .ok (.iinc 3 1, 3) := by decide +kernel
theorem dX11_readStatements_70 : decode cX11_readStatements 70 = .ok (.goto (-53), 3) := by decide +kernel
theorem dX11_readStatements_73 : decode cX11_readStatements 73 = .ok (.aload_n 0, 1) := by decide +kernel
theorem dX11_readStatements_74 : decode cX11_readStatements 74 = .ok (.getfield 10, 3) := by decide +kernel
theorem dX11_readStatements_77 : decode cX11_readStatements 77 = .ok (.aload_n 0, 1) := by decide +kernel
theorem dX11_readStatements_78 : decode cX11_readStatements 78 = .ok (.getfield 16, 3) := by decide +kernel
theorem dX11_readStatements_81 : decode cX11_readStatements 81 = .ok (.invokevirtual 219, 3) := by decide +kernel
theorem dX11_readStatements_84 : decode cX11_readStatements 84 = .ok (.iload_n 1, 1) := by decide +kernel
theorem dX11_readStatements_85 : decode cX11_readStatements 85 = .ok (.ireturn, 1) := by decide +kernel
theorem dX11_holds_0 : decode cX11_holds 0 = .ok (.iload_n 2, 1) := by decide +kernel
theorem dX11_holds_1 : decode cX11_holds 1 = .ok (.ifCond .lt 23, 3) := by decide +kernel
theorem dX11_holds_4 : decode cX11_holds 4 = .ok (.iload_n 2, 1) := by decide +kernel
theorem dX11_holds_5 : decode cX11_holds 5 = .ok (.bipush 48, 2) := by decide +kernel
theorem dX11_holds_7 : decode cX11_holds 7 = .ok (.if_icmp .gt 17, 3) := by decide +kernel
theorem dX11_holds_10 : decode cX11_holds 10 = .ok (.lload_n 0, 1) := by decide +kernel
theorem dX11_holds_11 : decode cX11_holds 11 = .ok (.iload_n 2, 1) := by decide +kernel
theorem dX11_holds_12 : decode cX11_holds 12 = .ok (.lshr, 1) := by decide +kernel
theorem dX11_holds_13 : decode cX11_holds 13 = .ok (.lconst 1, 1) := by decide +kernel
theorem dX11_holds_14 : decode cX11_holds 14 = .ok (.land, 1) := by decide +kernel
theorem dX11_holds_15 : decode cX11_holds 15 = .ok (.lconst 0, 1) := by decide +kernel
theorem dX11_holds_16 : decode cX11_holds 16 = .ok (.lcmp, 1) := by decide +kernel
theorem dX11_holds_17 : decode cX11_holds 17 = .ok (.ifCond .eq 7, 3) := by decide +kernel
theorem dX11_holds_20 : decode cX11_holds 20 = .ok (.iconst 1, 1) := by decide +kernel
theorem dX11_holds_21 : decode cX11_holds 21 = .ok (.goto 4, 3) := by decide +kernel
theorem dX11_holds_24 : decode cX11_holds 24 = .ok (.iconst 0, 1) := by decide +kernel
theorem dX11_holds_25 : decode cX11_holds 25 = .ok (.ireturn, 1) := by decide +kernel
theorem dX11_memberOf_0 : decode cX11_memberOf 0 = .ok (.iload_n 2, 1) := by decide +kernel
theorem dX11_memberOf_1 : decode cX11_memberOf 1 = .ok (.istore_n 3, 1) := by decide +kernel
theorem dX11_memberOf_2 : decode cX11_memberOf 2 = .ok (.iconst 0, 1) := by decide +kernel
theorem dX11_memberOf_3 : decode cX11_memberOf 3 = .ok (.istore 4, 2) := by decide +kernel
theorem dX11_memberOf_5 : decode cX11_memberOf 5 = .ok (.iload 4, 2) := by decide +kernel
theorem dX11_memberOf_7 : decode cX11_memberOf 7 = .ok (.bipush 48, 2) := by decide +kernel
theorem dX11_memberOf_9 : decode cX11_memberOf 9 = .ok (.if_icmp .gt 28, 3) := by decide +kernel
theorem dX11_memberOf_12 : decode cX11_memberOf 12 = .ok (.lload_n 0, 1) := by decide +kernel
theorem dX11_memberOf_13 : decode cX11_memberOf 13 = .ok (.iload 4, 2) := by decide +kernel
theorem dX11_memberOf_15 : decode cX11_memberOf 15 = .ok (.invokestatic 103, 3) := by decide +kernel
theorem dX11_memberOf_18 : decode cX11_memberOf 18 = .ok (.ifCond .eq 13, 3) := by decide +kernel
theorem dX11_memberOf_21 : decode cX11_memberOf 21 = .ok (.iload_n 3, 1) := by decide +kernel
theorem dX11_memberOf_22 : decode cX11_memberOf 22 = .ok (.ifCond .ne 6, 3) := by decide +kernel
theorem dX11_memberOf_25 : decode cX11_memberOf 25 = .ok (.iload 4, 2) := by decide +kernel
theorem dX11_memberOf_27 : decode cX11_memberOf 27 = .ok (.ireturn, 1) := by decide +kernel
theorem dX11_memberOf_28 : decode cX11_memberOf 28 = .ok (.iinc 3 (-1), 3) := by decide +kernel
theorem dX11_memberOf_31 : decode cX11_memberOf 31 = .ok (.iinc 4 1, 3) := by decide +kernel
theorem dX11_memberOf_34 : decode cX11_memberOf 34 = .ok (.goto (-29), 3) := by decide +kernel
theorem dX11_memberOf_37 : decode cX11_memberOf 37 = .ok (.bipush (-9), 2) := by decide +kernel
theorem dX11_memberOf_39 : decode cX11_memberOf 39 = .ok (.ireturn, 1) := by decide +kernel
theorem dX11_lastOf_0 : decode cX11_lastOf 0 = .ok (.bipush 48, 2) := by decide +kernel
theorem dX11_lastOf_2 : decode cX11_lastOf 2 = .ok (.istore_n 2, 1) := by decide +kernel
theorem dX11_lastOf_3 : decode cX11_lastOf 3 = .ok (.iload_n 2, 1) := by decide +kernel
theorem dX11_lastOf_4 : decode cX11_lastOf 4 = .ok (.ifCond .lt 19, 3) := by decide +kernel
theorem dX11_lastOf_7 : decode cX11_lastOf 7 = .ok (.lload_n 0, 1) := by decide +kernel
theorem dX11_lastOf_8 : decode cX11_lastOf 8 = .ok (.iload_n 2, 1) := by decide +kernel
theorem dX11_lastOf_9 : decode cX11_lastOf 9 = .ok (.invokestatic 103, 3) := by decide +kernel
theorem dX11_lastOf_12 : decode cX11_lastOf 12 = .ok (.ifCond .eq 5, 3) := by decide +kernel
theorem dX11_lastOf_15 : decode cX11_lastOf 15 = .ok (.iload_n 2, 1) := by decide +kernel
theorem dX11_lastOf_16 : decode cX11_lastOf 16 = .ok (.ireturn, 1) := by decide +kernel
theorem dX11_lastOf_17 : decode cX11_lastOf 17 = .ok (.iinc 2 (-1), 3) := by decide +kernel
theorem dX11_lastOf_20 : decode cX11_lastOf 20 = .ok (.goto (-17), 3) := by decide +kernel
theorem dX11_lastOf_23 : decode cX11_lastOf 23 = .ok (.bipush (-9), 2) := by decide +kernel
theorem dX11_lastOf_25 : decode cX11_lastOf 25 = .ok (.ireturn, 1) := by decide +kernel
theorem dX11_eachOf_0 : decode cX11_eachOf 0 = .ok (.lconst 0, 1) := by decide +kernel
theorem dX11_eachOf_1 : decode cX11_eachOf 1 = .ok (.lstore_n 3, 1) := by decide +kernel
theorem dX11_eachOf_2 : decode cX11_eachOf 2 = .ok (.iconst 0, 1) := by decide +kernel
theorem dX11_eachOf_3 : decode cX11_eachOf 3 = .ok (.istore 5, 2) := by decide +kernel
theorem dX11_eachOf_5 : decode cX11_eachOf 5 = .ok (.iconst 0, 1) := by decide +kernel
theorem dX11_eachOf_6 : decode cX11_eachOf 6 = .ok (.istore 6, 2) := by decide +kernel
theorem dX11_eachOf_8 : decode cX11_eachOf 8 = .ok (.iload 6, 2) := by decide +kernel
theorem dX11_eachOf_10 : decode cX11_eachOf 10 = .ok (.bipush 48, 2) := by decide +kernel
theorem dX11_eachOf_12 : decode cX11_eachOf 12 = .ok (.if_icmp .gt 36, 3) := by decide +kernel
theorem dX11_eachOf_15 : decode cX11_eachOf 15 = .ok (.lload_n 0, 1) := by decide +kernel
theorem dX11_eachOf_16 : decode cX11_eachOf 16 = .ok (.iload 6, 2) := by decide +kernel
theorem dX11_eachOf_18 : decode cX11_eachOf 18 = .ok (.invokestatic 103, 3) := by decide +kernel
theorem dX11_eachOf_21 : decode cX11_eachOf 21 = .ok (.ifCond .eq 21, 3) := by decide +kernel
theorem dX11_eachOf_24 : decode cX11_eachOf 24 = .ok (.iload 5, 2) := by decide +kernel
theorem dX11_eachOf_26 : decode cX11_eachOf 26 = .ok (.ifCond .ne 13, 3) := by decide +kernel
theorem dX11_eachOf_29 : decode cX11_eachOf 29 = .ok (.lload_n 3, 1) := by decide +kernel
theorem dX11_eachOf_30 : decode cX11_eachOf 30 = .ok (.lconst 1, 1) := by decide +kernel
theorem dX11_eachOf_31 : decode cX11_eachOf 31 = .ok (.iload 6, 2) := by decide +kernel
theorem dX11_eachOf_33 : decode cX11_eachOf 33 = .ok (.lshl, 1) := by decide +kernel
theorem dX11_eachOf_34 : decode cX11_eachOf 34 = .ok (.lor, 1) := by decide +kernel
theorem dX11_eachOf_35 : decode cX11_eachOf 35 = .ok (.lstore_n 3, 1) := by decide +kernel
theorem dX11_eachOf_36 : decode cX11_eachOf 36 = .ok (.iload_n 2, 1) := by decide +kernel
theorem dX11_eachOf_37 : decode cX11_eachOf 37 = .ok (.istore 5, 2) := by decide +kernel
theorem dX11_eachOf_39 : decode cX11_eachOf 39 = .ok (.iinc 5 (-1), 3) := by decide +kernel
theorem dX11_eachOf_42 : decode cX11_eachOf 42 = .ok (.iinc 6 1, 3) := by decide +kernel
theorem dX11_eachOf_45 : decode cX11_eachOf 45 = .ok (.goto (-37), 3) := by decide +kernel
theorem dX11_eachOf_48 : decode cX11_eachOf 48 = .ok (.lload_n 3, 1) := by decide +kernel
theorem dX11_eachOf_49 : decode cX11_eachOf 49 = .ok (.lreturn, 1) := by decide +kernel
theorem dX11_stepsOf_0 : decode cX11_stepsOf 0 = .ok (.iconst 0, 1) := by decide +kernel
theorem dX11_stepsOf_1 : decode cX11_stepsOf 1 = .ok (.lload_n 0, 1) := by decide +kernel
theorem dX11_stepsOf_2 : decode cX11_stepsOf 2 = .ok (.invokestatic 206, 3) := by decide +kernel
theorem dX11_stepsOf_5 : decode cX11_stepsOf 5 = .ok (.iconst 1, 1) := by decide +kernel
theorem dX11_stepsOf_6 : decode cX11_stepsOf 6 = .ok (.isub, 1) := by decide +kernel
theorem dX11_stepsOf_7 : decode cX11_stepsOf 7 = .ok (.invokestatic 140, 3) := by decide +kernel
theorem dX11_stepsOf_10 : decode cX11_stepsOf 10 = .ok (.ireturn, 1) := by decide +kernel
theorem dX11_payOf_0 : decode cX11_payOf 0 = .ok (.lload_n 1, 1) := by decide +kernel
theorem dX11_payOf_1 : decode cX11_payOf 1 = .ok (.lload_n 1, 1) := by decide +kernel
theorem dX11_payOf_2 : decode cX11_payOf 2 = .ok (.lconst 1, 1) := by decide +kernel
theorem dX11_payOf_3 : decode cX11_payOf 3 = .ok (.lsub, 1) := by decide +kernel
theorem dX11_payOf_4 : decode cX11_payOf 4 = .ok (.land, 1) := by decide +kernel
theorem dX11_payOf_5 : decode cX11_payOf 5 = .ok (.lstore 4, 2) := by decide +kernel
theorem dX11_payOf_7 : decode cX11_payOf 7 = .ok (.iload_n 3, 1) := by decide +kernel
theorem dX11_payOf_8 : decode cX11_payOf 8 = .ok (.lload_n 1, 1) := by decide +kernel
theorem dX11_payOf_9 : decode cX11_payOf 9 = .ok (.invokestatic 115, 3) := by decide +kernel
theorem dX11_payOf_12 : decode cX11_payOf 12 = .ok (.imul, 1) := by decide +kernel
theorem dX11_payOf_13 : decode cX11_payOf 13 = .ok (.aload_n 0, 1) := by decide +kernel
theorem dX11_payOf_14 : decode cX11_payOf 14 = .ok (.getfield 10, 3) := by decide +kernel
theorem dX11_payOf_17 : decode cX11_payOf 17 = .ok (.lload 4, 2) := by decide +kernel
theorem dX11_payOf_19 : decode cX11_payOf 19 = .ok (.invokevirtual 247, 3) := by decide +kernel
theorem dX11_payOf_22 : decode cX11_payOf 22 = .ok (.iadd, 1) := by decide +kernel
theorem dX11_payOf_23 : decode cX11_payOf 23 = .ok (.ireturn, 1) := by decide +kernel
theorem dX11_overOf_0 : decode cX11_overOf 0 = .ok (.lload_n 2, 1) := by decide +kernel
theorem dX11_overOf_1 : decode cX11_overOf 1 = .ok (.invokestatic 123, 3) := by decide +kernel
theorem dX11_overOf_4 : decode cX11_overOf 4 = .ok (.istore 4, 2) := by decide +kernel
theorem dX11_overOf_6 : decode cX11_overOf 6 = .ok (.iload 4, 2) := by decide +kernel
theorem dX11_overOf_8 : decode cX11_overOf 8 = .ok (.ifCond .ge 7, 3) := by decide +kernel
theorem dX11_overOf_11 : decode cX11_overOf 11 = .ok (.iconst 0, 1) := by decide +kernel
theorem dX11_overOf_12 : decode cX11_overOf 12 = .ok (.goto 12, 3) := by decide +kernel
theorem dX11_overOf_15 : decode cX11_overOf 15 = .ok (.lload_n 0, 1) := by decide +kernel
theorem dX11_overOf_16 : decode cX11_overOf 16 = .ok (.iload 4, 2) := by decide +kernel
theorem dX11_overOf_18 : decode cX11_overOf 18 = .ok (.iconst 1, 1) := by decide +kernel
theorem dX11_overOf_19 : decode cX11_overOf 19 = .ok (.iadd, 1) := by decide +kernel
theorem dX11_overOf_20 : decode cX11_overOf 20 = .ok (.lshr, 1) := by decide +kernel
theorem dX11_overOf_21 : decode cX11_overOf 21 = .ok (.invokestatic 206, 3) := by decide +kernel
theorem dX11_overOf_24 : decode cX11_overOf 24 = .ok (.ireturn, 1) := by decide +kernel
theorem dX11_nextState_0 : decode cX11_nextState 0 = .ok (.iload_n 0, 1) := by decide +kernel
theorem dX11_nextState_1 : decode cX11_nextState 1 = .ok (.ldc 250, 2) := by decide +kernel
theorem dX11_nextState_3 : decode cX11_nextState 3 = .ok (.imul, 1) := by decide +kernel
theorem dX11_nextState_4 : decode cX11_nextState 4 = .ok (.sipush 12345, 3) := by decide +kernel
theorem dX11_nextState_7 : decode cX11_nextState 7 = .ok (.iadd, 1) := by decide +kernel
theorem dX11_nextState_8 : decode cX11_nextState 8 = .ok (.ireturn, 1) := by decide +kernel
theorem dX11_drawBelow_0 : decode cX11_drawBelow 0 = .ok (.iload_n 0, 1) := by decide +kernel
theorem dX11_drawBelow_1 : decode cX11_drawBelow 1 = .ok (.iconst 1, 1) := by decide +kernel
theorem dX11_drawBelow_2 : decode cX11_drawBelow 2 = .ok (.if_icmp .ge 7, 3) := by decide +kernel
theorem dX11_drawBelow_5 : decode cX11_drawBelow 5 = .ok (.iconst 0, 1) := by decide +kernel
theorem dX11_drawBelow_6 : decode cX11_drawBelow 6 = .ok (.goto 12, 3) := by decide +kernel
theorem dX11_drawBelow_9 : decode cX11_drawBelow 9 = .ok (.iload_n 1, 1) := by decide +kernel
theorem dX11_drawBelow_10 : decode cX11_drawBelow 10 = .ok (.ldc 251, 2) := by decide +kernel
theorem dX11_drawBelow_12 : decode cX11_drawBelow 12 = .ok (.iand, 1) := by decide +kernel
theorem dX11_drawBelow_13 : decode cX11_drawBelow 13 = .ok (.bipush 16, 2) := by decide +kernel
theorem dX11_drawBelow_15 : decode cX11_drawBelow 15 = .ok (.ishr, 1) := by decide +kernel
theorem dX11_drawBelow_16 : decode cX11_drawBelow 16 = .ok (.iload_n 0, 1) := by decide +kernel
theorem dX11_drawBelow_17 : decode cX11_drawBelow 17 = .ok (.irem, 1) := by decide +kernel
theorem dX11_drawBelow_18 : decode cX11_drawBelow 18 = .ok (.ireturn, 1) := by decide +kernel
theorem dJ6_bitCount_0f7a4_0 : decode cJ6_bitCount_0f7a4 0 = .ok (.iload_n 0, 1) := by decide +kernel
theorem dJ6_bitCount_0f7a4_1 : decode cJ6_bitCount_0f7a4 1 = .ok (.iload_n 0, 1) := by decide +kernel
theorem dJ6_bitCount_0f7a4_2 : decode cJ6_bitCount_0f7a4 2 = .ok (.iconst 1, 1) := by decide +kernel
theorem dJ6_bitCount_0f7a4_3 : decode cJ6_bitCount_0f7a4 3 = .ok (.iushr, 1) := by decide +kernel
theorem dJ6_bitCount_0f7a4_4 : decode cJ6_bitCount_0f7a4 4 = .ok (.ldc_w 265, 3) := by decide +kernel
theorem dJ6_bitCount_0f7a4_7 : decode cJ6_bitCount_0f7a4 7 = .ok (.iand, 1) := by decide +kernel
theorem dJ6_bitCount_0f7a4_8 : decode cJ6_bitCount_0f7a4 8 = .ok (.isub, 1) := by decide +kernel
theorem dJ6_bitCount_0f7a4_9 : decode cJ6_bitCount_0f7a4 9 = .ok (.istore_n 0, 1) := by decide +kernel
theorem dJ6_bitCount_0f7a4_10 : decode cJ6_bitCount_0f7a4 10 = .ok (.iload_n 0, 1) := by decide +kernel
theorem dJ6_bitCount_0f7a4_11 : decode cJ6_bitCount_0f7a4 11 = .ok (.ldc_w 266, 3) := by decide +kernel
theorem dJ6_bitCount_0f7a4_14 : decode cJ6_bitCount_0f7a4 14 = .ok (.iand, 1) := by decide +kernel
theorem dJ6_bitCount_0f7a4_15 : decode cJ6_bitCount_0f7a4 15 = .ok (.iload_n 0, 1) := by decide +kernel
theorem dJ6_bitCount_0f7a4_16 : decode cJ6_bitCount_0f7a4 16 = .ok (.iconst 2, 1) := by decide +kernel
theorem dJ6_bitCount_0f7a4_17 : decode cJ6_bitCount_0f7a4 17 = .ok (.iushr, 1) := by decide +kernel
theorem dJ6_bitCount_0f7a4_18 : decode cJ6_bitCount_0f7a4 18 = .ok (.ldc_w 266, 3) := by decide +kernel
theorem dJ6_bitCount_0f7a4_21 : decode cJ6_bitCount_0f7a4 21 = .ok (.iand, 1) := by decide +kernel
theorem dJ6_bitCount_0f7a4_22 : decode cJ6_bitCount_0f7a4 22 = .ok (.iadd, 1) := by decide +kernel
theorem dJ6_bitCount_0f7a4_23 : decode cJ6_bitCount_0f7a4 23 = .ok (.istore_n 0, 1) := by decide +kernel
theorem dJ6_bitCount_0f7a4_24 : decode cJ6_bitCount_0f7a4 24 = .ok (.iload_n 0, 1) := by decide +kernel
theorem dJ6_bitCount_0f7a4_25 : decode cJ6_bitCount_0f7a4 25 = .ok (.iload_n 0, 1) := by decide +kernel
theorem dJ6_bitCount_0f7a4_26 : decode cJ6_bitCount_0f7a4 26 = .ok (.iconst 4, 1) := by decide +kernel
theorem dJ6_bitCount_0f7a4_27 : decode cJ6_bitCount_0f7a4 27 = .ok (.iushr, 1) := by decide +kernel
theorem dJ6_bitCount_0f7a4_28 : decode cJ6_bitCount_0f7a4 28 = .ok (.iadd, 1) := by decide +kernel
theorem dJ6_bitCount_0f7a4_29 : decode cJ6_bitCount_0f7a4 29 = .ok (.ldc_w 267, 3) := by decide +kernel
theorem dJ6_bitCount_0f7a4_32 : decode cJ6_bitCount_0f7a4 32 = .ok (.iand, 1) := by decide +kernel
theorem dJ6_bitCount_0f7a4_33 : decode cJ6_bitCount_0f7a4 33 = .ok (.istore_n 0, 1) := by decide +kernel
theorem dJ6_bitCount_0f7a4_34 : decode cJ6_bitCount_0f7a4 34 = .ok (.iload_n 0, 1) := by decide +kernel
theorem dJ6_bitCount_0f7a4_35 : decode cJ6_bitCount_0f7a4 35 = .ok (.iload_n 0, 1) := by decide +kernel
theorem dJ6_bitCount_0f7a4_36 : decode cJ6_bitCount_0f7a4 36 = .ok (.bipush 8, 2) := by decide +kernel
theorem dJ6_bitCount_0f7a4_38 : decode cJ6_bitCount_0f7a4 38 = .ok (.iushr, 1) := by decide +kernel
theorem dJ6_bitCount_0f7a4_39 : decode cJ6_bitCount_0f7a4 39 = .ok (.iadd, 1) := by decide +kernel
theorem dJ6_bitCount_0f7a4_40 : decode cJ6_bitCount_0f7a4 40 = .ok (.istore_n 0, 1) := by decide +kernel
theorem dJ6_bitCount_0f7a4_41 : decode cJ6_bitCount_0f7a4 41 = .ok (.iload_n 0, 1) := by decide +kernel
theorem dJ6_bitCount_0f7a4_42 : decode cJ6_bitCount_0f7a4 42 = .ok (.iload_n 0, 1) := by decide +kernel
theorem dJ6_bitCount_0f7a4_43 : decode cJ6_bitCount_0f7a4 43 = .ok (.bipush 16, 2) := by decide +kernel
theorem dJ6_bitCount_0f7a4_45 : decode cJ6_bitCount_0f7a4 45 = .ok (.iushr, 1) := by decide +kernel
theorem dJ6_bitCount_0f7a4_46 : decode cJ6_bitCount_0f7a4 46 = .ok (.iadd, 1) := by decide +kernel
theorem dJ6_bitCount_0f7a4_47 : decode cJ6_bitCount_0f7a4 47 = .ok (.istore_n 0, 1) := by decide +kernel
theorem dJ6_bitCount_0f7a4_48 : decode cJ6_bitCount_0f7a4 48 = .ok (.iload_n 0, 1) := by decide +kernel
theorem dJ6_bitCount_0f7a4_49 : decode cJ6_bitCount_0f7a4 49 = .ok (.bipush 63, 2) := by decide +kernel
theorem dJ6_bitCount_0f7a4_51 : decode cJ6_bitCount_0f7a4 51 = .ok (.iand, 1) := by decide +kernel
theorem dJ6_bitCount_0f7a4_52 : decode cJ6_bitCount_0f7a4 52 = .ok (.ireturn, 1) := by decide +kernel
theorem dJ13_bitCount_95d88_0 : decode cJ13_bitCount_95d88 0 = .ok (.lload_n 0, 1) := by decide +kernel
theorem dJ13_bitCount_95d88_1 : decode cJ13_bitCount_95d88 1 = .ok (.lload_n 0, 1) := by decide +kernel
theorem dJ13_bitCount_95d88_2 : decode cJ13_bitCount_95d88 2 = .ok (.iconst 1, 1) := by decide +kernel
theorem dJ13_bitCount_95d88_3 : decode cJ13_bitCount_95d88 3 = .ok (.lushr, 1) := by decide +kernel
theorem dJ13_bitCount_95d88_4 : decode cJ13_bitCount_95d88 4 = .ok (.ldc2_w 314, 3) := by decide +kernel
theorem dJ13_bitCount_95d88_7 : decode cJ13_bitCount_95d88 7 = .ok (.land, 1) := by decide +kernel
theorem dJ13_bitCount_95d88_8 : decode cJ13_bitCount_95d88 8 = .ok (.lsub, 1) := by decide +kernel
theorem dJ13_bitCount_95d88_9 : decode cJ13_bitCount_95d88 9 = .ok (.lstore_n 0, 1) := by decide +kernel
theorem dJ13_bitCount_95d88_10 : decode cJ13_bitCount_95d88 10 = .ok (.lload_n 0, 1) := by decide +kernel
theorem dJ13_bitCount_95d88_11 : decode cJ13_bitCount_95d88 11 = .ok (.ldc2_w 316, 3) := by decide +kernel
theorem dJ13_bitCount_95d88_14 : decode cJ13_bitCount_95d88 14 = .ok (.land, 1) := by decide +kernel
theorem dJ13_bitCount_95d88_15 : decode cJ13_bitCount_95d88 15 = .ok (.lload_n 0, 1) := by decide +kernel
theorem dJ13_bitCount_95d88_16 : decode cJ13_bitCount_95d88 16 = .ok (.iconst 2, 1) := by decide +kernel
theorem dJ13_bitCount_95d88_17 : decode cJ13_bitCount_95d88 17 = .ok (.lushr, 1) := by decide +kernel
theorem dJ13_bitCount_95d88_18 : decode cJ13_bitCount_95d88 18 = .ok (.ldc2_w 316, 3) := by decide +kernel
theorem dJ13_bitCount_95d88_21 : decode cJ13_bitCount_95d88 21 = .ok (.land, 1) := by decide +kernel
theorem dJ13_bitCount_95d88_22 : decode cJ13_bitCount_95d88 22 = .ok (.ladd, 1) := by decide +kernel
theorem dJ13_bitCount_95d88_23 : decode cJ13_bitCount_95d88 23 = .ok (.lstore_n 0, 1) := by decide +kernel
theorem dJ13_bitCount_95d88_24 : decode cJ13_bitCount_95d88 24 = .ok (.lload_n 0, 1) := by decide +kernel
theorem dJ13_bitCount_95d88_25 : decode cJ13_bitCount_95d88 25 = .ok (.lload_n 0, 1) := by decide +kernel
theorem dJ13_bitCount_95d88_26 : decode cJ13_bitCount_95d88 26 = .ok (.iconst 4, 1) := by decide +kernel
theorem dJ13_bitCount_95d88_27 : decode cJ13_bitCount_95d88 27 = .ok (.lushr, 1) := by decide +kernel
theorem dJ13_bitCount_95d88_28 : decode cJ13_bitCount_95d88 28 = .ok (.ladd, 1) := by decide +kernel
theorem dJ13_bitCount_95d88_29 : decode cJ13_bitCount_95d88 29 = .ok (.ldc2_w 318, 3) := by decide +kernel
theorem dJ13_bitCount_95d88_32 : decode cJ13_bitCount_95d88 32 = .ok (.land, 1) := by decide +kernel
theorem dJ13_bitCount_95d88_33 : decode cJ13_bitCount_95d88 33 = .ok (.lstore_n 0, 1) := by decide +kernel
theorem dJ13_bitCount_95d88_34 : decode cJ13_bitCount_95d88 34 = .ok (.lload_n 0, 1) := by decide +kernel
theorem dJ13_bitCount_95d88_35 : decode cJ13_bitCount_95d88 35 = .ok (.lload_n 0, 1) := by decide +kernel
theorem dJ13_bitCount_95d88_36 : decode cJ13_bitCount_95d88 36 = .ok (.bipush 8, 2) := by decide +kernel
theorem dJ13_bitCount_95d88_38 : decode cJ13_bitCount_95d88 38 = .ok (.lushr, 1) := by decide +kernel
theorem dJ13_bitCount_95d88_39 : decode cJ13_bitCount_95d88 39 = .ok (.ladd, 1) := by decide +kernel
theorem dJ13_bitCount_95d88_40 : decode cJ13_bitCount_95d88 40 = .ok (.lstore_n 0, 1) := by decide +kernel
theorem dJ13_bitCount_95d88_41 : decode cJ13_bitCount_95d88 41 = .ok (.lload_n 0, 1) := by decide +kernel
theorem dJ13_bitCount_95d88_42 : decode cJ13_bitCount_95d88 42 = .ok (.lload_n 0, 1) := by decide +kernel
theorem dJ13_bitCount_95d88_43 : decode cJ13_bitCount_95d88 43 = .ok (.bipush 16, 2) := by decide +kernel
theorem dJ13_bitCount_95d88_45 : decode cJ13_bitCount_95d88 45 = .ok (.lushr, 1) := by decide +kernel
theorem dJ13_bitCount_95d88_46 : decode cJ13_bitCount_95d88 46 = .ok (.ladd, 1) := by decide +kernel
theorem dJ13_bitCount_95d88_47 : decode cJ13_bitCount_95d88 47 = .ok (.lstore_n 0, 1) := by decide +kernel
theorem dJ13_bitCount_95d88_48 : decode cJ13_bitCount_95d88 48 = .ok (.lload_n 0, 1) := by decide +kernel
theorem dJ13_bitCount_95d88_49 : decode cJ13_bitCount_95d88 49 = .ok (.lload_n 0, 1) := by decide +kernel
theorem dJ13_bitCount_95d88_50 : decode cJ13_bitCount_95d88 50 = .ok (.bipush 32, 2) := by decide +kernel
theorem dJ13_bitCount_95d88_52 : decode cJ13_bitCount_95d88 52 = .ok (.lushr, 1) := by decide +kernel
theorem dJ13_bitCount_95d88_53 : decode cJ13_bitCount_95d88 53 = .ok (.ladd, 1) := by decide +kernel
theorem dJ13_bitCount_95d88_54 : decode cJ13_bitCount_95d88 54 = .ok (.lstore_n 0, 1) := by decide +kernel
theorem dJ13_bitCount_95d88_55 : decode cJ13_bitCount_95d88 55 = .ok (.lload_n 0, 1) := by decide +kernel
theorem dJ13_bitCount_95d88_56 : decode cJ13_bitCount_95d88 56 = .ok (.l2i, 1) := by decide +kernel
theorem dJ13_bitCount_95d88_57 : decode cJ13_bitCount_95d88 57 = .ok (.bipush 127, 2) := by decide +kernel
theorem dJ13_bitCount_95d88_59 : decode cJ13_bitCount_95d88 59 = .ok (.iand, 1) := by decide +kernel
theorem dJ13_bitCount_95d88_60 : decode cJ13_bitCount_95d88 60 = .ok (.ireturn, 1) := by decide +kernel
theorem dJ9_abs_0f7a4_0 : decode cJ9_abs_0f7a4 0 = .ok (.iload_n 0, 1) := by decide +kernel
theorem dJ9_abs_0f7a4_1 : decode cJ9_abs_0f7a4 1 = .ok (.ifCond .ge 8, 3) := by decide +kernel
theorem dJ9_abs_0f7a4_4 : decode cJ9_abs_0f7a4 4 = .ok (.iload_n 0, 1) := by decide +kernel
theorem dJ9_abs_0f7a4_5 : decode cJ9_abs_0f7a4 5 = .ok (.ineg, 1) := by decide +kernel
theorem dJ9_abs_0f7a4_6 : decode cJ9_abs_0f7a4 6 = .ok (.goto 4, 3) := by decide +kernel
theorem dJ9_abs_0f7a4_9 : decode cJ9_abs_0f7a4 9 = .ok (.iload_n 0, 1) := by decide +kernel
theorem dJ9_abs_0f7a4_10 : decode cJ9_abs_0f7a4 10 = .ok (.ireturn, 1) := by decide +kernel
theorem dJ9_max_7cf53_0 : decode cJ9_max_7cf53 0 = .ok (.iload_n 0, 1) := by decide +kernel
theorem dJ9_max_7cf53_1 : decode cJ9_max_7cf53 1 = .ok (.iload_n 1, 1) := by decide +kernel
theorem dJ9_max_7cf53_2 : decode cJ9_max_7cf53 2 = .ok (.if_icmp .lt 7, 3) := by decide +kernel
theorem dJ9_max_7cf53_5 : decode cJ9_max_7cf53 5 = .ok (.iload_n 0, 1) := by decide +kernel
theorem dJ9_max_7cf53_6 : decode cJ9_max_7cf53 6 = .ok (.goto 4, 3) := by decide +kernel
theorem dJ9_max_7cf53_9 : decode cJ9_max_7cf53 9 = .ok (.iload_n 1, 1) := by decide +kernel
theorem dJ9_max_7cf53_10 : decode cJ9_max_7cf53 10 = .ok (.ireturn, 1) := by decide +kernel
theorem dJ9_min_7cf53_0 : decode cJ9_min_7cf53 0 = .ok (.iload_n 0, 1) := by decide +kernel
theorem dJ9_min_7cf53_1 : decode cJ9_min_7cf53 1 = .ok (.iload_n 1, 1) := by decide +kernel
theorem dJ9_min_7cf53_2 : decode cJ9_min_7cf53 2 = .ok (.if_icmp .gt 7, 3) := by decide +kernel
theorem dJ9_min_7cf53_5 : decode cJ9_min_7cf53 5 = .ok (.iload_n 0, 1) := by decide +kernel
theorem dJ9_min_7cf53_6 : decode cJ9_min_7cf53 6 = .ok (.goto 4, 3) := by decide +kernel
theorem dJ9_min_7cf53_9 : decode cJ9_min_7cf53 9 = .ok (.iload_n 1, 1) := by decide +kernel
theorem dJ9_min_7cf53_10 : decode cJ9_min_7cf53 10 = .ok (.ireturn, 1) := by decide +kernel
end
section
theorem dX12_init_0 : decode cX12_init 0 = .ok (.aload_n 0, 1) := by decide +kernel
theorem dX12_init_1 : decode cX12_init 1 = .ok (.invokespecial 1, 3) := by decide +kernel
theorem dX12_init_4 : decode cX12_init 4 = .ok (.aload_n 0, 1) := by decide +kernel
theorem dX12_init_5 : decode cX12_init 5 = .ok (.bipush 7, 2) := by decide +kernel
theorem dX12_init_7 : decode cX12_init 7 = .ok (.newarray .int, 2) := by decide +kernel
theorem dX12_init_9 : decode cX12_init 9 = .ok (.putfield 7, 3) := by decide +kernel
theorem dX12_init_12 : decode cX12_init 12 = .ok (.aload_n 0, 1) := by decide +kernel
theorem dX12_init_13 : decode cX12_init 13 = .ok (.bipush 8, 2) := by decide +kernel
theorem dX12_init_15 : decode cX12_init 15 = .ok (.newarray .int, 2) := by decide +kernel
theorem dX12_init_17 : decode cX12_init 17 = .ok (.putfield 13, 3) := by decide +kernel
theorem dX12_init_20 : decode cX12_init 20 = .ok (.aload_n 0, 1) := by decide +kernel
theorem dX12_init_21 : decode cX12_init 21 = .ok (.bipush 8, 2) := by decide +kernel
theorem dX12_init_23 : decode cX12_init 23 = .ok (.newarray .int, 2) := by decide +kernel
theorem dX12_init_25 : decode cX12_init 25 = .ok (.putfield 16, 3) := by decide +kernel
theorem dX12_init_28 : decode cX12_init 28 = .ok (.aload_n 0, 1) := by decide +kernel
theorem dX12_init_29 : decode cX12_init 29 = .ok (.bipush 8, 2) := by decide +kernel
theorem dX12_init_31 : decode cX12_init 31 = .ok (.newarray .int, 2) := by decide +kernel
theorem dX12_init_33 : decode cX12_init 33 = .ok (.putfield 19, 3) := by decide +kernel
theorem dX12_init_36 : decode cX12_init 36 = .ok (.aload_n 0, 1) := by decide +kernel
theorem dX12_init_37 : decode cX12_init 37 = .ok (.bipush 8, 2) := by decide +kernel
theorem dX12_init_39 : decode cX12_init 39 = .ok (.newarray .int, 2) := by decide +kernel
theorem dX12_init_41 : decode cX12_init 41 = .ok (.putfield 22, 3) := by decide +kernel
theorem dX12_init_44 : decode cX12_init 44 = .ok (.aload_n 0, 1) := by decide +kernel
theorem dX12_init_45 : decode cX12_init 45 = .ok (.bipush 49, 2) := by decide +kernel
theorem dX12_init_47 : decode cX12_init 47 = .ok (.newarray .int, 2) := by decide +kernel
theorem dX12_init_49 : decode cX12_init 49 = .ok (.putfield 25, 3) := by decide +kernel
theorem dX12_init_52 : decode cX12_init 52 = .ok (.aload_n 0, 1) := by decide +kernel
theorem dX12_init_53 : decode cX12_init 53 = .ok (.bipush 49, 2) := by decide +kernel
theorem dX12_init_55 : decode cX12_init 55 = .ok (.newarray .int, 2) := by decide +kernel
theorem dX12_init_57 : decode cX12_init 57 = .ok (.putfield 28, 3) := by decide +kernel
theorem dX12_init_60 : decode cX12_init 60 = .ok (.aload_n 0, 1) := by decide +kernel
theorem dX12_init_61 : decode cX12_init 61 = .ok (.bipush 49, 2) := by decide +kernel
theorem dX12_init_63 : decode cX12_init 63 = .ok (.newarray .int, 2) := by decide +kernel
theorem dX12_init_65 : decode cX12_init 65 = .ok (.putfield 31, 3) := by decide +kernel
theorem dX12_init_68 : decode cX12_init 68 = .ok (.aload_n 0, 1) := by decide +kernel
theorem dX12_init_69 : decode cX12_init 69 = .ok (.bipush 6, 2) := by decide +kernel
theorem dX12_init_71 : decode cX12_init 71 = .ok (.newarray .int, 2) := by decide +kernel
theorem dX12_init_73 : decode cX12_init 73 = .ok (.putfield 34, 3) := by decide +kernel
theorem dX12_init_76 : decode cX12_init 76 = .ok (.aload_n 0, 1) := by decide +kernel
theorem dX12_init_77 : decode cX12_init 77 = .ok (.bipush 6, 2) := by decide +kernel
theorem dX12_init_79 : decode cX12_init 79 = .ok (.newarray .int, 2) := by decide +kernel
theorem dX12_init_81 : decode cX12_init 81 = .ok (.putfield 37, 3) := by decide +kernel
theorem dX12_init_84 : decode cX12_init 84 = .ok (.aload_n 0, 1) := by decide +kernel
theorem dX12_init_85 : decode cX12_init 85 = .ok (.bipush 6, 2) := by decide +kernel
theorem dX12_init_87 : decode cX12_init 87 = .ok (.newarray .int, 2) := by decide +kernel
theorem dX12_init_89 : decode cX12_init 89 = .ok (.putfield 40, 3) := by decide +kernel
theorem dX12_init_92 : decode cX12_init 92 = .ok (.aload_n 0, 1) := by decide +kernel
theorem dX12_init_93 : decode cX12_init 93 = .ok (.bipush 6, 2) := by decide +kernel
theorem dX12_init_95 : decode cX12_init 95 = .ok (.newarray .int, 2) := by decide +kernel
theorem dX12_init_97 : decode cX12_init 97 = .ok (.putfield 43, 3) := by decide +kernel
theorem dX12_init_100 : decode cX12_init 100 = .ok (.aload_n 0, 1) := by decide +kernel
theorem dX12_init_101 : decode cX12_init 101 = .ok (.bipush 80, 2) := by decide +kernel
theorem dX12_init_103 : decode cX12_init 103 = .ok (.newarray .int, 2) := by decide +kernel
theorem dX12_init_105 : decode cX12_init 105 = .ok (.putfield 46, 3) := by decide +kernel
theorem dX12_init_108 : decode cX12_init 108 = .ok (.aload_n 0, 1) := by decide +kernel
theorem dX12_init_109 : decode cX12_init 109 = .ok (.bipush 40, 2) := by decide +kernel
theorem dX12_init_111 : decode cX12_init 111 = .ok (.newarray .int, 2) := by decide +kernel
theorem dX12_init_113 : decode cX12_init 113 = .ok (.putfield 49, 3) := by decide +kernel
theorem dX12_init_116 : decode cX12_init 116 = .ok (.aload_n 0, 1) := by decide +kernel
theorem dX12_init_117 : decode cX12_init 117 = .ok (.bipush 40, 2) := by decide +kernel
theorem dX12_init_119 : decode cX12_init 119 = .ok (.newarray .int, 2) := by decide +kernel
theorem dX12_init_121 : decode cX12_init 121 = .ok (.putfield 52, 3) := by decide +kernel
theorem dX12_init_124 : decode cX12_init 124 = .ok (.aload_n 0, 1) := by decide +kernel
theorem dX12_init_125 : decode cX12_init 125 = .ok (.sipush 640, 3) := by decide +kernel
theorem dX12_init_128 : decode cX12_init 128 = .ok (.newarray .int, 2) := by decide +kernel
theorem dX12_init_130 : decode cX12_init 130 = .ok (.putfield 55, 3) := by decide +kernel
theorem dX12_init_133 : decode cX12_init 133 = .ok (.aload_n 0, 1) := by decide +kernel
theorem dX12_init_134 : decode cX12_init 134 = .ok (.sipush 440, 3) := by decide +kernel
theorem dX12_init_137 : decode cX12_init 137 = .ok (.newarray .int, 2) := by decide +kernel
theorem dX12_init_139 : decode cX12_init 139 = .ok (.putfield 58, 3) := by decide +kernel
theorem dX12_init_142 : decode cX12_init 142 = .ok (.aload_n 0, 1) := by decide +kernel
theorem dX12_init_143 : decode cX12_init 143 = .ok (.bipush 49, 2) := by decide +kernel
theorem dX12_init_145 : decode cX12_init 145 = .ok (.newarray .int, 2) := by decide +kernel
theorem dX12_init_147 : decode cX12_init 147 = .ok (.putfield 61, 3) := by decide +kernel
theorem dX12_init_150 : decode cX12_init 150 = .ok (.aload_n 0, 1) := by decide +kernel
theorem dX12_init_151 : decode cX12_init 151 = .ok (.bipush 49, 2) := by decide +kernel
theorem dX12_init_153 : decode cX12_init 153 = .ok (.newarray .int, 2) := by decide +kernel
theorem dX12_init_155 : decode cX12_init 155 = .ok (.putfield 64, 3) := by decide +kernel
theorem dX12_init_158 : decode cX12_init 158 = .ok (.aload_n 0, 1) := by decide +kernel
theorem dX12_init_159 : decode cX12_init 159 = .ok (.bipush 6, 2) := by decide +kernel
theorem dX12_init_161 : decode cX12_init 161 = .ok (.newarray .int, 2) := by decide +kernel
theorem dX12_init_163 : decode cX12_init 163 = .ok (.putfield 67, 3) := by decide +kernel
theorem dX12_init_166 : decode cX12_init 166 = .ok (.aload_n 0, 1) := by decide +kernel
theorem dX12_init_167 : decode cX12_init 167 = .ok (.bipush 49, 2) := by decide +kernel
theorem dX12_init_169 : decode cX12_init 169 = .ok (.newarray .int, 2) := by decide +kernel
theorem dX12_init_171 : decode cX12_init 171 = .ok (.putfield 70, 3) := by decide +kernel
theorem dX12_init_174 : decode cX12_init 174 = .ok (.aload_n 0, 1) := by decide +kernel
theorem dX12_init_175 : decode cX12_init 175 = .ok (.bipush 12, 2) := by decide +kernel
theorem dX12_init_177 : decode cX12_init 177 = .ok (.newarray .int, 2) := by decide +kernel
theorem dX12_init_179 : decode cX12_init 179 = .ok (.putfield 73, 3) := by decide +kernel
theorem dX12_init_182 : decode cX12_init 182 = .ok (.return_, 1) := by decide +kernel
theorem dX12_no_0 : decode cX12_no 0 = .ok (.aload_n 0, 1) := by decide +kernel
theorem dX12_no_1 : decode cX12_no 1 = .ok (.getfield 7, 3) := by decide +kernel
theorem dX12_no_4 : decode cX12_no 4 = .ok (.iload_n 1, 1) := by decide +kernel
theorem dX12_no_5 : decode cX12_no 5 = .ok (.ineg, 1) := by decide +kernel
theorem dX12_no_6 : decode cX12_no 6 = .ok (.dup2, 1) := by decide +kernel
theorem dX12_no_7 : decode cX12_no 7 = .ok (.iaload, 1) := by decide +kernel
theorem dX12_no_8 : decode cX12_no 8 = .ok (.iconst 1, 1) := by decide +kernel
theorem dX12_no_9 : decode cX12_no 9 = .ok (.iadd, 1) := by decide +kernel
theorem dX12_no_10 : decode cX12_no 10 = .ok (.iastore, 1) := by decide +kernel
theorem dX12_no_11 : decode cX12_no 11 = .ok (.iload_n 1, 1) := by decide +kernel
theorem dX12_no_12 : decode cX12_no 12 = .ok (.ireturn, 1) := by decide +kernel
theorem dX12_lower_0 : decode cX12_lower 0 = .ok (.aload_n 0, 1) := by decide +kernel
theorem dX12_lower_1 : decode cX12_lower 1 = .ok (.getfield 7, 3) := by decide +kernel
theorem dX12_lower_4 : decode cX12_lower 4 = .ok (.iload_n 1, 1) := by decide +kernel
theorem dX12_lower_5 : decode cX12_lower 5 = .ok (.ineg, 1) := by decide +kernel
theorem dX12_lower_6 : decode cX12_lower 6 = .ok (.dup2, 1) := by decide +kernel
theorem dX12_lower_7 : decode cX12_lower 7 = .ok (.iaload, 1) := by decide +kernel
theorem dX12_lower_8 : decode cX12_lower 8 = .ok (.iconst 1, 1) := by decide +kernel
theorem dX12_lower_9 : decode cX12_lower 9 = .ok (.iadd, 1) := by decide +kernel
theorem dX12_lower_10 : decode cX12_lower 10 = .ok (.iastore, 1) := by decide +kernel
theorem dX12_lower_11 : decode cX12_lower 11 = .ok (.ldc 76, 2) := by decide +kernel
theorem dX12_lower_13 : decode cX12_lower 13 = .ok (.iload_n 1, 1) := by decide +kernel
theorem dX12_lower_14 : decode cX12_lower 14 = .ok (.isub, 1) := by decide +kernel
theorem dX12_lower_15 : decode cX12_lower 15 = .ok (.ireturn, 1) := by decide +kernel
theorem dX12_isIn_0 : decode cX12_isIn 0 = .ok (.iload_n 0, 1) := by decide +kernel
theorem dX12_isIn_1 : decode cX12_isIn 1 = .ok (.iload_n 1, 1) := by decide +kernel
theorem dX12_isIn_2 : decode cX12_isIn 2 = .ok (.if_icmp .lt 12, 3) := by decide +kernel
theorem dX12_isIn_5 : decode cX12_isIn 5 = .ok (.iload_n 0, 1) := by decide +kernel
theorem dX12_isIn_6 : decode cX12_isIn 6 = .ok (.iload_n 2, 1) := by decide +kernel
theorem dX12_isIn_7 : decode cX12_isIn 7 = .ok (.if_icmp .gt 7, 3) := by decide +kernel
theorem dX12_isIn_10 : decode cX12_isIn 10 = .ok (.iconst 1, 1) := by decide +kernel
theorem dX12_isIn_11 : decode cX12_isIn 11 = .ok (.goto 4, 3) := by decide +kernel
theorem dX12_isIn_14 : decode cX12_isIn 14 = .ok (.iconst 0, 1) := by decide +kernel
theorem dX12_isIn_15 : decode cX12_isIn 15 = .ok (.ireturn, 1) := by decide +kernel
theorem dX12_bound_0 : decode cX12_bound 0 = .ok (.iload_n 0, 1) := by decide +kernel
theorem dX12_bound_1 : decode cX12_bound 1 = .ok (.iload_n 1, 1) := by decide +kernel
theorem dX12_bound_2 : decode cX12_bound 2 = .ok (.if_icmp .ge 8, 3) := by decide +kernel
theorem dX12_bound_5 : decode cX12_bound 5 = .ok (.bipush (-4), 2) := by decide +kernel
theorem dX12_bound_7 : decode cX12_bound 7 = .ok (.goto 14, 3) := by decide +kernel
theorem dX12_bound_10 : decode cX12_bound 10 = .ok (.iload_n 0, 1) := by decide +kernel
theorem dX12_bound_11 : decode cX12_bound 11 = .ok (.iload_n 2, 1) := by decide +kernel
theorem dX12_bound_12 : decode cX12_bound 12 = .ok (.if_icmp .le 8, 3) := by decide +kernel
theorem dX12_bound_15 : decode cX12_bound 15 = .ok (.bipush (-6), 2) := by decide +kernel
theorem dX12_bound_17 : decode cX12_bound 17 = .ok (.goto 4, 3) := by decide +kernel
theorem dX12_bound_20 : decode cX12_bound 20 = .ok (.iconst 0, 1) := by decide +kernel
theorem dX12_bound_21 : decode cX12_bound 21 = .ok (.ireturn, 1) := by decide +kernel
theorem dX12_feed_0 : decode cX12_feed 0 = .ok (.iload_n 1, 1) := by decide +kernel
theorem dX12_feed_1 : decode cX12_feed 1 = .ok (.iconst 0, 1) := by decide +kernel
theorem dX12_feed_2 : decode cX12_feed 2 = .ok (.sipush 255, 3) := by decide +kernel
theorem dX12_feed_5 : decode cX12_feed 5 = .ok (.invokestatic 77, 3) := by decide +kernel
theorem dX12_feed_8 : decode cX12_feed 8 = .ok (.istore_n 2, 1) := by decide +kernel
theorem dX12_feed_9 : decode cX12_feed 9 = .ok (.iload_n 2, 1) := by decide +kernel
theorem dX12_feed_10 : decode cX12_feed 10 = .ok (.ifCond .ne 15, 3) := by decide +kernel
theorem dX12_feed_13 : decode cX12_feed 13 = .ok (.aload_n 0, 1) := by decide +kernel
theorem dX12_feed_14 : decode cX12_feed 14 = .ok (.getfield 81, 3) := by decide +kernel
theorem dX12_feed_17 : decode cX12_feed 17 = .ok (.bipush 80, 2) := by decide +kernel
theorem dX12_feed_19 : decode cX12_feed 19 = .ok (.if_icmp .ne 6, 3) := by decide +kernel
theorem dX12_feed_22 : decode cX12_feed 22 = .ok (.bipush (-6), 2) := by decide +kernel
theorem dX12_feed_24 : decode cX12_feed 24 = .ok (.istore_n 2, 1) := by decide +kernel
theorem dX12_feed_25 : decode cX12_feed 25 = .ok (.iload_n 2, 1) := by decide +kernel
theorem dX12_feed_26 : decode cX12_feed 26 = .ok (.ifCond .eq 9, 3) := by decide +kernel
theorem dX12_feed_29 : decode cX12_feed 29 = .ok (.aload_n 0, 1) := by decide +kernel
theorem dX12_feed_30 : decode cX12_feed 30 = .ok (.iload_n 2, 1) := by decide +kernel
theorem dX12_feed_31 : decode cX12_feed 31 = .ok (.invokevirtual 85, 3) := by decide +kernel
theorem dX12_feed_34 : decode cX12_feed 34 = .ok (.ireturn, 1) := by decide +kernel
theorem dX12_feed_35 : decode cX12_feed 35 = .ok (.aload_n 0, 1) := by decide +kernel
theorem dX12_feed_36 : decode cX12_feed 36 = .ok (.getfield 46, 3) := by decide +kernel
theorem dX12_feed_39 : decode cX12_feed 39 = .ok (.aload_n 0, 1) := by decide +kernel
theorem dX12_feed_40 : decode cX12_feed 40 = .ok (.getfield 81, 3) := by decide +kernel
theorem dX12_feed_43 : decode cX12_feed 43 = .ok (.iload_n 1, 1) := by decide +kernel
theorem dX12_feed_44 : decode cX12_feed 44 = .ok (.iastore, 1) := by decide +kernel
theorem dX12_feed_45 : decode cX12_feed 45 = .ok (.aload_n 0, 1) := by decide +kernel
theorem dX12_feed_46 : decode cX12_feed 46 = .ok (.dup, 1) := by decide +kernel
theorem dX12_feed_47 : decode cX12_feed 47 = .ok (.getfield 81, 3) := by decide +kernel
theorem dX12_feed_50 : decode cX12_feed 50 = .ok (.iconst 1, 1) := by decide +kernel
theorem dX12_feed_51 : decode cX12_feed 51 = .ok (.iadd, 1) := by decide +kernel
theorem dX12_feed_52 : decode cX12_feed 52 = .ok (.putfield 81, 3) := by decide +kernel
theorem dX12_feed_55 : decode cX12_feed 55 = .ok (.aload_n 0, 1) := by decide +kernel
theorem dX12_feed_56 : decode cX12_feed 56 = .ok (.getfield 81, 3) := by decide +kernel
theorem dX12_feed_59 : decode cX12_feed 59 = .ok (.ireturn, 1) := by decide +kernel
theorem dX12_next_0 : decode cX12_next 0 = .ok (.aload_n 0, 1) := by decide +kernel
theorem dX12_next_1 : decode cX12_next 1 = .ok (.getfield 89, 3) := by decide +kernel
theorem dX12_next_4 : decode cX12_next 4 = .ok (.aload_n 0, 1) := by decide +kernel
theorem dX12_next_5 : decode cX12_next 5 = .ok (.getfield 81, 3) := by decide +kernel
theorem dX12_next_8 : decode cX12_next 8 = .ok (.if_icmp .ge 15, 3) := by decide +kernel
theorem dX12_next_11 : decode cX12_next 11 = .ok (.aload_n 0, 1) := by decide +kernel
theorem dX12_next_12 : decode cX12_next 12 = .ok (.getfield 46, 3) := by decide +kernel
theorem dX12_next_15 : decode cX12_next 15 = .ok (.aload_n 0, 1) := by decide +kernel
theorem dX12_next_16 : decode cX12_next 16 = .ok (.getfield 89, 3) := by decide +kernel
theorem dX12_next_19 : decode cX12_next 19 = .ok (.iaload, 1) := by decide +kernel
theorem dX12_next_20 : decode cX12_next 20 = .ok (.goto 4, 3) := by decide +kernel
theorem dX12_next_23 : decode cX12_next 23 = .ok (.iconst (-1), 1) := by decide +kernel
theorem dX12_next_24 : decode cX12_next 24 = .ok (.ireturn, 1) := by decide +kernel
theorem dX12_readsOnes_0 : decode cX12_readsOnes 0 = .ok (.iconst 0, 1) := by decide +kernel
theorem dX12_readsOnes_1 : decode cX12_readsOnes 1 = .ok (.istore_n 3, 1) := by decide +kernel
theorem dX12_readsOnes_2 : decode cX12_readsOnes 2 = .ok (.iload_n 3, 1) := by decide +kernel
theorem dX12_readsOnes_3 : decode cX12_readsOnes 3 = .ok (.iload_n 2, 1) := by decide +kernel
theorem dX12_readsOnes_4 : decode cX12_readsOnes 4 = .ok (.if_icmp .ge 50, 3) := by decide +kernel
theorem dX12_readsOnes_7 : decode cX12_readsOnes 7 = .ok (.aload_n 0, 1) := by decide +kernel
theorem dX12_readsOnes_8 : decode cX12_readsOnes 8 = .ok (.invokevirtual 92, 3) := by decide +kernel
theorem dX12_readsOnes_11 : decode cX12_readsOnes 11 = .ok (.bipush 48, 2) := by decide +kernel
theorem dX12_readsOnes_13 : decode cX12_readsOnes 13 = .ok (.bipush 57, 2) := by decide +kernel
theorem dX12_readsOnes_15 : decode cX12_readsOnes 15 = .ok (.invokestatic 96, 3) := by decide +kernel
theorem dX12_readsOnes_18 : decode cX12_readsOnes 18 = .ok (.ifCond .ne 5, 3) := by decide +kernel
theorem dX12_readsOnes_21 : decode cX12_readsOnes 21 = .ok (.iconst 0, 1) := by decide +kernel
theorem dX12_readsOnes_22 : decode cX12_readsOnes 22 = .ok (.ireturn, 1) := by decide +kernel
theorem dX12_readsOnes_23 : decode cX12_readsOnes 23 = .ok (.aload_n 0, 1) := by decide +kernel
theorem dX12_readsOnes_24 : decode cX12_readsOnes 24 = .ok (.getfield 55, 3) := by decide +kernel
theorem dX12_readsOnes_27 : decode cX12_readsOnes 27 = .ok (.iload_n 1, 1) := by decide +kernel
theorem dX12_readsOnes_28 : decode cX12_readsOnes 28 = .ok (.iload_n 3, 1) := by decide +kernel
theorem dX12_readsOnes_29 : decode cX12_readsOnes 29 = .ok (.iadd, 1) := by decide +kernel
theorem dX12_readsOnes_30 : decode cX12_readsOnes 30 = .ok (.aload_n 0, 1) := by decide +kernel
theorem dX12_readsOnes_31 : decode cX12_readsOnes 31 = .ok (.invokevirtual 92, 3) := by decide +kernel
theorem dX12_readsOnes_34 : decode cX12_readsOnes 34 = .ok (.bipush 48, 2) := by decide +kernel
theorem dX12_readsOnes_36 : decode cX12_readsOnes 36 = .ok (.isub, 1) := by decide +kernel
theorem dX12_readsOnes_37 : decode cX12_readsOnes 37 = .ok (.iastore, 1) := by decide +kernel
theorem dX12_readsOnes_38 : decode cX12_readsOnes 38 = .ok (.aload_n 0, 1) := by decide +kernel
theorem dX12_readsOnes_39 : decode cX12_readsOnes 39 = .ok (.dup, 1) := by decide +kernel
theorem dX12_readsOnes_40 : decode cX12_readsOnes 40 = .ok (.getfield 89, 3) := by decide +kernel
theorem dX12_readsOnes_43 : decode cX12_readsOnes 43 = .ok (.iconst 1, 1) := by decide +kernel
theorem dX12_readsOnes_44 : decode cX12_readsOnes 44 = .ok (.iadd, 1) := by decide +kernel
theorem dX12_readsOnes_45 : decode cX12_readsOnes 45 = .ok (.putfield 89, 3) := by decide +kernel
theorem dX12_readsOnes_48 : decode cX12_readsOnes 48 = .ok (.iinc 3 1, 3) := by decide +kernel
theorem dX12_readsOnes_51 : decode cX12_readsOnes 51 = .ok (.goto (-49), 3) := by decide +kernel
theorem dX12_readsOnes_54 : decode cX12_readsOnes 54 = .ok (.iconst 1, 1) := by decide +kernel
theorem dX12_readsOnes_55 : decode cX12_readsOnes 55 = .ok (.ireturn, 1) := by decide +kernel
theorem dX12_wayOf_0 : decode cX12_wayOf 0 = .ok (.iload_n 0, 1) := by decide +kernel
theorem dX12_wayOf_1 : decode cX12_wayOf 1 = .ok (.lookupswitch 51 #[(101, 45), (110, 43), (115, 47), (119, 49)], 43) := by decide +kernel
theorem dX12_wayOf_44 : decode cX12_wayOf 44 = .ok (.iconst 0, 1) := by decide +kernel
theorem dX12_wayOf_45 : decode cX12_wayOf 45 = .ok (.ireturn, 1) := by decide +kernel
theorem dX12_wayOf_46 : decode cX12_wayOf 46 = .ok (.iconst 1, 1) := by decide +kernel
theorem dX12_wayOf_47 : decode cX12_wayOf 47 = .ok (.ireturn, 1) := by decide +kernel
theorem dX12_wayOf_48 : decode cX12_wayOf 48 = .ok (.iconst 2, 1) := by decide +kernel
theorem dX12_wayOf_49 : decode cX12_wayOf 49 = .ok (.ireturn, 1) := by decide +kernel
theorem dX12_wayOf_50 : decode cX12_wayOf 50 = .ok (.iconst 3, 1) := by decide +kernel
theorem dX12_wayOf_51 : decode cX12_wayOf 51 = .ok (.ireturn, 1) := by decide +kernel
theorem dX12_wayOf_52 : decode cX12_wayOf 52 = .ok (.iconst (-1), 1) := by decide +kernel
theorem dX12_wayOf_53 : decode cX12_wayOf 53 = .ok (.ireturn, 1) := by decide +kernel
theorem dX12_readsStretch_0 : decode cX12_readsStretch 0 = .ok (.aload_n 0, 1) := by decide +kernel
theorem dX12_readsStretch_1 : decode cX12_readsStretch 1 = .ok (.iload_n 1, 1) := by decide +kernel
theorem dX12_readsStretch_2 : decode cX12_readsStretch 2 = .ok (.iconst 2, 1) := by decide +kernel
theorem dX12_readsStretch_3 : decode cX12_readsStretch 3 = .ok (.invokevirtual 100, 3) := by decide +kernel
theorem dX12_readsStretch_6 : decode cX12_readsStretch 6 = .ok (.ifCond .ne 5, 3) := by decide +kernel
theorem dX12_readsStretch_9 : decode cX12_readsStretch 9 = .ok (.iconst 0, 1) := by decide +kernel
theorem dX12_readsStretch_10 : decode cX12_readsStretch 10 = .ok (.ireturn, 1) := by decide +kernel
theorem dX12_readsStretch_11 : decode cX12_readsStretch 11 = .ok (.iconst 0, 1) := by decide +kernel
theorem dX12_readsStretch_12 : decode cX12_readsStretch 12 = .ok (.istore_n 2, 1) := by decide +kernel
theorem dX12_readsStretch_13 : decode cX12_readsStretch 13 = .ok (.iload_n 2, 1) := by decide +kernel
theorem dX12_readsStretch_14 : decode cX12_readsStretch 14 = .ok (.bipush 9, 2) := by decide +kernel
theorem dX12_readsStretch_16 : decode cX12_readsStretch 16 = .ok (.if_icmp .ge 46, 3) := by decide +kernel
theorem dX12_readsStretch_19 : decode cX12_readsStretch 19 = .ok (.aload_n 0, 1) := by decide +kernel
theorem dX12_readsStretch_20 : decode cX12_readsStretch 20 = .ok (.invokevirtual 92, 3) := by decide +kernel
theorem dX12_readsStretch_23 : decode cX12_readsStretch 23 = .ok (.invokestatic 104, 3) := by decide +kernel
theorem dX12_readsStretch_26 : decode cX12_readsStretch 26 = .ok (.ifCond .lt 36, 3) := by decide +kernel
theorem dX12_readsStretch_29 : decode cX12_readsStretch 29 = .ok (.aload_n 0, 1) := by decide +kernel
theorem dX12_readsStretch_30 : decode cX12_readsStretch 30 = .ok (.getfield 55, 3) := by decide +kernel
theorem dX12_readsStretch_33 : decode cX12_readsStretch 33 = .ok (.iload_n 1, 1) := by decide +kernel
theorem dX12_readsStretch_34 : decode cX12_readsStretch 34 = .ok (.iconst 3, 1) := by decide +kernel
theorem dX12_readsStretch_35 : decode cX12_readsStretch 35 = .ok (.iadd, 1) := by decide +kernel
theorem dX12_readsStretch_36 : decode cX12_readsStretch 36 = .ok (.iload_n 2, 1) := by decide +kernel
theorem dX12_readsStretch_37 : decode cX12_readsStretch 37 = .ok (.iadd, 1) := by decide +kernel
theorem dX12_readsStretch_38 : decode cX12_readsStretch 38 = .ok (.aload_n 0, 1) := by decide +kernel
theorem dX12_readsStretch_39 : decode cX12_readsStretch 39 = .ok (.invokevirtual 92, 3) := by decide +kernel
theorem dX12_readsStretch_42 : decode cX12_readsStretch 42 = .ok (.invokestatic 104, 3) := by decide +kernel
theorem dX12_readsStretch_45 : decode cX12_readsStretch 45 = .ok (.iastore, 1) := by decide +kernel
theorem dX12_readsStretch_46 : decode cX12_readsStretch 46 = .ok (.aload_n 0, 1) := by decide +kernel
theorem dX12_readsStretch_47 : decode cX12_readsStretch 47 = .ok (.dup, 1) := by decide +kernel
theorem dX12_readsStretch_48 : decode cX12_readsStretch 48 = .ok (.getfield 89, 3) := by decide +kernel
theorem dX12_readsStretch_51 : decode cX12_readsStretch 51 = .ok (.iconst 1, 1) := by decide +kernel
theorem dX12_readsStretch_52 : decode cX12_readsStretch 52 = .ok (.iadd, 1) := by decide +kernel
theorem dX12_readsStretch_53 : decode cX12_readsStretch 53 = .ok (.putfield 89, 3) := by decide +kernel
theorem dX12_readsStretch_56 : decode cX12_readsStretch 56 = .ok (.iinc 2 1, 3) := by decide +kernel
theorem dX12_readsStretch_59 : decode cX12_readsStretch 59 = .ok (.goto (-46), 3) := by decide +kernel
theorem dX12_readsStretch_62 : decode cX12_readsStretch 62 = .ok (.aload_n 0, 1) := by decide +kernel
theorem dX12_readsStretch_63 : decode cX12_readsStretch 63 = .ok (.getfield 55, 3) := by decide +kernel
theorem dX12_readsStretch_66 : decode cX12_readsStretch 66 = .ok (.iload_n 1, 1) := by decide +kernel
theorem dX12_readsStretch_67 : decode cX12_readsStretch 67 = .ok (.iconst 2, 1) := by decide +kernel
theorem dX12_readsStretch_68 : decode cX12_readsStretch 68 = .ok (.iadd, 1) := by decide +kernel
theorem dX12_readsStretch_69 : decode cX12_readsStretch 69 = .ok (.iload_n 2, 1) := by decide +kernel
theorem dX12_readsStretch_70 : decode cX12_readsStretch 70 = .ok (.iastore, 1) := by decide +kernel
theorem dX12_readsStretch_71 : decode cX12_readsStretch 71 = .ok (.iload_n 2, 1) := by decide +kernel
theorem dX12_readsStretch_72 : decode cX12_readsStretch 72 = .ok (.ifCond .le 7, 3) := by decide +kernel
theorem dX12_readsStretch_75 : decode cX12_readsStretch 75 = .ok (.iconst 1, 1) := by decide +kernel
theorem dX12_readsStretch_76 : decode cX12_readsStretch 76 = .ok (.goto 4, 3) := by decide +kernel
theorem dX12_readsStretch_79 : decode cX12_readsStretch 79 = .ok (.iconst 0, 1) := by decide +kernel
theorem dX12_readsStretch_80 : decode cX12_readsStretch 80 = .ok (.ireturn, 1) := by decide +kernel
theorem dX12_statement_0 : decode cX12_statement 0 = .ok (.aload_n 0, 1) := by decide +kernel
theorem dX12_statement_1 : decode cX12_statement 1 = .ok (.invokevirtual 92, 3) := by decide +kernel
theorem dX12_statement_4 : decode cX12_statement 4 = .ok (.istore_n 1, 1) := by decide +kernel
theorem dX12_statement_5 : decode cX12_statement 5 = .ok (.iload_n 1, 1) := by decide +kernel
theorem dX12_statement_6 : decode cX12_statement 6 = .ok (.bipush 99, 2) := by decide +kernel
theorem dX12_statement_8 : decode cX12_statement 8 = .ok (.if_icmp .eq 17, 3) := by decide +kernel
theorem dX12_statement_11 : decode cX12_statement 11 = .ok (.iload_n 1, 1) := by decide +kernel
theorem dX12_statement_12 : decode cX12_statement 12 = .ok (.bipush 114, 2) := by decide +kernel
theorem dX12_statement_14 : decode cX12_statement 14 = .ok (.if_icmp .eq 11, 3) := by decide +kernel
theorem dX12_statement_17 : decode cX12_statement 17 = .ok (.iload_n 1, 1) := by decide +kernel
theorem dX12_statement_18 : decode cX12_statement 18 = .ok (.bipush 116, 2) := by decide +kernel
theorem dX12_statement_20 : decode cX12_statement 20 = .ok (.if_icmp .eq 5, 3) := by decide +kernel
theorem dX12_statement_23 : decode cX12_statement 23 = .ok (.iconst 0, 1) := by decide +kernel
theorem dX12_statement_24 : decode cX12_statement 24 = .ok (.ireturn, 1) := by decide +kernel
theorem dX12_statement_25 : decode cX12_statement 25 = .ok (.aload_n 0, 1) := by decide +kernel
theorem dX12_statement_26 : decode cX12_statement 26 = .ok (.getfield 49, 3) := by decide +kernel
theorem dX12_statement_29 : decode cX12_statement 29 = .ok (.aload_n 0, 1) := by decide +kernel
theorem dX12_statement_30 : decode cX12_statement 30 = .ok (.getfield 107, 3) := by decide +kernel
theorem dX12_statement_33 : decode cX12_statement 33 = .ok (.iload_n 1, 1) := by decide +kernel
theorem dX12_statement_34 : decode cX12_statement 34 = .ok (.iastore, 1) := by decide +kernel
theorem dX12_statement_35 : decode cX12_statement 35 = .ok (.aload_n 0, 1) := by decide +kernel
theorem dX12_statement_36 : decode cX12_statement 36 = .ok (.getfield 52, 3) := by decide +kernel
theorem dX12_statement_39 : decode cX12_statement 39 = .ok (.aload_n 0, 1) := by decide +kernel
theorem dX12_statement_40 : decode cX12_statement 40 = .ok (.getfield 107, 3) := by decide +kernel
theorem dX12_statement_43 : decode cX12_statement 43 = .ok (.aload_n 0, 1) := by decide +kernel
theorem dX12_statement_44 : decode cX12_statement 44 = .ok (.getfield 89, 3) := by decide +kernel
theorem dX12_statement_47 : decode cX12_statement 47 = .ok (.iastore, 1) := by decide +kernel
theorem dX12_statement_48 : decode cX12_statement 48 = .ok (.aload_n 0, 1) := by decide +kernel
theorem dX12_statement_49 : decode cX12_statement 49 = .ok (.dup, 1) := by decide +kernel
theorem dX12_statement_50 : decode cX12_statement 50 = .ok (.getfield 89, 3) := by decide +kernel
theorem dX12_statement_53 : decode cX12_statement 53 = .ok (.iconst 1, 1) := by decide +kernel
theorem dX12_statement_54 : decode cX12_statement 54 = .ok (.iadd, 1) := by decide +kernel
theorem dX12_statement_55 : decode cX12_statement 55 = .ok (.putfield 89, 3) := by decide +kernel
theorem dX12_statement_58 : decode cX12_statement 58 = .ok (.bipush 16, 2) := by decide +kernel
theorem dX12_statement_60 : decode cX12_statement 60 = .ok (.aload_n 0, 1) := by decide +kernel
theorem dX12_statement_61 : decode cX12_statement 61 = .ok (.getfield 107, 3) := by decide +kernel
theorem dX12_statement_64 : decode cX12_statement 64 = .ok (.imul, 1) := by decide +kernel
theorem dX12_statement_65 : decode cX12_statement 65 = .ok (.istore_n 2, 1) := by decide +kernel
theorem dX12_statement_66 : decode cX12_statement 66 = .ok (.iload_n 1, 1) := by decide +kernel
theorem dX12_statement_67 : decode cX12_statement 67 = .ok (.bipush 99, 2) := by decide +kernel
theorem dX12_statement_69 : decode cX12_statement 69 = .ok (.if_icmp .ne 14, 3) := by decide +kernel
theorem dX12_statement_72 : decode cX12_statement 72 = .ok (.aload_n 0, 1) := by decide +kernel
theorem dX12_statement_73 : decode cX12_statement 73 = .ok (.iload_n 2, 1) := by decide +kernel
theorem dX12_statement_74 : decode cX12_statement 74 = .ok (.invokevirtual 110, 3) := by decide +kernel
theorem dX12_statement_77 : decode cX12_statement 77 = .ok (.ifCond .eq 35, 3) := by decide +kernel
theorem dX12_statement_80 : decode cX12_statement 80 = .ok (.goto 23, 3) := by decide +kernel
theorem dX12_statement_83 : decode cX12_statement 83 = .ok (.aload_n 0, 1) := by decide +kernel
theorem dX12_statement_84 : decode cX12_statement 84 = .ok (.iload_n 2, 1) := by decide +kernel
theorem dX12_statement_85 : decode cX12_statement 85 = .ok (.iload_n 1, 1) := by decide +kernel
theorem dX12_statement_86 : decode cX12_statement 86 = .ok (.bipush 114, 2) := by decide +kernel
theorem dX12_statement_88 : decode cX12_statement 88 = .ok (.if_icmp .ne 8, 3) := by decide +kernel
theorem dX12_statement_91 : decode cX12_statement 91 = .ok (.bipush 6, 2) := by decide +kernel
theorem dX12_statement_93 : decode cX12_statement 93 = .ok (.goto 4, 3) := by decide +kernel
theorem dX12_statement_96 : decode cX12_statement 96 = .ok (.iconst 1, 1) := by decide +kernel
theorem dX12_statement_97 : decode cX12_statement 97 = .ok (.invokevirtual 100, 3) := by decide +kernel
theorem dX12_statement_100 : decode cX12_statement 100 = .ok (.ifCond .eq 12, 3) := by decide +kernel
theorem dX12_statement_103 : decode cX12_statement 103 = .ok (.aload_n 0, 1) := by decide +kernel
theorem dX12_statement_104 : decode cX12_statement 104 = .ok (.invokevirtual 92, 3) := by decide +kernel
theorem dX12_statement_107 : decode cX12_statement 107 = .ok (.bipush 59, 2) := by decide +kernel
theorem dX12_statement_109 : decode cX12_statement 109 = .ok (.if_icmp .eq 5, 3) := by decide +kernel
theorem dX12_statement_112 : decode cX12_statement 112 = .ok (.iconst 0, 1) := by decide +kernel
theorem dX12_statement_113 : decode cX12_statement 113 = .ok (.ireturn, 1) := by decide +kernel
theorem dX12_statement_114 : decode cX12_statement 114 = .ok (.aload_n 0, 1) := by decide +kernel
theorem dX12_statement_115 : decode cX12_statement 115 = .ok (.dup, 1) := by decide +kernel
theorem dX12_statement_116 : decode cX12_statement 116 = .ok (.getfield 89, 3) := by decide +kernel
theorem dX12_statement_119 : decode cX12_statement 119 = .ok (.iconst 1, 1) := by decide +kernel
theorem dX12_statement_120 : decode cX12_statement 120 = .ok (.iadd, 1) := by decide +kernel
theorem dX12_statement_121 : decode cX12_statement 121 = .ok (.putfield 89, 3) := by decide +kernel
theorem dX12_statement_124 : decode cX12_statement 124 = .ok (.iconst 1, 1) := by decide +kernel
theorem dX12_statement_125 : decode cX12_statement 125 = .ok (.ireturn, 1) := by decide +kernel
theorem dX12_comesStretch_0 : decode cX12_comesStretch 0 = .ok (.aload_n 0, 1) := by decide +kernel
theorem dX12_comesStretch_1 : decode cX12_comesStretch 1 = .ok (.getfield 55, 3) := by decide +kernel
theorem dX12_comesStretch_4 : decode cX12_comesStretch 4 = .ok (.iload_n 1, 1) := by decide +kernel
theorem dX12_comesStretch_5 : decode cX12_comesStretch 5 = .ok (.iconst 2, 1) := by decide +kernel
theorem dX12_comesStretch_6 : decode cX12_comesStretch 6 = .ok (.iadd, 1) := by decide +kernel
theorem dX12_comesStretch_7 : decode cX12_comesStretch 7 = .ok (.iaload, 1) := by decide +kernel
theorem dX12_comesStretch_8 : decode cX12_comesStretch 8 = .ok (.istore_n 2, 1) := by decide +kernel
theorem dX12_comesStretch_9 : decode cX12_comesStretch 9 = .ok (.aload_n 0, 1) := by decide +kernel
theorem dX12_comesStretch_10 : decode cX12_comesStretch 10 = .ok (.getfield 55, 3) := by decide +kernel
theorem dX12_comesStretch_13 : decode cX12_comesStretch 13 = .ok (.iload_n 1, 1) := by decide +kernel
theorem dX12_comesStretch_14 : decode cX12_comesStretch 14 = .ok (.iaload, 1) := by decide +kernel
theorem dX12_comesStretch_15 : decode cX12_comesStretch 15 = .ok (.iconst 5, 1) := by decide +kernel
theorem dX12_comesStretch_16 : decode cX12_comesStretch 16 = .ok (.if_icmp .gt 23, 3) := by decide +kernel
theorem dX12_comesStretch_19 : decode cX12_comesStretch 19 = .ok (.aload_n 0, 1) := by decide +kernel
theorem dX12_comesStretch_20 : decode cX12_comesStretch 20 = .ok (.getfield 114, 3) := by decide +kernel
theorem dX12_comesStretch_23 : decode cX12_comesStretch 23 = .ok (.bipush 8, 2) := by decide +kernel
theorem dX12_comesStretch_25 : decode cX12_comesStretch 25 = .ok (.if_icmp .eq 14, 3) := by decide +kernel
theorem dX12_comesStretch_28 : decode cX12_comesStretch 28 = .ok (.aload_n 0, 1) := by decide +kernel
theorem dX12_comesStretch_29 : decode cX12_comesStretch 29 = .ok (.getfield 117, 3) := by decide +kernel
theorem dX12_comesStretch_32 : decode cX12_comesStretch 32 = .ok (.iload_n 2, 1) := by decide +kernel
theorem dX12_comesStretch_33 : decode cX12_comesStretch 33 = .ok (.iadd, 1) := by decide +kernel
theorem dX12_comesStretch_34 : decode cX12_comesStretch 34 = .ok (.bipush 48, 2) := by decide +kernel
theorem dX12_comesStretch_36 : decode cX12_comesStretch 36 = .ok (.if_icmp .le 5, 3) := by decide +kernel
theorem dX12_comesStretch_39 : decode cX12_comesStretch 39 = .ok (.iconst 0, 1) := by decide +kernel
theorem dX12_comesStretch_40 : decode cX12_comesStretch 40 = .ok (.ireturn, 1) := by decide +kernel
theorem dX12_comesStretch_41 : decode cX12_comesStretch 41 = .ok (.aload_n 0, 1) := by decide +kernel
theorem dX12_comesStretch_42 : decode cX12_comesStretch 42 = .ok (.getfield 13, 3) := by decide +kernel
theorem dX12_comesStretch_45 : decode cX12_comesStretch 45 = .ok (.aload_n 0, 1) := by decide +kernel
theorem dX12_comesStretch_46 : decode cX12_comesStretch 46 = .ok (.getfield 114, 3) := by decide +kernel
theorem dX12_comesStretch_49 : decode cX12_comesStretch 49 = .ok (.aload_n 0, 1) := by decide +kernel
theorem dX12_comesStretch_50 : decode cX12_comesStretch 50 = .ok (.getfield 55, 3) := by decide +kernel
theorem dX12_comesStretch_53 : decode cX12_comesStretch 53 = .ok (.iload_n 1, 1) := by decide +kernel
theorem dX12_comesStretch_54 : decode cX12_comesStretch 54 = .ok (.iaload, 1) := by decide +kernel
theorem dX12_comesStretch_55 : decode cX12_comesStretch 55 = .ok (.iastore, 1) := by decide +kernel
theorem dX12_comesStretch_56 : decode cX12_comesStretch 56 = .ok (.aload_n 0, 1) := by decide +kernel
theorem dX12_comesStretch_57 : decode cX12_comesStretch 57 = .ok (.getfield 16, 3) := by decide +kernel
theorem dX12_comesStretch_60 : decode cX12_comesStretch 60 = .ok (.aload_n 0, 1) := by decide +kernel
theorem dX12_comesStretch_61 : decode cX12_comesStretch 61 = .ok (.getfield 114, 3) := by decide +kernel
theorem dX12_comesStretch_64 : decode cX12_comesStretch 64 = .ok (.aload_n 0, 1) := by decide +kernel
theorem dX12_comesStretch_65 : decode cX12_comesStretch 65 = .ok (.getfield 55, 3) := by decide +kernel
theorem dX12_comesStretch_68 : decode cX12_comesStretch 68 = .ok (.iload_n 1, 1) := by decide +kernel
theorem dX12_comesStretch_69 : decode cX12_comesStretch 69 = .ok (.iconst 1, 1) := by decide +kernel
theorem dX12_comesStretch_70 : decode cX12_comesStretch 70 = .ok (.iadd, 1) := by decide +kernel
theorem dX12_comesStretch_71 : decode cX12_comesStretch 71 = .ok (.iaload, 1) := by decide +kernel
theorem dX12_comesStretch_72 : decode cX12_comesStretch 72 = .ok (.iastore, 1) := by decide +kernel
theorem dX12_comesStretch_73 : decode cX12_comesStretch 73 = .ok (.aload_n 0, 1) := by decide +kernel
theorem dX12_comesStretch_74 : decode cX12_comesStretch 74 = .ok (.getfield 19, 3) := by decide +kernel
theorem dX12_comesStretch_77 : decode cX12_comesStretch 77 = .ok (.aload_n 0, 1) := by decide +kernel
theorem dX12_comesStretch_78 : decode cX12_comesStretch 78 = .ok (.getfield 114, 3) := by decide +kernel
theorem dX12_comesStretch_81 : decode cX12_comesStretch 81 = .ok (.aload_n 0, 1) := by decide +kernel
theorem dX12_comesStretch_82 : decode cX12_comesStretch 82 = .ok (.getfield 117, 3) := by decide +kernel
theorem dX12_comesStretch_85 : decode cX12_comesStretch 85 = .ok (.iconst 1, 1) := by decide +kernel
theorem dX12_comesStretch_86 : decode cX12_comesStretch 86 = .ok (.iadd, 1) := by decide +kernel
theorem dX12_comesStretch_87 : decode cX12_comesStretch 87 = .ok (.iastore, 1) := by decide +kernel
theorem dX12_comesStretch_88 : decode cX12_comesStretch 88 = .ok (.aload_n 0, 1) := by decide +kernel
theorem dX12_comesStretch_89 : decode cX12_comesStretch 89 = .ok (.getfield 22, 3) := by decide +kernel
theorem dX12_comesStretch_92 : decode cX12_comesStretch 92 = .ok (.aload_n 0, 1) := by decide +kernel
theorem dX12_comesStretch_93 : decode cX12_comesStretch 93 = .ok (.getfield 114, 3) := by decide +kernel
theorem dX12_comesStretch_96 : decode cX12_comesStretch 96 = .ok (.iload_n 2, 1) := by decide +kernel
theorem dX12_comesStretch_97 : decode cX12_comesStretch 97 = .ok (.iastore, 1) := by decide +kernel
theorem dX12_comesStretch_98 : decode cX12_comesStretch 98 = .ok (.iconst 0, 1) := by decide +kernel
theorem dX12_comesStretch_99 : decode cX12_comesStretch 99 = .ok (.istore_n 3, 1) := by decide +kernel
theorem dX12_comesStretch_100 : decode cX12_comesStretch 100 = .ok (.iload_n 3, 1) := by decide +kernel
theorem dX12_comesStretch_101 : decode cX12_comesStretch 101 = .ok (.iload_n 2, 1) := by decide +kernel
theorem dX12_comesStretch_102 : decode cX12_comesStretch 102 = .ok (.if_icmp .ge 129, 3) := by decide +kernel
theorem dX12_comesStretch_105 : decode cX12_comesStretch 105 = .ok (.aload_n 0, 1) := by decide +kernel
theorem dX12_comesStretch_106 : decode cX12_comesStretch 106 = .ok (.getfield 55, 3) := by decide +kernel
theorem dX12_comesStretch_109 : decode cX12_comesStretch 109 = .ok (.iload_n 1, 1) := by decide +kernel
theorem dX12_comesStretch_110 : decode cX12_comesStretch 110 = .ok (.iconst 3, 1) := by decide +kernel
theorem dX12_comesStretch_111 : decode cX12_comesStretch 111 = .ok (.iadd, 1) := by decide +kernel
theorem dX12_comesStretch_112 : decode cX12_comesStretch 112 = .ok (.iload_n 3, 1) := by decide +kernel
theorem dX12_comesStretch_113 : decode cX12_comesStretch 113 = .ok (.iadd, 1) := by decide +kernel
theorem dX12_comesStretch_114 : decode cX12_comesStretch 114 = .ok (.iaload, 1) := by decide +kernel
theorem dX12_comesStretch_115 : decode cX12_comesStretch 115 = .ok (.istore 4, 2) := by decide +kernel
theorem dX12_comesStretch_117 : decode cX12_comesStretch 117 = .ok (.aload_n 0, 1) := by decide +kernel
theorem dX12_comesStretch_118 : decode cX12_comesStretch 118 = .ok (.getfield 25, 3) := by decide +kernel
theorem dX12_comesStretch_121 : decode cX12_comesStretch 121 = .ok (.aload_n 0, 1) := by decide +kernel
theorem dX12_comesStretch_122 : decode cX12_comesStretch 122 = .ok (.getfield 117, 3) := by decide +kernel
theorem dX12_comesStretch_125 : decode cX12_comesStretch 125 = .ok (.iconst 1, 1) := by decide +kernel
theorem dX12_comesStretch_126 : decode cX12_comesStretch 126 = .ok (.iadd, 1) := by decide +kernel
theorem dX12_comesStretch_127 : decode cX12_comesStretch 127 = .ok (.aload_n 0, 1) := by decide +kernel
theorem dX12_comesStretch_128 : decode cX12_comesStretch 128 = .ok (.getfield 25, 3) := by decide +kernel
theorem dX12_comesStretch_131 : decode cX12_comesStretch 131 = .ok (.aload_n 0, 1) := by decide +kernel
theorem dX12_comesStretch_132 : decode cX12_comesStretch 132 = .ok (.getfield 117, 3) := by decide +kernel
theorem dX12_comesStretch_135 : decode cX12_comesStretch 135 = .ok (.iaload, 1) := by decide +kernel
theorem dX12_comesStretch_136 : decode cX12_comesStretch 136 = .ok (.iload 4, 2) := by decide +kernel
theorem dX12_comesStretch_138 : decode cX12_comesStretch 138 = .ok (.iconst 1, 1) := by decide +kernel
theorem dX12_comesStretch_139 : decode cX12_comesStretch 139 = .ok (.if_icmp .ne 7, 3) := by decide +kernel
theorem dX12_comesStretch_142 : decode cX12_comesStretch 142 = .ok (.iconst 1, 1) := by decide +kernel
theorem dX12_comesStretch_143 : decode cX12_comesStretch 143 = .ok (.goto 14, 3) := by decide +kernel
theorem dX12_comesStretch_146 : decode cX12_comesStretch 146 = .ok (.iload 4, 2) := by decide +kernel
theorem dX12_comesStretch_148 : decode cX12_comesStretch 148 = .ok (.iconst 3, 1) := by decide +kernel
theorem dX12_comesStretch_149 : decode cX12_comesStretch 149 = .ok (.if_icmp .ne 7, 3) := by decide +kernel
theorem dX12_comesStretch_152 : decode cX12_comesStretch 152 = .ok (.iconst (-1), 1) := by decide +kernel
theorem dX12_comesStretch_153 : decode cX12_comesStretch 153 = .ok (.goto 4, 3) := by decide +kernel
theorem dX12_comesStretch_156 : decode cX12_comesStretch 156 = .ok (.iconst 0, 1) := by decide +kernel
theorem dX12_comesStretch_157 : decode cX12_comesStretch 157 = .ok (.iadd, 1) := by decide +kernel
theorem dX12_comesStretch_158 : decode cX12_comesStretch 158 = .ok (.iastore, 1) := by decide +kernel
theorem dX12_comesStretch_159 : decode cX12_comesStretch 159 = .ok (.aload_n 0, 1) := by decide +kernel
theorem dX12_comesStretch_160 : decode cX12_comesStretch 160 = .ok (.getfield 28, 3) := by decide +kernel
theorem dX12_comesStretch_163 : decode cX12_comesStretch 163 = .ok (.aload_n 0, 1) := by decide +kernel
theorem dX12_comesStretch_164 : decode cX12_comesStretch 164 = .ok (.getfield 117, 3) := by decide +kernel
theorem dX12_comesStretch_167 : decode cX12_comesStretch 167 = .ok (.iconst 1, 1) := by decide +kernel
theorem dX12_comesStretch_168 : decode cX12_comesStretch 168 = .ok (.iadd, 1) := by decide +kernel
theorem dX12_comesStretch_169 : decode cX12_comesStretch 169 = .ok (.aload_n 0, 1) := by decide +kernel
theorem dX12_comesStretch_170 : decode cX12_comesStretch 170 = .ok (.getfield 28, 3) := by decide +kernel
theorem dX12_comesStretch_173 : decode cX12_comesStretch 173 = .ok (.aload_n 0, 1) := by decide +kernel
theorem dX12_comesStretch_174 : decode cX12_comesStretch 174 = .ok (.getfield 117, 3) := by decide +kernel
theorem dX12_comesStretch_177 : decode cX12_comesStretch 177 = .ok (.iaload, 1) := by decide +kernel
theorem dX12_comesStretch_178 : decode cX12_comesStretch 178 = .ok (.iload 4, 2) := by decide +kernel
theorem dX12_comesStretch_180 : decode cX12_comesStretch 180 = .ok (.ifCond .ne 7, 3) := by decide +kernel
theorem dX12_comesStretch_183 : decode cX12_comesStretch 183 = .ok (.iconst 1, 1) := by decide +kernel
theorem dX12_comesStretch_184 : decode cX12_comesStretch 184 = .ok (.goto 14, 3) := by decide +kernel
theorem dX12_comesStretch_187 : decode cX12_comesStretch 187 = .ok (.iload 4, 2) := by decide +kernel
theorem dX12_comesStretch_189 : decode cX12_comesStretch 189 = .ok (.iconst 2, 1) := by decide +kernel
theorem dX12_comesStretch_190 : decode cX12_comesStretch 190 = .ok (.if_icmp .ne 7, 3) := by decide +kernel
theorem dX12_comesStretch_193 : decode cX12_comesStretch 193 = .ok (.iconst (-1), 1) := by decide +kernel
theorem dX12_comesStretch_194 : decode cX12_comesStretch 194 = .ok (.goto 4, 3) := by decide +kernel
theorem dX12_comesStretch_197 : decode cX12_comesStretch 197 = .ok (.iconst 0, 1) := by decide +kernel
theorem dX12_comesStretch_198 : decode cX12_comesStretch 198 = .ok (.iadd, 1) := by decide +kernel
theorem dX12_comesStretch_199 : decode cX12_comesStretch 199 = .ok (.iastore, 1) := by decide +kernel
theorem dX12_comesStretch_200 : decode cX12_comesStretch 200 = .ok (.aload_n 0, 1) := by decide +kernel
theorem dX12_comesStretch_201 : decode cX12_comesStretch 201 = .ok (.getfield 31, 3) := by decide +kernel
theorem dX12_comesStretch_204 : decode cX12_comesStretch 204 = .ok (.aload_n 0, 1) := by decide +kernel
theorem dX12_comesStretch_205 : decode cX12_comesStretch 205 = .ok (.getfield 117, 3) := by decide +kernel
theorem dX12_comesStretch_208 : decode cX12_comesStretch 208 = .ok (.iconst 1, 1) := by decide +kernel
theorem dX12_comesStretch_209 : decode cX12_comesStretch 209 = .ok (.iadd, 1) := by decide +kernel
theorem dX12_comesStretch_210 : decode cX12_comesStretch 210 = .ok (.aload_n 0, 1) := by decide +kernel
theorem dX12_comesStretch_211 : decode cX12_comesStretch 211 = .ok (.getfield 114, 3) := by decide +kernel
theorem dX12_comesStretch_214 : decode cX12_comesStretch 214 = .ok (.iastore, 1) := by decide +kernel
theorem dX12_comesStretch_215 : decode cX12_comesStretch 215 = .ok (.aload_n 0, 1) := by decide +kernel
theorem dX12_comesStretch_216 : decode cX12_comesStretch 216 = .ok (.dup, 1) := by decide +kernel
theorem dX12_comesStretch_217 : decode cX12_comesStretch 217 = .ok (.getfield 117, 3) := by decide +kernel
theorem dX12_comesStretch_220 : decode cX12_comesStretch 220 = .ok (.iconst 1, 1) := by decide +kernel
theorem dX12_comesStretch_221 : decode cX12_comesStretch 221 = .ok (.iadd, 1) := by decide +kernel
theorem dX12_comesStretch_222 : decode cX12_comesStretch 222 = .ok (.putfield 117, 3) := by decide +kernel
theorem dX12_comesStretch_225 : decode cX12_comesStretch 225 = .ok (.iinc 3 1, 3) := by decide +kernel
theorem dX12_comesStretch_228 : decode cX12_comesStretch 228 = .ok (.goto (-128), 3) := by decide +kernel
theorem dX12_comesStretch_231 : decode cX12_comesStretch 231 = .ok (.aload_n 0, 1) := by decide +kernel
theorem dX12_comesStretch_232 : decode cX12_comesStretch 232 = .ok (.dup, 1) := by decide +kernel
theorem dX12_comesStretch_233 : decode cX12_comesStretch 233 = .ok (.getfield 114, 3) := by decide +kernel
theorem dX12_comesStretch_236 : decode cX12_comesStretch 236 = .ok (.iconst 1, 1) := by decide +kernel
theorem dX12_comesStretch_237 : decode cX12_comesStretch 237 = .ok (.iadd, 1) := by decide +kernel
theorem dX12_comesStretch_238 : decode cX12_comesStretch 238 = .ok (.putfield 114, 3) := by decide +kernel
theorem dX12_comesStretch_241 : decode cX12_comesStretch 241 = .ok (.iconst 1, 1) := by decide +kernel
theorem dX12_comesStretch_242 : decode cX12_comesStretch 242 = .ok (.ireturn, 1) := by decide +kernel
theorem dX12_comesRock_0 : decode cX12_comesRock 0 = .ok (.aload_n 0, 1) := by decide +kernel
theorem dX12_comesRock_1 : decode cX12_comesRock 1 = .ok (.getfield 120, 3) := by decide +kernel
theorem dX12_comesRock_4 : decode cX12_comesRock 4 = .ok (.bipush 6, 2) := by decide +kernel
theorem dX12_comesRock_6 : decode cX12_comesRock 6 = .ok (.if_icmp .eq 22, 3) := by decide +kernel
theorem dX12_comesRock_9 : decode cX12_comesRock 9 = .ok (.aload_n 0, 1) := by decide +kernel
theorem dX12_comesRock_10 : decode cX12_comesRock 10 = .ok (.getfield 55, 3) := by decide +kernel
theorem dX12_comesRock_13 : decode cX12_comesRock 13 = .ok (.iload_n 1, 1) := by decide +kernel
theorem dX12_comesRock_14 : decode cX12_comesRock 14 = .ok (.iconst 4, 1) := by decide +kernel
theorem dX12_comesRock_15 : decode cX12_comesRock 15 = .ok (.iadd, 1) := by decide +kernel
theorem dX12_comesRock_16 : decode cX12_comesRock 16 = .ok (.iaload, 1) := by decide +kernel
theorem dX12_comesRock_17 : decode cX12_comesRock 17 = .ok (.aload_n 0, 1) := by decide +kernel
theorem dX12_comesRock_18 : decode cX12_comesRock 18 = .ok (.getfield 55, 3) := by decide +kernel
theorem dX12_comesRock_21 : decode cX12_comesRock 21 = .ok (.iload_n 1, 1) := by decide +kernel
theorem dX12_comesRock_22 : decode cX12_comesRock 22 = .ok (.iconst 5, 1) := by decide +kernel
theorem dX12_comesRock_23 : decode cX12_comesRock 23 = .ok (.iadd, 1) := by decide +kernel
theorem dX12_comesRock_24 : decode cX12_comesRock 24 = .ok (.iaload, 1) := by decide +kernel
theorem dX12_comesRock_25 : decode cX12_comesRock 25 = .ok (.if_icmp .le 5, 3) := by decide +kernel
theorem dX12_comesRock_28 : decode cX12_comesRock 28 = .ok (.iconst 0, 1) := by decide +kernel
theorem dX12_comesRock_29 : decode cX12_comesRock 29 = .ok (.ireturn, 1) := by decide +kernel
theorem dX12_comesRock_30 : decode cX12_comesRock 30 = .ok (.aload_n 0, 1) := by decide +kernel
theorem dX12_comesRock_31 : decode cX12_comesRock 31 = .ok (.getfield 34, 3) := by decide +kernel
theorem dX12_comesRock_34 : decode cX12_comesRock 34 = .ok (.aload_n 0, 1) := by decide +kernel
theorem dX12_comesRock_35 : decode cX12_comesRock 35 = .ok (.getfield 120, 3) := by decide +kernel
theorem dX12_comesRock_38 : decode cX12_comesRock 38 = .ok (.bipush 10, 2) := by decide +kernel
theorem dX12_comesRock_40 : decode cX12_comesRock 40 = .ok (.aload_n 0, 1) := by decide +kernel
theorem dX12_comesRock_41 : decode cX12_comesRock 41 = .ok (.getfield 55, 3) := by decide +kernel
theorem dX12_comesRock_44 : decode cX12_comesRock 44 = .ok (.iload_n 1, 1) := by decide +kernel
theorem dX12_comesRock_45 : decode cX12_comesRock 45 = .ok (.iaload, 1) := by decide +kernel
theorem dX12_comesRock_46 : decode cX12_comesRock 46 = .ok (.imul, 1) := by decide +kernel
theorem dX12_comesRock_47 : decode cX12_comesRock 47 = .ok (.aload_n 0, 1) := by decide +kernel
theorem dX12_comesRock_48 : decode cX12_comesRock 48 = .ok (.getfield 55, 3) := by decide +kernel
theorem dX12_comesRock_51 : decode cX12_comesRock 51 = .ok (.iload_n 1, 1) := by decide +kernel
theorem dX12_comesRock_52 : decode cX12_comesRock 52 = .ok (.iconst 1, 1) := by decide +kernel
theorem dX12_comesRock_53 : decode cX12_comesRock 53 = .ok (.iadd, 1) := by decide +kernel
theorem dX12_comesRock_54 : decode cX12_comesRock 54 = .ok (.iaload, 1) := by decide +kernel
theorem dX12_comesRock_55 : decode cX12_comesRock 55 = .ok (.iadd, 1) := by decide +kernel
theorem dX12_comesRock_56 : decode cX12_comesRock 56 = .ok (.iastore, 1) := by decide +kernel
theorem dX12_comesRock_57 : decode cX12_comesRock 57 = .ok (.aload_n 0, 1) := by decide +kernel
theorem dX12_comesRock_58 : decode cX12_comesRock 58 = .ok (.getfield 37, 3) := by decide +kernel
theorem dX12_comesRock_61 : decode cX12_comesRock 61 = .ok (.aload_n 0, 1) := by decide +kernel
theorem dX12_comesRock_62 : decode cX12_comesRock 62 = .ok (.getfield 120, 3) := by decide +kernel
theorem dX12_comesRock_65 : decode cX12_comesRock 65 = .ok (.bipush 10, 2) := by decide +kernel
theorem dX12_comesRock_67 : decode cX12_comesRock 67 = .ok (.aload_n 0, 1) := by decide +kernel
theorem dX12_comesRock_68 : decode cX12_comesRock 68 = .ok (.getfield 55, 3) := by decide +kernel
theorem dX12_comesRock_71 : decode cX12_comesRock 71 = .ok (.iload_n 1, 1) := by decide +kernel
theorem dX12_comesRock_72 : decode cX12_comesRock 72 = .ok (.iconst 2, 1) := by decide +kernel
theorem dX12_comesRock_73 : decode cX12_comesRock 73 = .ok (.iadd, 1) := by decide +kernel
theorem dX12_comesRock_74 : decode cX12_comesRock 74 = .ok (.iaload, 1) := by decide +kernel
theorem dX12_comesRock_75 : decode cX12_comesRock 75 = .ok (.imul, 1) := by decide +kernel
theorem dX12_comesRock_76 : decode cX12_comesRock 76 = .ok (.aload_n 0, 1) := by decide +kernel
theorem dX12_comesRock_77 : decode cX12_comesRock 77 = .ok (.getfield 55, 3) := by decide +kernel
theorem dX12_comesRock_80 : decode cX12_comesRock 80 = .ok (.iload_n 1, 1) := by decide +kernel
theorem dX12_comesRock_81 : decode cX12_comesRock 81 = .ok (.iconst 3, 1) := by decide +kernel
theorem dX12_comesRock_82 : decode cX12_comesRock 82 = .ok (.iadd, 1) := by decide +kernel
theorem dX12_comesRock_83 : decode cX12_comesRock 83 = .ok (.iaload, 1) := by decide +kernel
theorem dX12_comesRock_84 : decode cX12_comesRock 84 = .ok (.iadd, 1) := by decide +kernel
theorem dX12_comesRock_85 : decode cX12_comesRock 85 = .ok (.iastore, 1) := by decide +kernel
theorem dX12_comesRock_86 : decode cX12_comesRock 86 = .ok (.aload_n 0, 1) := by decide +kernel
theorem dX12_comesRock_87 : decode cX12_comesRock 87 = .ok (.getfield 40, 3) := by decide +kernel
theorem dX12_comesRock_90 : decode cX12_comesRock 90 = .ok (.aload_n 0, 1) := by decide +kernel
theorem dX12_comesRock_91 : decode cX12_comesRock 91 = .ok (.getfield 120, 3) := by decide +kernel
theorem dX12_comesRock_94 : decode cX12_comesRock 94 = .ok (.aload_n 0, 1) := by decide +kernel
theorem dX12_comesRock_95 : decode cX12_comesRock 95 = .ok (.getfield 55, 3) := by decide +kernel
theorem dX12_comesRock_98 : decode cX12_comesRock 98 = .ok (.iload_n 1, 1) := by decide +kernel
theorem dX12_comesRock_99 : decode cX12_comesRock 99 = .ok (.iconst 4, 1) := by decide +kernel
theorem dX12_comesRock_100 : decode cX12_comesRock 100 = .ok (.iadd, 1) := by decide +kernel
theorem dX12_comesRock_101 : decode cX12_comesRock 101 = .ok (.iaload, 1) := by decide +kernel
theorem dX12_comesRock_102 : decode cX12_comesRock 102 = .ok (.iastore, 1) := by decide +kernel
theorem dX12_comesRock_103 : decode cX12_comesRock 103 = .ok (.aload_n 0, 1) := by decide +kernel
theorem dX12_comesRock_104 : decode cX12_comesRock 104 = .ok (.getfield 43, 3) := by decide +kernel
theorem dX12_comesRock_107 : decode cX12_comesRock 107 = .ok (.aload_n 0, 1) := by decide +kernel
theorem dX12_comesRock_108 : decode cX12_comesRock 108 = .ok (.getfield 120, 3) := by decide +kernel
theorem dX12_comesRock_111 : decode cX12_comesRock 111 = .ok (.aload_n 0, 1) := by decide +kernel
theorem dX12_comesRock_112 : decode cX12_comesRock 112 = .ok (.getfield 55, 3) := by decide +kernel
theorem dX12_comesRock_115 : decode cX12_comesRock 115 = .ok (.iload_n 1, 1) := by decide +kernel
theorem dX12_comesRock_116 : decode cX12_comesRock 116 = .ok (.iconst 5, 1) := by decide +kernel
theorem dX12_comesRock_117 : decode cX12_comesRock 117 = .ok (.iadd, 1) := by decide +kernel
theorem dX12_comesRock_118 : decode cX12_comesRock 118 = .ok (.iaload, 1) := by decide +kernel
theorem dX12_comesRock_119 : decode cX12_comesRock 119 = .ok (.iastore, 1) := by decide +kernel
theorem dX12_comesRock_120 : decode cX12_comesRock 120 = .ok (.aload_n 0, 1) := by decide +kernel
theorem dX12_comesRock_121 : decode cX12_comesRock 121 = .ok (.dup, 1) := by decide +kernel
theorem dX12_comesRock_122 : decode cX12_comesRock 122 = .ok (.getfield 120, 3) := by decide +kernel
theorem dX12_comesRock_125 : decode cX12_comesRock 125 = .ok (.iconst 1, 1) := by decide +kernel
theorem dX12_comesRock_126 : decode cX12_comesRock 126 = .ok (.iadd, 1) := by decide +kernel
theorem dX12_comesRock_127 : decode cX12_comesRock 127 = .ok (.putfield 120, 3) := by decide +kernel
theorem dX12_comesRock_130 : decode cX12_comesRock 130 = .ok (.iconst 1, 1) := by decide +kernel
theorem dX12_comesRock_131 : decode cX12_comesRock 131 = .ok (.ireturn, 1) := by decide +kernel
theorem dX12_comes_0 : decode cX12_comes 0 = .ok (.bipush 16, 2) := by decide +kernel
theorem dX12_comes_2 : decode cX12_comes 2 = .ok (.iload_n 1, 1) := by decide +kernel
theorem dX12_comes_3 : decode cX12_comes 3 = .ok (.imul, 1) := by decide +kernel
theorem dX12_comes_4 : decode cX12_comes 4 = .ok (.istore_n 2, 1) := by decide +kernel
theorem dX12_comes_5 : decode cX12_comes 5 = .ok (.aload_n 0, 1) := by decide +kernel
theorem dX12_comes_6 : decode cX12_comes 6 = .ok (.getfield 49, 3) := by decide +kernel
theorem dX12_comes_9 : decode cX12_comes 9 = .ok (.iload_n 1, 1) := by decide +kernel
theorem dX12_comes_10 : decode cX12_comes 10 = .ok (.iaload, 1) := by decide +kernel
theorem dX12_comes_11 : decode cX12_comes 11 = .ok (.bipush 99, 2) := by decide +kernel
theorem dX12_comes_13 : decode cX12_comes 13 = .ok (.if_icmp .ne 9, 3) := by decide +kernel
theorem dX12_comes_16 : decode cX12_comes 16 = .ok (.aload_n 0, 1) := by decide +kernel
theorem dX12_comes_17 : decode cX12_comes 17 = .ok (.iload_n 2, 1) := by decide +kernel
theorem dX12_comes_18 : decode cX12_comes 18 = .ok (.invokevirtual 123, 3) := by decide +kernel
theorem dX12_comes_21 : decode cX12_comes 21 = .ok (.ireturn, 1) := by decide +kernel
theorem dX12_comes_22 : decode cX12_comes 22 = .ok (.aload_n 0, 1) := by decide +kernel
theorem dX12_comes_23 : decode cX12_comes 23 = .ok (.getfield 49, 3) := by decide +kernel
theorem dX12_comes_26 : decode cX12_comes 26 = .ok (.iload_n 1, 1) := by decide +kernel
theorem dX12_comes_27 : decode cX12_comes 27 = .ok (.iaload, 1) := by decide +kernel
theorem dX12_comes_28 : decode cX12_comes 28 = .ok (.bipush 114, 2) := by decide +kernel
theorem dX12_comes_30 : decode cX12_comes 30 = .ok (.if_icmp .ne 9, 3) := by decide +kernel
theorem dX12_comes_33 : decode cX12_comes 33 = .ok (.aload_n 0, 1) := by decide +kernel
theorem dX12_comes_34 : decode cX12_comes 34 = .ok (.iload_n 2, 1) := by decide +kernel
theorem dX12_comes_35 : decode cX12_comes 35 = .ok (.invokevirtual 126, 3) := by decide +kernel
theorem dX12_comes_38 : decode cX12_comes 38 = .ok (.ireturn, 1) := by decide +kernel
theorem dX12_comes_39 : decode cX12_comes 39 = .ok (.aload_n 0, 1) := by decide +kernel
theorem dX12_comes_40 : decode cX12_comes 40 = .ok (.aload_n 0, 1) := by decide +kernel
theorem dX12_comes_41 : decode cX12_comes 41 = .ok (.getfield 55, 3) := by decide +kernel
theorem dX12_comes_44 : decode cX12_comes 44 = .ok (.iload_n 2, 1) := by decide +kernel
theorem dX12_comes_45 : decode cX12_comes 45 = .ok (.iaload, 1) := by decide +kernel
theorem dX12_comes_46 : decode cX12_comes 46 = .ok (.putfield 129, 3) := by decide +kernel
theorem dX12_comes_49 : decode cX12_comes 49 = .ok (.iconst 1, 1) := by decide +kernel
theorem dX12_comes_50 : decode cX12_comes 50 = .ok (.ireturn, 1) := by decide +kernel
theorem dX12_coast_0 : decode cX12_coast 0 = .ok (.aload_n 0, 1) := by decide +kernel
theorem dX12_coast_1 : decode cX12_coast 1 = .ok (.iconst 0, 1) := by decide +kernel
theorem dX12_coast_2 : decode cX12_coast 2 = .ok (.putfield 89, 3) := by decide +kernel
theorem dX12_coast_5 : decode cX12_coast 5 = .ok (.aload_n 0, 1) := by decide +kernel
theorem dX12_coast_6 : decode cX12_coast 6 = .ok (.iconst 0, 1) := by decide +kernel
theorem dX12_coast_7 : decode cX12_coast 7 = .ok (.putfield 107, 3) := by decide +kernel
theorem dX12_coast_10 : decode cX12_coast 10 = .ok (.iconst 1, 1) := by decide +kernel
theorem dX12_coast_11 : decode cX12_coast 11 = .ok (.istore_n 1, 1) := by decide +kernel
theorem dX12_coast_12 : decode cX12_coast 12 = .ok (.iload_n 1, 1) := by decide +kernel
theorem dX12_coast_13 : decode cX12_coast 13 = .ok (.ifCond .eq 47, 3) := by decide +kernel
theorem dX12_coast_16 : decode cX12_coast 16 = .ok (.aload_n 0, 1) := by decide +kernel
theorem dX12_coast_17 : decode cX12_coast 17 = .ok (.getfield 89, 3) := by decide +kernel
theorem dX12_coast_20 : decode cX12_coast 20 = .ok (.aload_n 0, 1) := by decide +kernel
theorem dX12_coast_21 : decode cX12_coast 21 = .ok (.getfield 81, 3) := by decide +kernel
theorem dX12_coast_24 : decode cX12_coast 24 = .ok (.if_icmp .lt 10, 3) := by decide +kernel
theorem dX12_coast_27 : decode cX12_coast 27 = .ok (.aload_n 0, 1) := by decide +kernel
theorem dX12_coast_28 : decode cX12_coast 28 = .ok (.getfield 107, 3) := by decide +kernel
theorem dX12_coast_31 : decode cX12_coast 31 = .ok (.ifCond .ne 29, 3) := by decide +kernel
theorem dX12_coast_34 : decode cX12_coast 34 = .ok (.aload_n 0, 1) := by decide +kernel
theorem dX12_coast_35 : decode cX12_coast 35 = .ok (.invokevirtual 132, 3) := by decide +kernel
theorem dX12_coast_38 : decode cX12_coast 38 = .ok (.istore_n 1, 1) := by decide +kernel
theorem dX12_coast_39 : decode cX12_coast 39 = .ok (.aload_n 0, 1) := by decide +kernel
theorem dX12_coast_40 : decode cX12_coast 40 = .ok (.dup, 1) := by decide +kernel
theorem dX12_coast_41 : decode cX12_coast 41 = .ok (.getfield 107, 3) := by decide +kernel
theorem dX12_coast_44 : decode cX12_coast 44 = .ok (.iload_n 1, 1) := by decide +kernel
theorem dX12_coast_45 : decode cX12_coast 45 = .ok (.ifCond .eq 7, 3) := by decide +kernel
theorem dX12_coast_48 : decode cX12_coast 48 = .ok (.iconst 1, 1) := by decide +kernel
theorem dX12_coast_49 : decode cX12_coast 49 = .ok (.goto 4, 3) := by decide +kernel
theorem dX12_coast_52 : decode cX12_coast 52 = .ok (.iconst 0, 1) := by decide +kernel
theorem dX12_coast_53 : decode cX12_coast 53 = .ok (.iadd, 1) := by decide +kernel
theorem dX12_coast_54 : decode cX12_coast 54 = .ok (.putfield 107, 3) := by decide +kernel
theorem dX12_coast_57 : decode cX12_coast 57 = .ok (.goto (-45), 3) := by decide +kernel
theorem dX12_coast_60 : decode cX12_coast 60 = .ok (.aload_n 0, 1) := by decide +kernel
theorem dX12_coast_61 : decode cX12_coast 61 = .ok (.iconst 0, 1) := by decide +kernel
theorem dX12_coast_62 : decode cX12_coast 62 = .ok (.putfield 81, 3) := by decide +kernel
theorem dX12_coast_65 : decode cX12_coast 65 = .ok (.iload_n 1, 1) := by decide +kernel
theorem dX12_coast_66 : decode cX12_coast 66 = .ok (.ifCond .ne 12, 3) := by decide +kernel
theorem dX12_coast_69 : decode cX12_coast 69 = .ok (.sipush (-1000), 3) := by decide +kernel
theorem dX12_coast_72 : decode cX12_coast 72 = .ok (.aload_n 0, 1) := by decide +kernel
theorem dX12_coast_73 : decode cX12_coast 73 = .ok (.getfield 89, 3) := by decide +kernel
theorem dX12_coast_76 : decode cX12_coast 76 = .ok (.isub, 1) := by decide +kernel
theorem dX12_coast_77 : decode cX12_coast 77 = .ok (.ireturn, 1) := by decide +kernel
theorem dX12_coast_78 : decode cX12_coast 78 = .ok (.aload_n 0, 1) := by decide +kernel
theorem dX12_coast_79 : decode cX12_coast 79 = .ok (.iconst 1, 1) := by decide +kernel
theorem dX12_coast_80 : decode cX12_coast 80 = .ok (.iconst 1, 1) := by decide +kernel
theorem dX12_coast_81 : decode cX12_coast 81 = .ok (.invokevirtual 136, 3) := by decide +kernel
theorem dX12_coast_84 : decode cX12_coast 84 = .ok (.iconst 0, 1) := by decide +kernel
theorem dX12_coast_85 : decode cX12_coast 85 = .ok (.istore_n 2, 1) := by decide +kernel
theorem dX12_coast_86 : decode cX12_coast 86 = .ok (.iload_n 2, 1) := by decide +kernel
theorem dX12_coast_87 : decode cX12_coast 87 = .ok (.aload_n 0, 1) := by decide +kernel
theorem dX12_coast_88 : decode cX12_coast 88 = .ok (.getfield 107, 3) := by decide +kernel
theorem dX12_coast_91 : decode cX12_coast 91 = .ok (.if_icmp .ge 37, 3) := by decide +kernel
theorem dX12_coast_94 : decode cX12_coast 94 = .ok (.aload_n 0, 1) := by decide +kernel
theorem dX12_coast_95 : decode cX12_coast 95 = .ok (.iload_n 2, 1) := by decide +kernel
theorem dX12_coast_96 : decode cX12_coast 96 = .ok (.invokevirtual 140, 3) := by decide +kernel
theorem dX12_coast_99 : decode cX12_coast 99 = .ok (.ifCond .eq 6, 3) := by decide +kernel
theorem dX12_coast_102 : decode cX12_coast 102 = .ok (.goto 20, 3) := by decide +kernel
theorem dX12_coast_105 : decode cX12_coast 105 = .ok (.aload_n 0, 1) := by decide +kernel
theorem dX12_coast_106 : decode cX12_coast 106 = .ok (.iconst 1, 1) := by decide +kernel
theorem dX12_coast_107 : decode cX12_coast 107 = .ok (.iconst 0, 1) := by decide +kernel
theorem dX12_coast_108 : decode cX12_coast 108 = .ok (.invokevirtual 136, 3) := by decide +kernel
theorem dX12_coast_111 : decode cX12_coast 111 = .ok (.sipush (-2000), 3) := by decide +kernel
theorem dX12_coast_114 : decode cX12_coast 114 = .ok (.aload_n 0, 1) := by decide +kernel
theorem dX12_coast_115 : decode cX12_coast 115 = .ok (.getfield 52, 3) := by decide +kernel
theorem dX12_coast_118 : decode cX12_coast 118 = .ok (.iload_n 2, 1) := by decide +kernel
theorem dX12_coast_119 : decode cX12_coast 119 = .ok (.iaload, 1) := by decide +kernel
theorem dX12_coast_120 : decode cX12_coast 120 = .ok (.isub, 1) := by decide +kernel
theorem dX12_coast_121 : decode cX12_coast 121 = .ok (.ireturn, 1) := by decide +kernel
theorem dX12_coast_122 : decode cX12_coast 122 = .ok (.iinc 2 1, 3) := by decide +kernel
theorem dX12_coast_125 : decode cX12_coast 125 = .ok (.goto (-39), 3) := by decide +kernel
theorem dX12_coast_128 : decode cX12_coast 128 = .ok (.aload_n 0, 1) := by decide +kernel
theorem dX12_coast_129 : decode cX12_coast 129 = .ok (.getfield 107, 3) := by decide +kernel
theorem dX12_coast_132 : decode cX12_coast 132 = .ok (.ireturn, 1) := by decide +kernel
theorem dX12_passes_0 : decode cX12_passes 0 = .ok (.iconst 0, 1) := by decide +kernel
theorem dX12_passes_1 : decode cX12_passes 1 = .ok (.istore_n 2, 1) := by decide +kernel
theorem dX12_passes_2 : decode cX12_passes 2 = .ok (.iload_n 2, 1) := by decide +kernel
theorem dX12_passes_3 : decode cX12_passes 3 = .ok (.aload_n 1, 1) := by decide +kernel
theorem dX12_passes_4 : decode cX12_passes 4 = .ok (.arraylength, 1) := by decide +kernel
theorem dX12_passes_5 : decode cX12_passes 5 = .ok (.if_icmp .ge 53, 3) := by decide +kernel
theorem dX12_passes_8 : decode cX12_passes 8 = .ok (.aload_n 0, 1) := by decide +kernel
theorem dX12_passes_9 : decode cX12_passes 9 = .ok (.getfield 143, 3) := by decide +kernel
theorem dX12_passes_12 : decode cX12_passes 12 = .ok (.ifCond .eq 18, 3) := by decide +kernel
theorem dX12_passes_15 : decode cX12_passes 15 = .ok (.aload_n 0, 1) := by decide +kernel
theorem dX12_passes_16 : decode cX12_passes 16 = .ok (.getfield 58, 3) := by decide +kernel
theorem dX12_passes_19 : decode cX12_passes 19 = .ok (.aload_n 0, 1) := by decide +kernel
theorem dX12_passes_20 : decode cX12_passes 20 = .ok (.getfield 147, 3) := by decide +kernel
theorem dX12_passes_23 : decode cX12_passes 23 = .ok (.aload_n 1, 1) := by decide +kernel
theorem dX12_passes_24 : decode cX12_passes 24 = .ok (.iload_n 2, 1) := by decide +kernel
theorem dX12_passes_25 : decode cX12_passes 25 = .ok (.iaload, 1) := by decide +kernel
theorem dX12_passes_26 : decode cX12_passes 26 = .ok (.iastore, 1) := by decide +kernel
theorem dX12_passes_27 : decode cX12_passes 27 = .ok (.goto 15, 3) := by decide +kernel
theorem dX12_passes_30 : decode cX12_passes 30 = .ok (.aload_n 1, 1) := by decide +kernel
theorem dX12_passes_31 : decode cX12_passes 31 = .ok (.iload_n 2, 1) := by decide +kernel
theorem dX12_passes_32 : decode cX12_passes 32 = .ok (.aload_n 0, 1) := by decide +kernel
theorem dX12_passes_33 : decode cX12_passes 33 = .ok (.getfield 58, 3) := by decide +kernel
theorem dX12_passes_36 : decode cX12_passes 36 = .ok (.aload_n 0, 1) := by decide +kernel
theorem dX12_passes_37 : decode cX12_passes 37 = .ok (.getfield 147, 3) := by decide +kernel
theorem dX12_passes_40 : decode cX12_passes 40 = .ok (.iaload, 1) := by decide +kernel
theorem dX12_passes_41 : decode cX12_passes 41 = .ok (.iastore, 1) := by decide +kernel
theorem dX12_passes_42 : decode cX12_passes 42 = .ok (.aload_n 0, 1) := by decide +kernel
theorem dX12_passes_43 : decode cX12_passes 43 = .ok (.dup, 1) := by decide +kernel
theorem dX12_passes_44 : decode cX12_passes 44 = .ok (.getfield 147, 3) := by decide +kernel
theorem dX12_passes_47 : decode cX12_passes 47 = .ok (.iconst 1, 1) := by decide +kernel
theorem dX12_passes_48 : decode cX12_passes 48 = .ok (.iadd, 1) := by decide +kernel
theorem dX12_passes_49 : decode cX12_passes 49 = .ok (.putfield 147, 3) := by decide +kernel
theorem dX12_passes_52 : decode cX12_passes 52 = .ok (.iinc 2 1, 3) := by decide +kernel
theorem dX12_passes_55 : decode cX12_passes 55 = .ok (.goto (-53), 3) := by decide +kernel
theorem dX12_passes_58 : decode cX12_passes 58 = .ok (.return_, 1) := by decide +kernel
theorem dX12_passOne_0 : decode cX12_passOne 0 = .ok (.aload_n 0, 1) := by decide +kernel
theorem dX12_passOne_1 : decode cX12_passOne 1 = .ok (.getfield 143, 3) := by decide +kernel
theorem dX12_passOne_4 : decode cX12_passOne 4 = .ok (.ifCond .eq 7, 3) := by decide +kernel
theorem dX12_passOne_7 : decode cX12_passOne 7 = .ok (.iload_n 1, 1) := by decide +kernel
theorem dX12_passOne_8 : decode cX12_passOne 8 = .ok (.goto 12, 3) := by decide +kernel
theorem dX12_passOne_11 : decode cX12_passOne 11 = .ok (.aload_n 0, 1) := by decide +kernel
theorem dX12_passOne_12 : decode cX12_passOne 12 = .ok (.getfield 58, 3) := by decide +kernel
theorem dX12_passOne_15 : decode cX12_passOne 15 = .ok (.aload_n 0, 1) := by decide +kernel
theorem dX12_passOne_16 : decode cX12_passOne 16 = .ok (.getfield 147, 3) := by decide +kernel
theorem dX12_passOne_19 : decode cX12_passOne 19 = .ok (.iaload, 1) := by decide +kernel
theorem dX12_passOne_20 : decode cX12_passOne 20 = .ok (.istore_n 2, 1) := by decide +kernel
theorem dX12_passOne_21 : decode cX12_passOne 21 = .ok (.aload_n 0, 1) := by decide +kernel
theorem dX12_passOne_22 : decode cX12_passOne 22 = .ok (.getfield 143, 3) := by decide +kernel
theorem dX12_passOne_25 : decode cX12_passOne 25 = .ok (.ifCond .eq 13, 3) := by decide +kernel
theorem dX12_passOne_28 : decode cX12_passOne 28 = .ok (.aload_n 0, 1) := by decide +kernel
theorem dX12_passOne_29 : decode cX12_passOne 29 = .ok (.getfield 58, 3) := by decide +kernel
theorem dX12_passOne_32 : decode cX12_passOne 32 = .ok (.aload_n 0, 1) := by decide +kernel
theorem dX12_passOne_33 : decode cX12_passOne 33 = .ok (.getfield 147, 3) := by decide +kernel
theorem dX12_passOne_36 : decode cX12_passOne 36 = .ok (.iload_n 1, 1) := by decide +kernel
theorem dX12_passOne_37 : decode cX12_passOne 37 = .ok (.iastore, 1) := by decide +kernel
theorem dX12_passOne_38 : decode cX12_passOne 38 = .ok (.aload_n 0, 1) := by decide +kernel
theorem dX12_passOne_39 : decode cX12_passOne 39 = .ok (.dup, 1) := by decide +kernel
theorem dX12_passOne_40 : decode cX12_passOne 40 = .ok (.getfield 147, 3) := by decide +kernel
theorem dX12_passOne_43 : decode cX12_passOne 43 = .ok (.iconst 1, 1) := by decide +kernel
theorem dX12_passOne_44 : decode cX12_passOne 44 = .ok (.iadd, 1) := by decide +kernel
theorem dX12_passOne_45 : decode cX12_passOne 45 = .ok (.putfield 147, 3) := by decide +kernel
theorem dX12_passOne_48 : decode cX12_passOne 48 = .ok (.iload_n 2, 1) := by decide +kernel
theorem dX12_passOne_49 : decode cX12_passOne 49 = .ok (.ireturn, 1) := by decide +kernel
theorem dX12_passesAll_0 : decode cX12_passesAll 0 = .ok (.aload_n 0, 1) := by decide +kernel
theorem dX12_passesAll_1 : decode cX12_passesAll 1 = .ok (.sipush 220, 3) := by decide +kernel
theorem dX12_passesAll_4 : decode cX12_passesAll 4 = .ok (.iload_n 1, 1) := by decide +kernel
theorem dX12_passesAll_5 : decode cX12_passesAll 5 = .ok (.imul, 1) := by decide +kernel
theorem dX12_passesAll_6 : decode cX12_passesAll 6 = .ok (.putfield 147, 3) := by decide +kernel
theorem dX12_passesAll_9 : decode cX12_passesAll 9 = .ok (.aload_n 0, 1) := by decide +kernel
theorem dX12_passesAll_10 : decode cX12_passesAll 10 = .ok (.iload_n 2, 1) := by decide +kernel
theorem dX12_passesAll_11 : decode cX12_passesAll 11 = .ok (.putfield 143, 3) := by decide +kernel
theorem dX12_passesAll_14 : decode cX12_passesAll 14 = .ok (.aload_n 0, 1) := by decide +kernel
theorem dX12_passesAll_15 : decode cX12_passesAll 15 = .ok (.aload_n 0, 1) := by decide +kernel
theorem dX12_passesAll_16 : decode cX12_passesAll 16 = .ok (.getfield 13, 3) := by decide +kernel
theorem dX12_passesAll_19 : decode cX12_passesAll 19 = .ok (.invokevirtual 150, 3) := by decide +kernel
theorem dX12_passesAll_22 : decode cX12_passesAll 22 = .ok (.aload_n 0, 1) := by decide +kernel
theorem dX12_passesAll_23 : decode cX12_passesAll 23 = .ok (.aload_n 0, 1) := by decide +kernel
theorem dX12_passesAll_24 : decode cX12_passesAll 24 = .ok (.getfield 16, 3) := by decide +kernel
theorem dX12_passesAll_27 : decode cX12_passesAll 27 = .ok (.invokevirtual 150, 3) := by decide +kernel
theorem dX12_passesAll_30 : decode cX12_passesAll 30 = .ok (.aload_n 0, 1) := by decide +kernel
theorem dX12_passesAll_31 : decode cX12_passesAll 31 = .ok (.aload_n 0, 1) := by decide +kernel
theorem dX12_passesAll_32 : decode cX12_passesAll 32 = .ok (.getfield 19, 3) := by decide +kernel
theorem dX12_passesAll_35 : decode cX12_passesAll 35 = .ok (.invokevirtual 150, 3) := by decide +kernel
theorem dX12_passesAll_38 : decode cX12_passesAll 38 = .ok (.aload_n 0, 1) := by decide +kernel
theorem dX12_passesAll_39 : decode cX12_passesAll 39 = .ok (.aload_n 0, 1) := by decide +kernel
theorem dX12_passesAll_40 : decode cX12_passesAll 40 = .ok (.getfield 22, 3) := by decide +kernel
theorem dX12_passesAll_43 : decode cX12_passesAll 43 = .ok (.invokevirtual 150, 3) := by decide +kernel
theorem dX12_passesAll_46 : decode cX12_passesAll 46 = .ok (.aload_n 0, 1) := by decide +kernel
theorem dX12_passesAll_47 : decode cX12_passesAll 47 = .ok (.aload_n 0, 1) := by decide +kernel
theorem dX12_passesAll_48 : decode cX12_passesAll 48 = .ok (.getfield 25, 3) := by decide +kernel
theorem dX12_passesAll_51 : decode cX12_passesAll 51 = .ok (.invokevirtual 150, 3) := by decide +kernel
theorem dX12_passesAll_54 : decode cX12_passesAll 54 = .ok (.aload_n 0, 1) := by decide +kernel
theorem dX12_passesAll_55 : decode cX12_passesAll 55 = .ok (.aload_n 0, 1) := by decide +kernel
theorem dX12_passesAll_56 : decode cX12_passesAll 56 = .ok (.getfield 28, 3) := by decide +kernel
theorem dX12_passesAll_59 : decode cX12_passesAll 59 = .ok (.invokevirtual 150, 3) := by decide +kernel
theorem dX12_passesAll_62 : decode cX12_passesAll 62 = .ok (.aload_n 0, 1) := by decide +kernel
theorem dX12_passesAll_63 : decode cX12_passesAll 63 = .ok (.aload_n 0, 1) := by decide +kernel
theorem dX12_passesAll_64 : decode cX12_passesAll 64 = .ok (.getfield 31, 3) := by decide +kernel
theorem dX12_passesAll_67 : decode cX12_passesAll 67 = .ok (.invokevirtual 150, 3) := by decide +kernel
theorem dX12_passesAll_70 : decode cX12_passesAll 70 = .ok (.aload_n 0, 1) := by decide +kernel
theorem dX12_passesAll_71 : decode cX12_passesAll 71 = .ok (.aload_n 0, 1) := by decide +kernel
theorem dX12_passesAll_72 : decode cX12_passesAll 72 = .ok (.getfield 34, 3) := by decide +kernel
theorem dX12_passesAll_75 : decode cX12_passesAll 75 = .ok (.invokevirtual 150, 3) := by decide +kernel
theorem dX12_passesAll_78 : decode cX12_passesAll 78 = .ok (.aload_n 0, 1) := by decide +kernel
theorem dX12_passesAll_79 : decode cX12_passesAll 79 = .ok (.aload_n 0, 1) := by decide +kernel
theorem dX12_passesAll_80 : decode cX12_passesAll 80 = .ok (.getfield 37, 3) := by decide +kernel
theorem dX12_passesAll_83 : decode cX12_passesAll 83 = .ok (.invokevirtual 150, 3) := by decide +kernel
theorem dX12_passesAll_86 : decode cX12_passesAll 86 = .ok (.aload_n 0, 1) := by decide +kernel
theorem dX12_passesAll_87 : decode cX12_passesAll 87 = .ok (.aload_n 0, 1) := by decide +kernel
theorem dX12_passesAll_88 : decode cX12_passesAll 88 = .ok (.getfield 40, 3) := by decide +kernel
theorem dX12_passesAll_91 : decode cX12_passesAll 91 = .ok (.invokevirtual 150, 3) := by decide +kernel
theorem dX12_passesAll_94 : decode cX12_passesAll 94 = .ok (.aload_n 0, 1) := by decide +kernel
theorem dX12_passesAll_95 : decode cX12_passesAll 95 = .ok (.aload_n 0, 1) := by decide +kernel
theorem dX12_passesAll_96 : decode cX12_passesAll 96 = .ok (.getfield 43, 3) := by decide +kernel
theorem dX12_passesAll_99 : decode cX12_passesAll 99 = .ok (.invokevirtual 150, 3) := by decide +kernel
theorem dX12_passesAll_102 : decode cX12_passesAll 102 = .ok (.aload_n 0, 1) := by decide +kernel
theorem dX12_passesAll_103 : decode cX12_passesAll 103 = .ok (.aload_n 0, 1) := by decide +kernel
theorem dX12_passesAll_104 : decode cX12_passesAll 104 = .ok (.aload_n 0, 1) := by decide +kernel
theorem dX12_passesAll_105 : decode cX12_passesAll 105 = .ok (.getfield 114, 3) := by decide +kernel
theorem dX12_passesAll_108 : decode cX12_passesAll 108 = .ok (.invokevirtual 154, 3) := by decide +kernel
theorem dX12_passesAll_111 : decode cX12_passesAll 111 = .ok (.putfield 114, 3) := by decide +kernel
theorem dX12_passesAll_114 : decode cX12_passesAll 114 = .ok (.aload_n 0, 1) := by decide +kernel
theorem dX12_passesAll_115 : decode cX12_passesAll 115 = .ok (.aload_n 0, 1) := by decide +kernel
theorem dX12_passesAll_116 : decode cX12_passesAll 116 = .ok (.aload_n 0, 1) := by decide +kernel
theorem dX12_passesAll_117 : decode cX12_passesAll 117 = .ok (.getfield 117, 3) := by decide +kernel
theorem dX12_passesAll_120 : decode cX12_passesAll 120 = .ok (.invokevirtual 154, 3) := by decide +kernel
theorem dX12_passesAll_123 : decode cX12_passesAll 123 = .ok (.putfield 117, 3) := by decide +kernel
theorem dX12_passesAll_126 : decode cX12_passesAll 126 = .ok (.aload_n 0, 1) := by decide +kernel
theorem dX12_passesAll_127 : decode cX12_passesAll 127 = .ok (.aload_n 0, 1) := by decide +kernel
theorem dX12_passesAll_128 : decode cX12_passesAll 128 = .ok (.aload_n 0, 1) := by decide +kernel
theorem dX12_passesAll_129 : decode cX12_passesAll 129 = .ok (.getfield 120, 3) := by decide +kernel
theorem dX12_passesAll_132 : decode cX12_passesAll 132 = .ok (.invokevirtual 154, 3) := by decide +kernel
theorem dX12_passesAll_135 : decode cX12_passesAll 135 = .ok (.putfield 120, 3) := by decide +kernel
theorem dX12_passesAll_138 : decode cX12_passesAll 138 = .ok (.aload_n 0, 1) := by decide +kernel
theorem dX12_passesAll_139 : decode cX12_passesAll 139 = .ok (.aload_n 0, 1) := by decide +kernel
theorem dX12_passesAll_140 : decode cX12_passesAll 140 = .ok (.aload_n 0, 1) := by decide +kernel
theorem dX12_passesAll_141 : decode cX12_passesAll 141 = .ok (.getfield 129, 3) := by decide +kernel
theorem dX12_passesAll_144 : decode cX12_passesAll 144 = .ok (.invokevirtual 154, 3) := by decide +kernel
theorem dX12_passesAll_147 : decode cX12_passesAll 147 = .ok (.putfield 129, 3) := by decide +kernel
theorem dX12_passesAll_150 : decode cX12_passesAll 150 = .ok (.return_, 1) := by decide +kernel
theorem dX12_image_0 : decode cX12_image 0 = .ok (.aload_n 0, 1) := by decide +kernel
theorem dX12_image_1 : decode cX12_image 1 = .ok (.iconst 1, 1) := by decide +kernel
theorem dX12_image_2 : decode cX12_image 2 = .ok (.putfield 157, 3) := by decide +kernel
theorem dX12_image_5 : decode cX12_image 5 = .ok (.aload_n 0, 1) := by decide +kernel
theorem dX12_image_6 : decode cX12_image 6 = .ok (.iconst 0, 1) := by decide +kernel
theorem dX12_image_7 : decode cX12_image 7 = .ok (.iconst 1, 1) := by decide +kernel
theorem dX12_image_8 : decode cX12_image 8 = .ok (.invokevirtual 136, 3) := by decide +kernel
theorem dX12_image_11 : decode cX12_image 11 = .ok (.aload_n 0, 1) := by decide +kernel
theorem dX12_image_12 : decode cX12_image 12 = .ok (.getfield 117, 3) := by decide +kernel
theorem dX12_image_15 : decode cX12_image 15 = .ok (.ireturn, 1) := by decide +kernel
theorem dX12_restore_0 : decode cX12_restore 0 = .ok (.aload_n 0, 1) := by decide +kernel
theorem dX12_restore_1 : decode cX12_restore 1 = .ok (.getfield 157, 3) := by decide +kernel
theorem dX12_restore_4 : decode cX12_restore 4 = .ok (.ifCond .ne 10, 3) := by decide +kernel
theorem dX12_restore_7 : decode cX12_restore 7 = .ok (.aload_n 0, 1) := by decide +kernel
theorem dX12_restore_8 : decode cX12_restore 8 = .ok (.bipush (-3), 2) := by decide +kernel
theorem dX12_restore_10 : decode cX12_restore 10 = .ok (.invokevirtual 85, 3) := by decide +kernel
theorem dX12_restore_13 : decode cX12_restore 13 = .ok (.ireturn, 1) := by decide +kernel
theorem dX12_restore_14 : decode cX12_restore 14 = .ok (.aload_n 0, 1) := by decide +kernel
theorem dX12_restore_15 : decode cX12_restore 15 = .ok (.iconst 0, 1) := by decide +kernel
theorem dX12_restore_16 : decode cX12_restore 16 = .ok (.iconst 0, 1) := by decide +kernel
theorem dX12_restore_17 : decode cX12_restore 17 = .ok (.invokevirtual 136, 3) := by decide +kernel
theorem dX12_restore_20 : decode cX12_restore 20 = .ok (.aload_n 0, 1) := by decide +kernel
theorem dX12_restore_21 : decode cX12_restore 21 = .ok (.getfield 117, 3) := by decide +kernel
theorem dX12_restore_24 : decode cX12_restore 24 = .ok (.ireturn, 1) := by decide +kernel
theorem dX12_isDry_0 : decode cX12_isDry 0 = .ok (.aload_n 0, 1) := by decide +kernel
theorem dX12_isDry_1 : decode cX12_isDry 1 = .ok (.getfield 129, 3) := by decide +kernel
theorem dX12_isDry_4 : decode cX12_isDry 4 = .ok (.aload_n 0, 1) := by decide +kernel
theorem dX12_isDry_5 : decode cX12_isDry 5 = .ok (.getfield 16, 3) := by decide +kernel
theorem dX12_isDry_8 : decode cX12_isDry 8 = .ok (.iload_n 1, 1) := by decide +kernel
theorem dX12_isDry_9 : decode cX12_isDry 9 = .ok (.iaload, 1) := by decide +kernel
theorem dX12_isDry_10 : decode cX12_isDry 10 = .ok (.if_icmp .gt 7, 3) := by decide +kernel
theorem dX12_isDry_13 : decode cX12_isDry 13 = .ok (.iconst 1, 1) := by decide +kernel
theorem dX12_isDry_14 : decode cX12_isDry 14 = .ok (.goto 4, 3) := by decide +kernel
theorem dX12_isDry_17 : decode cX12_isDry 17 = .ok (.iconst 0, 1) := by decide +kernel
theorem dX12_isDry_18 : decode cX12_isDry 18 = .ok (.istore_n 2, 1) := by decide +kernel
theorem dX12_isDry_19 : decode cX12_isDry 19 = .ok (.aload_n 0, 1) := by decide +kernel
theorem dX12_isDry_20 : decode cX12_isDry 20 = .ok (.getfield 13, 3) := by decide +kernel
theorem dX12_isDry_23 : decode cX12_isDry 23 = .ok (.iload_n 1, 1) := by decide +kernel
theorem dX12_isDry_24 : decode cX12_isDry 24 = .ok (.iaload, 1) := by decide +kernel
theorem dX12_isDry_25 : decode cX12_isDry 25 = .ok (.tableswitch 77 1 5 #[35, 37, 77, 39, 58], 35) := by decide +kernel
theorem dX12_isDry_60 : decode cX12_isDry 60 = .ok (.iload_n 2, 1) := by decide +kernel
theorem dX12_isDry_61 : decode cX12_isDry 61 = .ok (.ireturn, 1) := by decide +kernel
theorem dX12_isDry_62 : decode cX12_isDry 62 = .ok (.iconst 0, 1) := by decide +kernel
theorem dX12_isDry_63 : decode cX12_isDry 63 = .ok (.ireturn, 1) := by decide +kernel
theorem dX12_isDry_64 : decode cX12_isDry 64 = .ok (.iload_n 2, 1) := by decide +kernel
theorem dX12_isDry_65 : decode cX12_isDry 65 = .ok (.ifCond .eq 16, 3) := by decide +kernel
theorem dX12_isDry_68 : decode cX12_isDry 68 = .ok (.aload_n 0, 1) := by decide +kernel
theorem dX12_isDry_69 : decode cX12_isDry 69 = .ok (.getfield 129, 3) := by decide +kernel
theorem dX12_isDry_72 : decode cX12_isDry 72 = .ok (.iconst 2, 1) := by decide +kernel
theorem dX12_isDry_73 : decode cX12_isDry 73 = .ok (.irem, 1) := by decide +kernel
theorem dX12_isDry_74 : decode cX12_isDry 74 = .ok (.ifCond .ne 7, 3) := by decide +kernel
theorem dX12_isDry_77 : decode cX12_isDry 77 = .ok (.iconst 1, 1) := by decide +kernel
theorem dX12_isDry_78 : decode cX12_isDry 78 = .ok (.goto 4, 3) := by decide +kernel
theorem dX12_isDry_81 : decode cX12_isDry 81 = .ok (.iconst 0, 1) := by decide +kernel
theorem dX12_isDry_82 : decode cX12_isDry 82 = .ok (.ireturn, 1) := by decide +kernel
theorem dX12_isDry_83 : decode cX12_isDry 83 = .ok (.aload_n 0, 1) := by decide +kernel
theorem dX12_isDry_84 : decode cX12_isDry 84 = .ok (.getfield 129, 3) := by decide +kernel
theorem dX12_isDry_87 : decode cX12_isDry 87 = .ok (.aload_n 0, 1) := by decide +kernel
theorem dX12_isDry_88 : decode cX12_isDry 88 = .ok (.getfield 16, 3) := by decide +kernel
theorem dX12_isDry_91 : decode cX12_isDry 91 = .ok (.iload_n 1, 1) := by decide +kernel
theorem dX12_isDry_92 : decode cX12_isDry 92 = .ok (.iaload, 1) := by decide +kernel
theorem dX12_isDry_93 : decode cX12_isDry 93 = .ok (.if_icmp .eq 7, 3) := by decide +kernel
theorem dX12_isDry_96 : decode cX12_isDry 96 = .ok (.iconst 1, 1) := by decide +kernel
theorem dX12_isDry_97 : decode cX12_isDry 97 = .ok (.goto 4, 3) := by decide +kernel
theorem dX12_isDry_100 : decode cX12_isDry 100 = .ok (.iconst 0, 1) := by decide +kernel
theorem dX12_isDry_101 : decode cX12_isDry 101 = .ok (.ireturn, 1) := by decide +kernel
theorem dX12_isDry_102 : decode cX12_isDry 102 = .ok (.iconst 1, 1) := by decide +kernel
theorem dX12_isDry_103 : decode cX12_isDry 103 = .ok (.ireturn, 1) := by decide +kernel
theorem dX12_feeOf_0 : decode cX12_feeOf 0 = .ok (.aload_n 0, 1) := by decide +kernel
theorem dX12_feeOf_1 : decode cX12_feeOf 1 = .ok (.getfield 13, 3) := by decide +kernel
theorem dX12_feeOf_4 : decode cX12_feeOf 4 = .ok (.iload_n 1, 1) := by decide +kernel
theorem dX12_feeOf_5 : decode cX12_feeOf 5 = .ok (.iaload, 1) := by decide +kernel
theorem dX12_feeOf_6 : decode cX12_feeOf 6 = .ok (.tableswitch 56 1 5 #[34, 36, 38, 47, 49], 34) := by decide +kernel
theorem dX12_feeOf_40 : decode cX12_feeOf 40 = .ok (.iconst 2, 1) := by decide +kernel
theorem dX12_feeOf_41 : decode cX12_feeOf 41 = .ok (.ireturn, 1) := by decide +kernel
theorem dX12_feeOf_42 : decode cX12_feeOf 42 = .ok (.iconst 0, 1) := by decide +kernel
theorem dX12_feeOf_43 : decode cX12_feeOf 43 = .ok (.ireturn, 1) := by decide +kernel
theorem dX12_feeOf_44 : decode cX12_feeOf 44 = .ok (.iconst 1, 1) := by decide +kernel
theorem dX12_feeOf_45 : decode cX12_feeOf 45 = .ok (.aload_n 0, 1) := by decide +kernel
theorem dX12_feeOf_46 : decode cX12_feeOf 46 = .ok (.getfield 16, 3) := by decide +kernel
theorem dX12_feeOf_49 : decode cX12_feeOf 49 = .ok (.iload_n 1, 1) := by decide +kernel
theorem dX12_feeOf_50 : decode cX12_feeOf 50 = .ok (.iaload, 1) := by decide +kernel
theorem dX12_feeOf_51 : decode cX12_feeOf 51 = .ok (.iadd, 1) := by decide +kernel
theorem dX12_feeOf_52 : decode cX12_feeOf 52 = .ok (.ireturn, 1) := by decide +kernel
theorem dX12_feeOf_53 : decode cX12_feeOf 53 = .ok (.iconst 4, 1) := by decide +kernel
theorem dX12_feeOf_54 : decode cX12_feeOf 54 = .ok (.ireturn, 1) := by decide +kernel
theorem dX12_feeOf_55 : decode cX12_feeOf 55 = .ok (.aload_n 0, 1) := by decide +kernel
theorem dX12_feeOf_56 : decode cX12_feeOf 56 = .ok (.getfield 16, 3) := by decide +kernel
theorem dX12_feeOf_59 : decode cX12_feeOf 59 = .ok (.iload_n 1, 1) := by decide +kernel
theorem dX12_feeOf_60 : decode cX12_feeOf 60 = .ok (.iaload, 1) := by decide +kernel
theorem dX12_feeOf_61 : decode cX12_feeOf 61 = .ok (.ireturn, 1) := by decide +kernel
theorem dX12_feeOf_62 : decode cX12_feeOf 62 = .ok (.iconst 1, 1) := by decide +kernel
theorem dX12_feeOf_63 : decode cX12_feeOf 63 = .ok (.ireturn, 1) := by decide +kernel
theorem dX12_isStretch_0 : decode cX12_isStretch 0 = .ok (.iload_n 1, 1) := by decide +kernel
theorem dX12_isStretch_1 : decode cX12_isStretch 1 = .ok (.ifCond .lt 15, 3) := by decide +kernel
theorem dX12_isStretch_4 : decode cX12_isStretch 4 = .ok (.iload_n 1, 1) := by decide +kernel
theorem dX12_isStretch_5 : decode cX12_isStretch 5 = .ok (.aload_n 0, 1) := by decide +kernel
theorem dX12_isStretch_6 : decode cX12_isStretch 6 = .ok (.getfield 114, 3) := by decide +kernel
theorem dX12_isStretch_9 : decode cX12_isStretch 9 = .ok (.if_icmp .ge 7, 3) := by decide +kernel
theorem dX12_isStretch_12 : decode cX12_isStretch 12 = .ok (.iconst 1, 1) := by decide +kernel
theorem dX12_isStretch_13 : decode cX12_isStretch 13 = .ok (.goto 4, 3) := by decide +kernel
theorem dX12_isStretch_16 : decode cX12_isStretch 16 = .ok (.iconst 0, 1) := by decide +kernel
theorem dX12_isStretch_17 : decode cX12_isStretch 17 = .ok (.ireturn, 1) := by decide +kernel
theorem dX12_isPlace_0 : decode cX12_isPlace 0 = .ok (.iload_n 1, 1) := by decide +kernel
theorem dX12_isPlace_1 : decode cX12_isPlace 1 = .ok (.ifCond .lt 15, 3) := by decide +kernel
theorem dX12_isPlace_4 : decode cX12_isPlace 4 = .ok (.iload_n 1, 1) := by decide +kernel
theorem dX12_isPlace_5 : decode cX12_isPlace 5 = .ok (.aload_n 0, 1) := by decide +kernel
theorem dX12_isPlace_6 : decode cX12_isPlace 6 = .ok (.getfield 117, 3) := by decide +kernel
theorem dX12_isPlace_9 : decode cX12_isPlace 9 = .ok (.if_icmp .gt 7, 3) := by decide +kernel
theorem dX12_isPlace_12 : decode cX12_isPlace 12 = .ok (.iconst 1, 1) := by decide +kernel
theorem dX12_isPlace_13 : decode cX12_isPlace 13 = .ok (.goto 4, 3) := by decide +kernel
theorem dX12_isPlace_16 : decode cX12_isPlace 16 = .ok (.iconst 0, 1) := by decide +kernel
theorem dX12_isPlace_17 : decode cX12_isPlace 17 = .ok (.ireturn, 1) := by decide +kernel
theorem dX12_stretch_0 : decode cX12_stretch 0 = .ok (.aload_n 0, 1) := by decide +kernel
theorem dX12_stretch_1 : decode cX12_stretch 1 = .ok (.iload_n 1, 1) := by decide +kernel
theorem dX12_stretch_2 : decode cX12_stretch 2 = .ok (.invokevirtual 160, 3) := by decide +kernel
theorem dX12_stretch_5 : decode cX12_stretch 5 = .ok (.ifCond .ne 9, 3) := by decide +kernel
theorem dX12_stretch_8 : decode cX12_stretch 8 = .ok (.aload_n 0, 1) := by decide +kernel
theorem dX12_stretch_9 : decode cX12_stretch 9 = .ok (.iconst (-1), 1) := by decide +kernel
theorem dX12_stretch_10 : decode cX12_stretch 10 = .ok (.invokevirtual 85, 3) := by decide +kernel
theorem dX12_stretch_13 : decode cX12_stretch 13 = .ok (.ireturn, 1) := by decide +kernel
theorem dX12_stretch_14 : decode cX12_stretch 14 = .ok (.iload_n 2, 1) := by decide +kernel
theorem dX12_stretch_15 : decode cX12_stretch 15 = .ok (.tableswitch 85 0 5 #[37, 44, 51, 58, 65, 79], 37) := by decide +kernel
theorem dX12_stretch_52 : decode cX12_stretch 52 = .ok (.aload_n 0, 1) := by decide +kernel
theorem dX12_stretch_53 : decode cX12_stretch 53 = .ok (.getfield 13, 3) := by decide +kernel
theorem dX12_stretch_56 : decode cX12_stretch 56 = .ok (.iload_n 1, 1) := by decide +kernel
theorem dX12_stretch_57 : decode cX12_stretch 57 = .ok (.iaload, 1) := by decide +kernel
theorem dX12_stretch_58 : decode cX12_stretch 58 = .ok (.ireturn, 1) := by decide +kernel
theorem dX12_stretch_59 : decode cX12_stretch 59 = .ok (.aload_n 0, 1) := by decide +kernel
theorem dX12_stretch_60 : decode cX12_stretch 60 = .ok (.getfield 16, 3) := by decide +kernel
theorem dX12_stretch_63 : decode cX12_stretch 63 = .ok (.iload_n 1, 1) := by decide +kernel
theorem dX12_stretch_64 : decode cX12_stretch 64 = .ok (.iaload, 1) := by decide +kernel
theorem dX12_stretch_65 : decode cX12_stretch 65 = .ok (.ireturn, 1) := by decide +kernel
theorem dX12_stretch_66 : decode cX12_stretch 66 = .ok (.aload_n 0, 1) := by decide +kernel
theorem dX12_stretch_67 : decode cX12_stretch 67 = .ok (.getfield 22, 3) := by decide +kernel
theorem dX12_stretch_70 : decode cX12_stretch 70 = .ok (.iload_n 1, 1) := by decide +kernel
theorem dX12_stretch_71 : decode cX12_stretch 71 = .ok (.iaload, 1) := by decide +kernel
theorem dX12_stretch_72 : decode cX12_stretch 72 = .ok (.ireturn, 1) := by decide +kernel
theorem dX12_stretch_73 : decode cX12_stretch 73 = .ok (.aload_n 0, 1) := by decide +kernel
theorem dX12_stretch_74 : decode cX12_stretch 74 = .ok (.getfield 19, 3) := by decide +kernel
theorem dX12_stretch_77 : decode cX12_stretch 77 = .ok (.iload_n 1, 1) := by decide +kernel
theorem dX12_stretch_78 : decode cX12_stretch 78 = .ok (.iaload, 1) := by decide +kernel
theorem dX12_stretch_79 : decode cX12_stretch 79 = .ok (.ireturn, 1) := by decide +kernel
theorem dX12_stretch_80 : decode cX12_stretch 80 = .ok (.aload_n 0, 1) := by decide +kernel
theorem dX12_stretch_81 : decode cX12_stretch 81 = .ok (.iload_n 1, 1) := by decide +kernel
theorem dX12_stretch_82 : decode cX12_stretch 82 = .ok (.invokevirtual 163, 3) := by decide +kernel
theorem dX12_stretch_85 : decode cX12_stretch 85 = .ok (.ifCond .eq 7, 3) := by decide +kernel
theorem dX12_stretch_88 : decode cX12_stretch 88 = .ok (.iconst 1, 1) := by decide +kernel
theorem dX12_stretch_89 : decode cX12_stretch 89 = .ok (.goto 4, 3) := by decide +kernel
theorem dX12_stretch_92 : decode cX12_stretch 92 = .ok (.iconst 0, 1) := by decide +kernel
theorem dX12_stretch_93 : decode cX12_stretch 93 = .ok (.ireturn, 1) := by decide +kernel
theorem dX12_stretch_94 : decode cX12_stretch 94 = .ok (.aload_n 0, 1) := by decide +kernel
theorem dX12_stretch_95 : decode cX12_stretch 95 = .ok (.iload_n 1, 1) := by decide +kernel
theorem dX12_stretch_96 : decode cX12_stretch 96 = .ok (.invokevirtual 166, 3) := by decide +kernel
theorem dX12_stretch_99 : decode cX12_stretch 99 = .ok (.ireturn, 1) := by decide +kernel
theorem dX12_stretch_100 : decode cX12_stretch 100 = .ok (.aload_n 0, 1) := by decide +kernel
theorem dX12_stretch_101 : decode cX12_stretch 101 = .ok (.bipush (-2), 2) := by decide +kernel
theorem dX12_stretch_103 : decode cX12_stretch 103 = .ok (.invokevirtual 85, 3) := by decide +kernel
theorem dX12_stretch_106 : decode cX12_stretch 106 = .ok (.ireturn, 1) := by decide +kernel
theorem dX12_point_0 : decode cX12_point 0 = .ok (.aload_n 0, 1) := by decide +kernel
theorem dX12_point_1 : decode cX12_point 1 = .ok (.iload_n 1, 1) := by decide +kernel
theorem dX12_point_2 : decode cX12_point 2 = .ok (.invokevirtual 169, 3) := by decide +kernel
theorem dX12_point_5 : decode cX12_point 5 = .ok (.ifCond .ne 9, 3) := by decide +kernel
theorem dX12_point_8 : decode cX12_point 8 = .ok (.aload_n 0, 1) := by decide +kernel
theorem dX12_point_9 : decode cX12_point 9 = .ok (.iconst (-1), 1) := by decide +kernel
theorem dX12_point_10 : decode cX12_point 10 = .ok (.invokevirtual 172, 3) := by decide +kernel
theorem dX12_point_13 : decode cX12_point 13 = .ok (.ireturn, 1) := by decide +kernel
theorem dX12_point_14 : decode cX12_point 14 = .ok (.iload_n 2, 1) := by decide +kernel
theorem dX12_point_15 : decode cX12_point 15 = .ok (.iconst 0, 1) := by decide +kernel
theorem dX12_point_16 : decode cX12_point 16 = .ok (.iconst 1, 1) := by decide +kernel
theorem dX12_point_17 : decode cX12_point 17 = .ok (.invokestatic 96, 3) := by decide +kernel
theorem dX12_point_20 : decode cX12_point 20 = .ok (.ifCond .ne 10, 3) := by decide +kernel
theorem dX12_point_23 : decode cX12_point 23 = .ok (.aload_n 0, 1) := by decide +kernel
theorem dX12_point_24 : decode cX12_point 24 = .ok (.bipush (-2), 2) := by decide +kernel
theorem dX12_point_26 : decode cX12_point 26 = .ok (.invokevirtual 172, 3) := by decide +kernel
theorem dX12_point_29 : decode cX12_point 29 = .ok (.ireturn, 1) := by decide +kernel
theorem dX12_point_30 : decode cX12_point 30 = .ok (.iload_n 2, 1) := by decide +kernel
theorem dX12_point_31 : decode cX12_point 31 = .ok (.ifCond .ne 12, 3) := by decide +kernel
theorem dX12_point_34 : decode cX12_point 34 = .ok (.aload_n 0, 1) := by decide +kernel
theorem dX12_point_35 : decode cX12_point 35 = .ok (.getfield 25, 3) := by decide +kernel
theorem dX12_point_38 : decode cX12_point 38 = .ok (.iload_n 1, 1) := by decide +kernel
theorem dX12_point_39 : decode cX12_point 39 = .ok (.iaload, 1) := by decide +kernel
theorem dX12_point_40 : decode cX12_point 40 = .ok (.goto 9, 3) := by decide +kernel
theorem dX12_point_43 : decode cX12_point 43 = .ok (.aload_n 0, 1) := by decide +kernel
theorem dX12_point_44 : decode cX12_point 44 = .ok (.getfield 28, 3) := by decide +kernel
theorem dX12_point_47 : decode cX12_point 47 = .ok (.iload_n 1, 1) := by decide +kernel
theorem dX12_point_48 : decode cX12_point 48 = .ok (.iaload, 1) := by decide +kernel
theorem dX12_point_49 : decode cX12_point 49 = .ok (.ireturn, 1) := by decide +kernel
theorem dX12_tide_0 : decode cX12_tide 0 = .ok (.iload_n 1, 1) := by decide +kernel
theorem dX12_tide_1 : decode cX12_tide 1 = .ok (.iconst 0, 1) := by decide +kernel
theorem dX12_tide_2 : decode cX12_tide 2 = .ok (.bipush 9, 2) := by decide +kernel
theorem dX12_tide_4 : decode cX12_tide 4 = .ok (.invokestatic 77, 3) := by decide +kernel
theorem dX12_tide_7 : decode cX12_tide 7 = .ok (.istore_n 2, 1) := by decide +kernel
theorem dX12_tide_8 : decode cX12_tide 8 = .ok (.iload_n 2, 1) := by decide +kernel
theorem dX12_tide_9 : decode cX12_tide 9 = .ok (.ifCond .eq 9, 3) := by decide +kernel
theorem dX12_tide_12 : decode cX12_tide 12 = .ok (.aload_n 0, 1) := by decide +kernel
theorem dX12_tide_13 : decode cX12_tide 13 = .ok (.iload_n 2, 1) := by decide +kernel
theorem dX12_tide_14 : decode cX12_tide 14 = .ok (.invokevirtual 85, 3) := by decide +kernel
theorem dX12_tide_17 : decode cX12_tide 17 = .ok (.ireturn, 1) := by decide +kernel
theorem dX12_tide_18 : decode cX12_tide 18 = .ok (.aload_n 0, 1) := by decide +kernel
theorem dX12_tide_19 : decode cX12_tide 19 = .ok (.getfield 129, 3) := by decide +kernel
theorem dX12_tide_22 : decode cX12_tide 22 = .ok (.istore_n 3, 1) := by decide +kernel
theorem dX12_tide_23 : decode cX12_tide 23 = .ok (.aload_n 0, 1) := by decide +kernel
theorem dX12_tide_24 : decode cX12_tide 24 = .ok (.iload_n 1, 1) := by decide +kernel
theorem dX12_tide_25 : decode cX12_tide 25 = .ok (.putfield 129, 3) := by decide +kernel
theorem dX12_tide_28 : decode cX12_tide 28 = .ok (.iload_n 3, 1) := by decide +kernel
theorem dX12_tide_29 : decode cX12_tide 29 = .ok (.ireturn, 1) := by decide +kernel
theorem dX12_findShore_0 : decode cX12_findShore 0 = .ok (.aload_n 0, 1) := by decide +kernel
theorem dX12_findShore_1 : decode cX12_findShore 1 = .ok (.iconst 0, 1) := by decide +kernel
theorem dX12_findShore_2 : decode cX12_findShore 2 = .ok (.putfield 175, 3) := by decide +kernel
theorem dX12_findShore_5 : decode cX12_findShore 5 = .ok (.iconst 0, 1) := by decide +kernel
theorem dX12_findShore_6 : decode cX12_findShore 6 = .ok (.istore_n 3, 1) := by decide +kernel
theorem dX12_findShore_7 : decode cX12_findShore 7 = .ok (.iconst 0, 1) := by decide +kernel
theorem dX12_findShore_8 : decode cX12_findShore 8 = .ok (.istore 4, 2) := by decide +kernel
theorem dX12_findShore_10 : decode cX12_findShore 10 = .ok (.iload 4, 2) := by decide +kernel
theorem dX12_findShore_12 : decode cX12_findShore 12 = .ok (.aload_n 0, 1) := by decide +kernel
theorem dX12_findShore_13 : decode cX12_findShore 13 = .ok (.getfield 117, 3) := by decide +kernel
theorem dX12_findShore_16 : decode cX12_findShore 16 = .ok (.if_icmp .gt 72, 3) := by decide +kernel
theorem dX12_findShore_19 : decode cX12_findShore 19 = .ok (.iload 4, 2) := by decide +kernel
theorem dX12_findShore_21 : decode cX12_findShore 21 = .ok (.ifCond .le 31, 3) := by decide +kernel
theorem dX12_findShore_24 : decode cX12_findShore 24 = .ok (.aload_n 0, 1) := by decide +kernel
theorem dX12_findShore_25 : decode cX12_findShore 25 = .ok (.aload_n 0, 1) := by decide +kernel
theorem dX12_findShore_26 : decode cX12_findShore 26 = .ok (.getfield 31, 3) := by decide +kernel
theorem dX12_findShore_29 : decode cX12_findShore 29 = .ok (.iload 4, 2) := by decide +kernel
theorem dX12_findShore_31 : decode cX12_findShore 31 = .ok (.iaload, 1) := by decide +kernel
theorem dX12_findShore_32 : decode cX12_findShore 32 = .ok (.invokevirtual 163, 3) := by decide +kernel
theorem dX12_findShore_35 : decode cX12_findShore 35 = .ok (.ifCond .eq 47, 3) := by decide +kernel
theorem dX12_findShore_38 : decode cX12_findShore 38 = .ok (.aload_n 0, 1) := by decide +kernel
theorem dX12_findShore_39 : decode cX12_findShore 39 = .ok (.getfield 31, 3) := by decide +kernel
theorem dX12_findShore_42 : decode cX12_findShore 42 = .ok (.iload 4, 2) := by decide +kernel
theorem dX12_findShore_44 : decode cX12_findShore 44 = .ok (.iaload, 1) := by decide +kernel
theorem dX12_findShore_45 : decode cX12_findShore 45 = .ok (.iload_n 1, 1) := by decide +kernel
theorem dX12_findShore_46 : decode cX12_findShore 46 = .ok (.if_icmp .ne 6, 3) := by decide +kernel
theorem dX12_findShore_49 : decode cX12_findShore 49 = .ok (.goto 33, 3) := by decide +kernel
theorem dX12_findShore_52 : decode cX12_findShore 52 = .ok (.iload_n 3, 1) := by decide +kernel
theorem dX12_findShore_53 : decode cX12_findShore 53 = .ok (.iload_n 2, 1) := by decide +kernel
theorem dX12_findShore_54 : decode cX12_findShore 54 = .ok (.irem, 1) := by decide +kernel
theorem dX12_findShore_55 : decode cX12_findShore 55 = .ok (.ifCond .ne 24, 3) := by decide +kernel
theorem dX12_findShore_58 : decode cX12_findShore 58 = .ok (.aload_n 0, 1) := by decide +kernel
theorem dX12_findShore_59 : decode cX12_findShore 59 = .ok (.getfield 61, 3) := by decide +kernel
theorem dX12_findShore_62 : decode cX12_findShore 62 = .ok (.aload_n 0, 1) := by decide +kernel
theorem dX12_findShore_63 : decode cX12_findShore 63 = .ok (.getfield 175, 3) := by decide +kernel
theorem dX12_findShore_66 : decode cX12_findShore 66 = .ok (.iload 4, 2) := by decide +kernel
theorem dX12_findShore_68 : decode cX12_findShore 68 = .ok (.iastore, 1) := by decide +kernel
theorem dX12_findShore_69 : decode cX12_findShore 69 = .ok (.aload_n 0, 1) := by decide +kernel
theorem dX12_findShore_70 : decode cX12_findShore 70 = .ok (.dup, 1) := by decide +kernel
theorem dX12_findShore_71 : decode cX12_findShore 71 = .ok (.getfield 175, 3) := by decide +kernel
theorem dX12_findShore_74 : decode cX12_findShore 74 = .ok (.iconst 1, 1) := by decide +kernel
theorem dX12_findShore_75 : decode cX12_findShore 75 = .ok (.iadd, 1) := by decide +kernel
theorem dX12_findShore_76 : decode cX12_findShore 76 = .ok (.putfield 175, 3) := by decide +kernel
theorem dX12_findShore_79 : decode cX12_findShore 79 = .ok (.iinc 3 1, 3) := by decide +kernel
theorem dX12_findShore_82 : decode cX12_findShore 82 = .ok (.iinc 4 1, 3) := by decide +kernel
theorem dX12_findShore_85 : decode cX12_findShore 85 = .ok (.goto (-75), 3) := by decide +kernel
theorem dX12_findShore_88 : decode cX12_findShore 88 = .ok (.return_, 1) := by decide +kernel
theorem dX12_isFar_0 : decode cX12_isFar 0 = .ok (.aload_n 0, 1) := by decide +kernel
theorem dX12_isFar_1 : decode cX12_isFar 1 = .ok (.getfield 25, 3) := by decide +kernel
theorem dX12_isFar_4 : decode cX12_isFar 4 = .ok (.iload_n 1, 1) := by decide +kernel
theorem dX12_isFar_5 : decode cX12_isFar 5 = .ok (.iaload, 1) := by decide +kernel
theorem dX12_isFar_6 : decode cX12_isFar 6 = .ok (.aload_n 0, 1) := by decide +kernel
theorem dX12_isFar_7 : decode cX12_isFar 7 = .ok (.getfield 25, 3) := by decide +kernel
theorem dX12_isFar_10 : decode cX12_isFar 10 = .ok (.iload_n 2, 1) := by decide +kernel
theorem dX12_isFar_11 : decode cX12_isFar 11 = .ok (.iaload, 1) := by decide +kernel
theorem dX12_isFar_12 : decode cX12_isFar 12 = .ok (.isub, 1) := by decide +kernel
theorem dX12_isFar_13 : decode cX12_isFar 13 = .ok (.istore 4, 2) := by decide +kernel
theorem dX12_isFar_15 : decode cX12_isFar 15 = .ok (.aload_n 0, 1) := by decide +kernel
theorem dX12_isFar_16 : decode cX12_isFar 16 = .ok (.getfield 28, 3) := by decide +kernel
theorem dX12_isFar_19 : decode cX12_isFar 19 = .ok (.iload_n 1, 1) := by decide +kernel
theorem dX12_isFar_20 : decode cX12_isFar 20 = .ok (.iaload, 1) := by decide +kernel
theorem dX12_isFar_21 : decode cX12_isFar 21 = .ok (.aload_n 0, 1) := by decide +kernel
theorem dX12_isFar_22 : decode cX12_isFar 22 = .ok (.getfield 28, 3) := by decide +kernel
theorem dX12_isFar_25 : decode cX12_isFar 25 = .ok (.iload_n 2, 1) := by decide +kernel
theorem dX12_isFar_26 : decode cX12_isFar 26 = .ok (.iaload, 1) := by decide +kernel
theorem dX12_isFar_27 : decode cX12_isFar 27 = .ok (.isub, 1) := by decide +kernel
theorem dX12_isFar_28 : decode cX12_isFar 28 = .ok (.istore 5, 2) := by decide +kernel
theorem dX12_isFar_30 : decode cX12_isFar 30 = .ok (.iload 4, 2) := by decide +kernel
theorem dX12_isFar_32 : decode cX12_isFar 32 = .ok (.iload 4, 2) := by decide +kernel
theorem dX12_isFar_34 : decode cX12_isFar 34 = .ok (.imul, 1) := by decide +kernel
theorem dX12_isFar_35 : decode cX12_isFar 35 = .ok (.iload 5, 2) := by decide +kernel
theorem dX12_isFar_37 : decode cX12_isFar 37 = .ok (.iload 5, 2) := by decide +kernel
theorem dX12_isFar_39 : decode cX12_isFar 39 = .ok (.imul, 1) := by decide +kernel
theorem dX12_isFar_40 : decode cX12_isFar 40 = .ok (.iadd, 1) := by decide +kernel
theorem dX12_isFar_41 : decode cX12_isFar 41 = .ok (.iload_n 3, 1) := by decide +kernel
theorem dX12_isFar_42 : decode cX12_isFar 42 = .ok (.iload_n 3, 1) := by decide +kernel
theorem dX12_isFar_43 : decode cX12_isFar 43 = .ok (.imul, 1) := by decide +kernel
theorem dX12_isFar_44 : decode cX12_isFar 44 = .ok (.if_icmp .lt 7, 3) := by decide +kernel
theorem dX12_isFar_47 : decode cX12_isFar 47 = .ok (.iconst 1, 1) := by decide +kernel
theorem dX12_isFar_48 : decode cX12_isFar 48 = .ok (.goto 4, 3) := by decide +kernel
theorem dX12_isFar_51 : decode cX12_isFar 51 = .ok (.iconst 0, 1) := by decide +kernel
theorem dX12_isFar_52 : decode cX12_isFar 52 = .ok (.ireturn, 1) := by decide +kernel
theorem dX12_walks_0 : decode cX12_walks 0 = .ok (.aload_n 0, 1) := by decide +kernel
theorem dX12_walks_1 : decode cX12_walks 1 = .ok (.iconst 0, 1) := by decide +kernel
theorem dX12_walks_2 : decode cX12_walks 2 = .ok (.putfield 178, 3) := by decide +kernel
theorem dX12_walks_5 : decode cX12_walks 5 = .ok (.iconst 0, 1) := by decide +kernel
theorem dX12_walks_6 : decode cX12_walks 6 = .ok (.istore_n 3, 1) := by decide +kernel
theorem dX12_walks_7 : decode cX12_walks 7 = .ok (.iload_n 3, 1) := by decide +kernel
theorem dX12_walks_8 : decode cX12_walks 8 = .ok (.aload_n 0, 1) := by decide +kernel
theorem dX12_walks_9 : decode cX12_walks 9 = .ok (.getfield 175, 3) := by decide +kernel
theorem dX12_walks_12 : decode cX12_walks 12 = .ok (.if_icmp .ge 78, 3) := by decide +kernel
theorem dX12_walks_15 : decode cX12_walks 15 = .ok (.aload_n 0, 1) := by decide +kernel
theorem dX12_walks_16 : decode cX12_walks 16 = .ok (.getfield 61, 3) := by decide +kernel
theorem dX12_walks_19 : decode cX12_walks 19 = .ok (.iload_n 3, 1) := by decide +kernel
theorem dX12_walks_20 : decode cX12_walks 20 = .ok (.iaload, 1) := by decide +kernel
theorem dX12_walks_21 : decode cX12_walks 21 = .ok (.istore 4, 2) := by decide +kernel
theorem dX12_walks_23 : decode cX12_walks 23 = .ok (.aload_n 0, 1) := by decide +kernel
theorem dX12_walks_24 : decode cX12_walks 24 = .ok (.getfield 178, 3) := by decide +kernel
theorem dX12_walks_27 : decode cX12_walks 27 = .ok (.ifCond .ne 12, 3) := by decide +kernel
theorem dX12_walks_30 : decode cX12_walks 30 = .ok (.iload 4, 2) := by decide +kernel
theorem dX12_walks_32 : decode cX12_walks 32 = .ok (.iload_n 2, 1) := by decide +kernel
theorem dX12_walks_33 : decode cX12_walks 33 = .ok (.if_icmp .ge 30, 3) := by decide +kernel
theorem dX12_walks_36 : decode cX12_walks 36 = .ok (.goto 48, 3) := by decide +kernel
theorem dX12_walks_39 : decode cX12_walks 39 = .ok (.aload_n 0, 1) := by decide +kernel
theorem dX12_walks_40 : decode cX12_walks 40 = .ok (.aload_n 0, 1) := by decide +kernel
theorem dX12_walks_41 : decode cX12_walks 41 = .ok (.getfield 64, 3) := by decide +kernel
theorem dX12_walks_44 : decode cX12_walks 44 = .ok (.aload_n 0, 1) := by decide +kernel
theorem dX12_walks_45 : decode cX12_walks 45 = .ok (.getfield 178, 3) := by decide +kernel
theorem dX12_walks_48 : decode cX12_walks 48 = .ok (.iconst 1, 1) := by decide +kernel
theorem dX12_walks_49 : decode cX12_walks 49 = .ok (.isub, 1) := by decide +kernel
theorem dX12_walks_50 : decode cX12_walks 50 = .ok (.iaload, 1) := by decide +kernel
theorem dX12_walks_51 : decode cX12_walks 51 = .ok (.iload 4, 2) := by decide +kernel
theorem dX12_walks_53 : decode cX12_walks 53 = .ok (.iload_n 1, 1) := by decide +kernel
theorem dX12_walks_54 : decode cX12_walks 54 = .ok (.invokevirtual 181, 3) := by decide +kernel
theorem dX12_walks_57 : decode cX12_walks 57 = .ok (.ifCond .ne 6, 3) := by decide +kernel
theorem dX12_walks_60 : decode cX12_walks 60 = .ok (.goto 24, 3) := by decide +kernel
theorem dX12_walks_63 : decode cX12_walks 63 = .ok (.aload_n 0, 1) := by decide +kernel
theorem dX12_walks_64 : decode cX12_walks 64 = .ok (.getfield 64, 3) := by decide +kernel
theorem dX12_walks_67 : decode cX12_walks 67 = .ok (.aload_n 0, 1) := by decide +kernel
theorem dX12_walks_68 : decode cX12_walks 68 = .ok (.getfield 178, 3) := by decide +kernel
theorem dX12_walks_71 : decode cX12_walks 71 = .ok (.iload 4, 2) := by decide +kernel
theorem dX12_walks_73 : decode cX12_walks 73 = .ok (.iastore, 1) := by decide +kernel
theorem dX12_walks_74 : decode cX12_walks 74 = .ok (.aload_n 0, 1) := by decide +kernel
theorem dX12_walks_75 : decode cX12_walks 75 = .ok (.dup, 1) := by decide +kernel
theorem dX12_walks_76 : decode cX12_walks 76 = .ok (.getfield 178, 3) := by decide +kernel
theorem dX12_walks_79 : decode cX12_walks 79 = .ok (.iconst 1, 1) := by decide +kernel
theorem dX12_walks_80 : decode cX12_walks 80 = .ok (.iadd, 1) := by decide +kernel
theorem dX12_walks_81 : decode cX12_walks 81 = .ok (.putfield 178, 3) := by decide +kernel
theorem dX12_walks_84 : decode cX12_walks 84 = .ok (.iinc 3 1, 3) := by decide +kernel
theorem dX12_walks_87 : decode cX12_walks 87 = .ok (.goto (-80), 3) := by decide +kernel
theorem dX12_walks_90 : decode cX12_walks 90 = .ok (.aload_n 0, 1) := by decide +kernel
theorem dX12_walks_91 : decode cX12_walks 91 = .ok (.getfield 178, 3) := by decide +kernel
theorem dX12_walks_94 : decode cX12_walks 94 = .ok (.ifCond .ne 7, 3) := by decide +kernel
theorem dX12_walks_97 : decode cX12_walks 97 = .ok (.iconst 0, 1) := by decide +kernel
theorem dX12_walks_98 : decode cX12_walks 98 = .ok (.goto 9, 3) := by decide +kernel
theorem dX12_walks_101 : decode cX12_walks 101 = .ok (.aload_n 0, 1) := by decide +kernel
theorem dX12_walks_102 : decode cX12_walks 102 = .ok (.getfield 178, 3) := by decide +kernel
theorem dX12_walks_105 : decode cX12_walks 105 = .ok (.iconst 1, 1) := by decide +kernel
theorem dX12_walks_106 : decode cX12_walks 106 = .ok (.isub, 1) := by decide +kernel
theorem dX12_walks_107 : decode cX12_walks 107 = .ok (.ireturn, 1) := by decide +kernel
theorem dX12_miles_0 : decode cX12_miles 0 = .ok (.aload_n 0, 1) := by decide +kernel
theorem dX12_miles_1 : decode cX12_miles 1 = .ok (.bipush (-9), 2) := by decide +kernel
theorem dX12_miles_3 : decode cX12_miles 3 = .ok (.iconst 1, 1) := by decide +kernel
theorem dX12_miles_4 : decode cX12_miles 4 = .ok (.invokevirtual 184, 3) := by decide +kernel
theorem dX12_miles_7 : decode cX12_miles 7 = .ok (.iload_n 1, 1) := by decide +kernel
theorem dX12_miles_8 : decode cX12_miles 8 = .ok (.aload_n 0, 1) := by decide +kernel
theorem dX12_miles_9 : decode cX12_miles 9 = .ok (.iload_n 1, 1) := by decide +kernel
theorem dX12_miles_10 : decode cX12_miles 10 = .ok (.iload_n 2, 1) := by decide +kernel
theorem dX12_miles_11 : decode cX12_miles 11 = .ok (.invokevirtual 188, 3) := by decide +kernel
theorem dX12_miles_14 : decode cX12_miles 14 = .ok (.imul, 1) := by decide +kernel
theorem dX12_miles_15 : decode cX12_miles 15 = .ok (.ireturn, 1) := by decide +kernel
theorem dX12_pay_0 : decode cX12_pay 0 = .ok (.aload_n 0, 1) := by decide +kernel
theorem dX12_pay_1 : decode cX12_pay 1 = .ok (.iload_n 1, 1) := by decide +kernel
theorem dX12_pay_2 : decode cX12_pay 2 = .ok (.iload_n 2, 1) := by decide +kernel
theorem dX12_pay_3 : decode cX12_pay 3 = .ok (.invokevirtual 192, 3) := by decide +kernel
theorem dX12_pay_6 : decode cX12_pay 6 = .ok (.istore_n 3, 1) := by decide +kernel
theorem dX12_pay_7 : decode cX12_pay 7 = .ok (.iconst 1, 1) := by decide +kernel
theorem dX12_pay_8 : decode cX12_pay 8 = .ok (.istore 4, 2) := by decide +kernel
theorem dX12_pay_10 : decode cX12_pay 10 = .ok (.iload 4, 2) := by decide +kernel
theorem dX12_pay_12 : decode cX12_pay 12 = .ok (.aload_n 0, 1) := by decide +kernel
theorem dX12_pay_13 : decode cX12_pay 13 = .ok (.getfield 178, 3) := by decide +kernel
theorem dX12_pay_16 : decode cX12_pay 16 = .ok (.if_icmp .ge 28, 3) := by decide +kernel
theorem dX12_pay_19 : decode cX12_pay 19 = .ok (.iload_n 3, 1) := by decide +kernel
theorem dX12_pay_20 : decode cX12_pay 20 = .ok (.aload_n 0, 1) := by decide +kernel
theorem dX12_pay_21 : decode cX12_pay 21 = .ok (.aload_n 0, 1) := by decide +kernel
theorem dX12_pay_22 : decode cX12_pay 22 = .ok (.getfield 31, 3) := by decide +kernel
theorem dX12_pay_25 : decode cX12_pay 25 = .ok (.aload_n 0, 1) := by decide +kernel
theorem dX12_pay_26 : decode cX12_pay 26 = .ok (.getfield 64, 3) := by decide +kernel
theorem dX12_pay_29 : decode cX12_pay 29 = .ok (.iload 4, 2) := by decide +kernel
theorem dX12_pay_31 : decode cX12_pay 31 = .ok (.iaload, 1) := by decide +kernel
theorem dX12_pay_32 : decode cX12_pay 32 = .ok (.iaload, 1) := by decide +kernel
theorem dX12_pay_33 : decode cX12_pay 33 = .ok (.invokevirtual 166, 3) := by decide +kernel
theorem dX12_pay_36 : decode cX12_pay 36 = .ok (.iadd, 1) := by decide +kernel
theorem dX12_pay_37 : decode cX12_pay 37 = .ok (.istore_n 3, 1) := by decide +kernel
theorem dX12_pay_38 : decode cX12_pay 38 = .ok (.iinc 4 1, 3) := by decide +kernel
theorem dX12_pay_41 : decode cX12_pay 41 = .ok (.goto (-31), 3) := by decide +kernel
theorem dX12_pay_44 : decode cX12_pay 44 = .ok (.iload_n 3, 1) := by decide +kernel
theorem dX12_pay_45 : decode cX12_pay 45 = .ok (.ireturn, 1) := by decide +kernel
theorem dX12_over_0 : decode cX12_over 0 = .ok (.iconst 0, 1) := by decide +kernel
theorem dX12_over_1 : decode cX12_over 1 = .ok (.istore_n 1, 1) := by decide +kernel
theorem dX12_over_2 : decode cX12_over 2 = .ok (.iconst 0, 1) := by decide +kernel
theorem dX12_over_3 : decode cX12_over 3 = .ok (.istore_n 2, 1) := by decide +kernel
theorem dX12_over_4 : decode cX12_over 4 = .ok (.iload_n 2, 1) := by decide +kernel
theorem dX12_over_5 : decode cX12_over 5 = .ok (.aload_n 0, 1) := by decide +kernel
theorem dX12_over_6 : decode cX12_over 6 = .ok (.getfield 175, 3) := by decide +kernel
theorem dX12_over_9 : decode cX12_over 9 = .ok (.if_icmp .ge 44, 3) := by decide +kernel
theorem dX12_over_12 : decode cX12_over 12 = .ok (.aload_n 0, 1) := by decide +kernel
theorem dX12_over_13 : decode cX12_over 13 = .ok (.getfield 178, 3) := by decide +kernel
theorem dX12_over_16 : decode cX12_over 16 = .ok (.ifCond .le 37, 3) := by decide +kernel
theorem dX12_over_19 : decode cX12_over 19 = .ok (.iload_n 1, 1) := by decide +kernel
theorem dX12_over_20 : decode cX12_over 20 = .ok (.aload_n 0, 1) := by decide +kernel
theorem dX12_over_21 : decode cX12_over 21 = .ok (.getfield 61, 3) := by decide +kernel
theorem dX12_over_24 : decode cX12_over 24 = .ok (.iload_n 2, 1) := by decide +kernel
theorem dX12_over_25 : decode cX12_over 25 = .ok (.iaload, 1) := by decide +kernel
theorem dX12_over_26 : decode cX12_over 26 = .ok (.aload_n 0, 1) := by decide +kernel
theorem dX12_over_27 : decode cX12_over 27 = .ok (.getfield 64, 3) := by decide +kernel
theorem dX12_over_30 : decode cX12_over 30 = .ok (.aload_n 0, 1) := by decide +kernel
theorem dX12_over_31 : decode cX12_over 31 = .ok (.getfield 178, 3) := by decide +kernel
theorem dX12_over_34 : decode cX12_over 34 = .ok (.iconst 1, 1) := by decide +kernel
theorem dX12_over_35 : decode cX12_over 35 = .ok (.isub, 1) := by decide +kernel
theorem dX12_over_36 : decode cX12_over 36 = .ok (.iaload, 1) := by decide +kernel
theorem dX12_over_37 : decode cX12_over 37 = .ok (.if_icmp .le 7, 3) := by decide +kernel
theorem dX12_over_40 : decode cX12_over 40 = .ok (.iconst 1, 1) := by decide +kernel
theorem dX12_over_41 : decode cX12_over 41 = .ok (.goto 4, 3) := by decide +kernel
theorem dX12_over_44 : decode cX12_over 44 = .ok (.iconst 0, 1) := by decide +kernel
theorem dX12_over_45 : decode cX12_over 45 = .ok (.iadd, 1) := by decide +kernel
theorem dX12_over_46 : decode cX12_over 46 = .ok (.istore_n 1, 1) := by decide +kernel
theorem dX12_over_47 : decode cX12_over 47 = .ok (.iinc 2 1, 3) := by decide +kernel
theorem dX12_over_50 : decode cX12_over 50 = .ok (.goto (-46), 3) := by decide +kernel
theorem dX12_over_53 : decode cX12_over 53 = .ok (.iload_n 1, 1) := by decide +kernel
theorem dX12_over_54 : decode cX12_over 54 = .ok (.ireturn, 1) := by decide +kernel
theorem dX12_shore_0 : decode cX12_shore 0 = .ok (.aload_n 0, 1) := by decide +kernel
theorem dX12_shore_1 : decode cX12_shore 1 = .ok (.iload_n 1, 1) := by decide +kernel
theorem dX12_shore_2 : decode cX12_shore 2 = .ok (.invokevirtual 169, 3) := by decide +kernel
theorem dX12_shore_5 : decode cX12_shore 5 = .ok (.ifCond .ne 11, 3) := by decide +kernel
theorem dX12_shore_8 : decode cX12_shore 8 = .ok (.aload_n 0, 1) := by decide +kernel
theorem dX12_shore_9 : decode cX12_shore 9 = .ok (.iconst (-1), 1) := by decide +kernel
theorem dX12_shore_10 : decode cX12_shore 10 = .ok (.invokevirtual 85, 3) := by decide +kernel
theorem dX12_shore_13 : decode cX12_shore 13 = .ok (.goto 25, 3) := by decide +kernel
theorem dX12_shore_16 : decode cX12_shore 16 = .ok (.iload_n 1, 1) := by decide +kernel
theorem dX12_shore_17 : decode cX12_shore 17 = .ok (.ifCond .eq 16, 3) := by decide +kernel
theorem dX12_shore_20 : decode cX12_shore 20 = .ok (.aload_n 0, 1) := by decide +kernel
theorem dX12_shore_21 : decode cX12_shore 21 = .ok (.aload_n 0, 1) := by decide +kernel
theorem dX12_shore_22 : decode cX12_shore 22 = .ok (.getfield 31, 3) := by decide +kernel
theorem dX12_shore_25 : decode cX12_shore 25 = .ok (.iload_n 1, 1) := by decide +kernel
theorem dX12_shore_26 : decode cX12_shore 26 = .ok (.iaload, 1) := by decide +kernel
theorem dX12_shore_27 : decode cX12_shore 27 = .ok (.invokevirtual 163, 3) := by decide +kernel
theorem dX12_shore_30 : decode cX12_shore 30 = .ok (.ifCond .eq 7, 3) := by decide +kernel
theorem dX12_shore_33 : decode cX12_shore 33 = .ok (.iconst 1, 1) := by decide +kernel
theorem dX12_shore_34 : decode cX12_shore 34 = .ok (.goto 4, 3) := by decide +kernel
theorem dX12_shore_37 : decode cX12_shore 37 = .ok (.iconst 0, 1) := by decide +kernel
theorem dX12_shore_38 : decode cX12_shore 38 = .ok (.ireturn, 1) := by decide +kernel
theorem dX12_notWalk_0 : decode cX12_notWalk 0 = .ok (.iload_n 0, 1) := by decide +kernel
theorem dX12_notWalk_1 : decode cX12_notWalk 1 = .ok (.iconst 1, 1) := by decide +kernel
theorem dX12_notWalk_2 : decode cX12_notWalk 2 = .ok (.if_icmp .lt 7, 3) := by decide +kernel
theorem dX12_notWalk_5 : decode cX12_notWalk 5 = .ok (.iload_n 1, 1) := by decide +kernel
theorem dX12_notWalk_6 : decode cX12_notWalk 6 = .ok (.ifCond .ge 8, 3) := by decide +kernel
theorem dX12_notWalk_9 : decode cX12_notWalk 9 = .ok (.bipush (-4), 2) := by decide +kernel
theorem dX12_notWalk_11 : decode cX12_notWalk 11 = .ok (.goto 21, 3) := by decide +kernel
theorem dX12_notWalk_14 : decode cX12_notWalk 14 = .ok (.iload_n 0, 1) := by decide +kernel
theorem dX12_notWalk_15 : decode cX12_notWalk 15 = .ok (.bipush 9, 2) := by decide +kernel
theorem dX12_notWalk_17 : decode cX12_notWalk 17 = .ok (.if_icmp .gt 9, 3) := by decide +kernel
theorem dX12_notWalk_20 : decode cX12_notWalk 20 = .ok (.iload_n 1, 1) := by decide +kernel
theorem dX12_notWalk_21 : decode cX12_notWalk 21 = .ok (.bipush 9, 2) := by decide +kernel
theorem dX12_notWalk_23 : decode cX12_notWalk 23 = .ok (.if_icmp .le 8, 3) := by decide +kernel
theorem dX12_notWalk_26 : decode cX12_notWalk 26 = .ok (.bipush (-6), 2) := by decide +kernel
theorem dX12_notWalk_28 : decode cX12_notWalk 28 = .ok (.goto 4, 3) := by decide +kernel
theorem dX12_notWalk_31 : decode cX12_notWalk 31 = .ok (.iconst 0, 1) := by decide +kernel
theorem dX12_notWalk_32 : decode cX12_notWalk 32 = .ok (.ireturn, 1) := by decide +kernel
theorem dX12_walk_0 : decode cX12_walk 0 = .ok (.iload_n 3, 1) := by decide +kernel
theorem dX12_walk_1 : decode cX12_walk 1 = .ok (.iconst 0, 1) := by decide +kernel
theorem dX12_walk_2 : decode cX12_walk 2 = .ok (.iconst 4, 1) := by decide +kernel
theorem dX12_walk_3 : decode cX12_walk 3 = .ok (.invokestatic 96, 3) := by decide +kernel
theorem dX12_walk_6 : decode cX12_walk 6 = .ok (.ifCond .ne 8, 3) := by decide +kernel
theorem dX12_walk_9 : decode cX12_walk 9 = .ok (.bipush (-2), 2) := by decide +kernel
theorem dX12_walk_11 : decode cX12_walk 11 = .ok (.goto 8, 3) := by decide +kernel
theorem dX12_walk_14 : decode cX12_walk 14 = .ok (.iload_n 1, 1) := by decide +kernel
theorem dX12_walk_15 : decode cX12_walk 15 = .ok (.iload_n 2, 1) := by decide +kernel
theorem dX12_walk_16 : decode cX12_walk 16 = .ok (.invokestatic 195, 3) := by decide +kernel
theorem dX12_walk_19 : decode cX12_walk 19 = .ok (.istore 4, 2) := by decide +kernel
theorem dX12_walk_21 : decode cX12_walk 21 = .ok (.iload 4, 2) := by decide +kernel
theorem dX12_walk_23 : decode cX12_walk 23 = .ok (.ifCond .eq 10, 3) := by decide +kernel
theorem dX12_walk_26 : decode cX12_walk 26 = .ok (.aload_n 0, 1) := by decide +kernel
theorem dX12_walk_27 : decode cX12_walk 27 = .ok (.iload 4, 2) := by decide +kernel
theorem dX12_walk_29 : decode cX12_walk 29 = .ok (.invokevirtual 85, 3) := by decide +kernel
theorem dX12_walk_32 : decode cX12_walk 32 = .ok (.ireturn, 1) := by decide +kernel
theorem dX12_walk_33 : decode cX12_walk 33 = .ok (.aload_n 0, 1) := by decide +kernel
theorem dX12_walk_34 : decode cX12_walk 34 = .ok (.iload_n 1, 1) := by decide +kernel
theorem dX12_walk_35 : decode cX12_walk 35 = .ok (.iload_n 2, 1) := by decide +kernel
theorem dX12_walk_36 : decode cX12_walk 36 = .ok (.invokevirtual 198, 3) := by decide +kernel
theorem dX12_walk_39 : decode cX12_walk 39 = .ok (.istore 5, 2) := by decide +kernel
theorem dX12_walk_41 : decode cX12_walk 41 = .ok (.iload_n 3, 1) := by decide +kernel
theorem dX12_walk_42 : decode cX12_walk 42 = .ok (.tableswitch 95 0 3 #[30, 48, 68, 71], 30) := by decide +kernel
theorem dX12_walk_72 : decode cX12_walk 72 = .ok (.aload_n 0, 1) := by decide +kernel
theorem dX12_walk_73 : decode cX12_walk 73 = .ok (.getfield 178, 3) := by decide +kernel
theorem dX12_walk_76 : decode cX12_walk 76 = .ok (.ifCond .ne 7, 3) := by decide +kernel
theorem dX12_walk_79 : decode cX12_walk 79 = .ok (.iconst 0, 1) := by decide +kernel
theorem dX12_walk_80 : decode cX12_walk 80 = .ok (.goto 9, 3) := by decide +kernel
theorem dX12_walk_83 : decode cX12_walk 83 = .ok (.aload_n 0, 1) := by decide +kernel
theorem dX12_walk_84 : decode cX12_walk 84 = .ok (.getfield 178, 3) := by decide +kernel
theorem dX12_walk_87 : decode cX12_walk 87 = .ok (.iconst 1, 1) := by decide +kernel
theorem dX12_walk_88 : decode cX12_walk 88 = .ok (.isub, 1) := by decide +kernel
theorem dX12_walk_89 : decode cX12_walk 89 = .ok (.ireturn, 1) := by decide +kernel
theorem dX12_walk_90 : decode cX12_walk 90 = .ok (.aload_n 0, 1) := by decide +kernel
theorem dX12_walk_91 : decode cX12_walk 91 = .ok (.getfield 178, 3) := by decide +kernel
theorem dX12_walk_94 : decode cX12_walk 94 = .ok (.ifCond .ne 7, 3) := by decide +kernel
theorem dX12_walk_97 : decode cX12_walk 97 = .ok (.iconst 0, 1) := by decide +kernel
theorem dX12_walk_98 : decode cX12_walk 98 = .ok (.goto 11, 3) := by decide +kernel
theorem dX12_walk_101 : decode cX12_walk 101 = .ok (.iload_n 1, 1) := by decide +kernel
theorem dX12_walk_102 : decode cX12_walk 102 = .ok (.aload_n 0, 1) := by decide +kernel
theorem dX12_walk_103 : decode cX12_walk 103 = .ok (.getfield 178, 3) := by decide +kernel
theorem dX12_walk_106 : decode cX12_walk 106 = .ok (.iconst 1, 1) := by decide +kernel
theorem dX12_walk_107 : decode cX12_walk 107 = .ok (.isub, 1) := by decide +kernel
theorem dX12_walk_108 : decode cX12_walk 108 = .ok (.imul, 1) := by decide +kernel
theorem dX12_walk_109 : decode cX12_walk 109 = .ok (.ireturn, 1) := by decide +kernel
theorem dX12_walk_110 : decode cX12_walk 110 = .ok (.iload 5, 2) := by decide +kernel
theorem dX12_walk_112 : decode cX12_walk 112 = .ok (.ireturn, 1) := by decide +kernel
theorem dX12_walk_113 : decode cX12_walk 113 = .ok (.aload_n 0, 1) := by decide +kernel
theorem dX12_walk_114 : decode cX12_walk 114 = .ok (.getfield 178, 3) := by decide +kernel
theorem dX12_walk_117 : decode cX12_walk 117 = .ok (.ifCond .ne 8, 3) := by decide +kernel
theorem dX12_walk_120 : decode cX12_walk 120 = .ok (.bipush (-9), 2) := by decide +kernel
theorem dX12_walk_122 : decode cX12_walk 122 = .ok (.goto 14, 3) := by decide +kernel
theorem dX12_walk_125 : decode cX12_walk 125 = .ok (.aload_n 0, 1) := by decide +kernel
theorem dX12_walk_126 : decode cX12_walk 126 = .ok (.getfield 64, 3) := by decide +kernel
theorem dX12_walk_129 : decode cX12_walk 129 = .ok (.aload_n 0, 1) := by decide +kernel
theorem dX12_walk_130 : decode cX12_walk 130 = .ok (.getfield 178, 3) := by decide +kernel
theorem dX12_walk_133 : decode cX12_walk 133 = .ok (.iconst 1, 1) := by decide +kernel
theorem dX12_walk_134 : decode cX12_walk 134 = .ok (.isub, 1) := by decide +kernel
theorem dX12_walk_135 : decode cX12_walk 135 = .ok (.iaload, 1) := by decide +kernel
theorem dX12_walk_136 : decode cX12_walk 136 = .ok (.ireturn, 1) := by decide +kernel
theorem dX12_walk_137 : decode cX12_walk 137 = .ok (.aload_n 0, 1) := by decide +kernel
theorem dX12_walk_138 : decode cX12_walk 138 = .ok (.invokevirtual 201, 3) := by decide +kernel
theorem dX12_walk_141 : decode cX12_walk 141 = .ok (.ireturn, 1) := by decide +kernel
theorem dX12_place_0 : decode cX12_place 0 = .ok (.iload_n 3, 1) := by decide +kernel
theorem dX12_place_1 : decode cX12_place 1 = .ok (.ifCond .ge 8, 3) := by decide +kernel
theorem dX12_place_4 : decode cX12_place 4 = .ok (.bipush (-4), 2) := by decide +kernel
theorem dX12_place_6 : decode cX12_place 6 = .ok (.goto 8, 3) := by decide +kernel
theorem dX12_place_9 : decode cX12_place 9 = .ok (.iload_n 1, 1) := by decide +kernel
theorem dX12_place_10 : decode cX12_place 10 = .ok (.iload_n 2, 1) := by decide +kernel
theorem dX12_place_11 : decode cX12_place 11 = .ok (.invokestatic 195, 3) := by decide +kernel
theorem dX12_place_14 : decode cX12_place 14 = .ok (.istore 4, 2) := by decide +kernel
theorem dX12_place_16 : decode cX12_place 16 = .ok (.iload 4, 2) := by decide +kernel
theorem dX12_place_18 : decode cX12_place 18 = .ok (.ifCond .eq 10, 3) := by decide +kernel
theorem dX12_place_21 : decode cX12_place 21 = .ok (.aload_n 0, 1) := by decide +kernel
theorem dX12_place_22 : decode cX12_place 22 = .ok (.iload 4, 2) := by decide +kernel
theorem dX12_place_24 : decode cX12_place 24 = .ok (.invokevirtual 85, 3) := by decide +kernel
theorem dX12_place_27 : decode cX12_place 27 = .ok (.ireturn, 1) := by decide +kernel
theorem dX12_place_28 : decode cX12_place 28 = .ok (.aload_n 0, 1) := by decide +kernel
theorem dX12_place_29 : decode cX12_place 29 = .ok (.bipush (-9), 2) := by decide +kernel
theorem dX12_place_31 : decode cX12_place 31 = .ok (.iconst 1, 1) := by decide +kernel
theorem dX12_place_32 : decode cX12_place 32 = .ok (.invokevirtual 184, 3) := by decide +kernel
theorem dX12_place_35 : decode cX12_place 35 = .ok (.aload_n 0, 1) := by decide +kernel
theorem dX12_place_36 : decode cX12_place 36 = .ok (.iload_n 1, 1) := by decide +kernel
theorem dX12_place_37 : decode cX12_place 37 = .ok (.iload_n 2, 1) := by decide +kernel
theorem dX12_place_38 : decode cX12_place 38 = .ok (.invokevirtual 188, 3) := by decide +kernel
theorem dX12_place_41 : decode cX12_place 41 = .ok (.pop, 1) := by decide +kernel
theorem dX12_place_42 : decode cX12_place 42 = .ok (.iload_n 3, 1) := by decide +kernel
theorem dX12_place_43 : decode cX12_place 43 = .ok (.aload_n 0, 1) := by decide +kernel
theorem dX12_place_44 : decode cX12_place 44 = .ok (.getfield 178, 3) := by decide +kernel
theorem dX12_place_47 : decode cX12_place 47 = .ok (.if_icmp .ge 12, 3) := by decide +kernel
theorem dX12_place_50 : decode cX12_place 50 = .ok (.aload_n 0, 1) := by decide +kernel
theorem dX12_place_51 : decode cX12_place 51 = .ok (.getfield 64, 3) := by decide +kernel
theorem dX12_place_54 : decode cX12_place 54 = .ok (.iload_n 3, 1) := by decide +kernel
theorem dX12_place_55 : decode cX12_place 55 = .ok (.iaload, 1) := by decide +kernel
theorem dX12_place_56 : decode cX12_place 56 = .ok (.goto 5, 3) := by decide +kernel
theorem dX12_place_59 : decode cX12_place 59 = .ok (.bipush (-9), 2) := by decide +kernel
theorem dX12_place_61 : decode cX12_place 61 = .ok (.ireturn, 1) := by decide +kernel
theorem dX12_best_0 : decode cX12_best 0 = .ok (.iload_n 1, 1) := by decide +kernel
theorem dX12_best_1 : decode cX12_best 1 = .ok (.iconst 0, 1) := by decide +kernel
theorem dX12_best_2 : decode cX12_best 2 = .ok (.iconst 2, 1) := by decide +kernel
theorem dX12_best_3 : decode cX12_best 3 = .ok (.invokestatic 96, 3) := by decide +kernel
theorem dX12_best_6 : decode cX12_best 6 = .ok (.ifCond .eq 12, 3) := by decide +kernel
theorem dX12_best_9 : decode cX12_best 9 = .ok (.iload_n 2, 1) := by decide +kernel
theorem dX12_best_10 : decode cX12_best 10 = .ok (.iconst 0, 1) := by decide +kernel
theorem dX12_best_11 : decode cX12_best 11 = .ok (.iconst 1, 1) := by decide +kernel
theorem dX12_best_12 : decode cX12_best 12 = .ok (.invokestatic 96, 3) := by decide +kernel
theorem dX12_best_15 : decode cX12_best 15 = .ok (.ifCond .ne 10, 3) := by decide +kernel
theorem dX12_best_18 : decode cX12_best 18 = .ok (.aload_n 0, 1) := by decide +kernel
theorem dX12_best_19 : decode cX12_best 19 = .ok (.bipush (-2), 2) := by decide +kernel
theorem dX12_best_21 : decode cX12_best 21 = .ok (.invokevirtual 85, 3) := by decide +kernel
theorem dX12_best_24 : decode cX12_best 24 = .ok (.ireturn, 1) := by decide +kernel
theorem dX12_best_25 : decode cX12_best 25 = .ok (.iconst 0, 1) := by decide +kernel
theorem dX12_best_26 : decode cX12_best 26 = .ok (.istore_n 3, 1) := by decide +kernel
theorem dX12_best_27 : decode cX12_best 27 = .ok (.iconst 0, 1) := by decide +kernel
theorem dX12_best_28 : decode cX12_best 28 = .ok (.istore 4, 2) := by decide +kernel
theorem dX12_best_30 : decode cX12_best 30 = .ok (.iconst 1, 1) := by decide +kernel
theorem dX12_best_31 : decode cX12_best 31 = .ok (.istore 5, 2) := by decide +kernel
theorem dX12_best_33 : decode cX12_best 33 = .ok (.iload 5, 2) := by decide +kernel
theorem dX12_best_35 : decode cX12_best 35 = .ok (.bipush 9, 2) := by decide +kernel
theorem dX12_best_37 : decode cX12_best 37 = .ok (.if_icmp .gt 93, 3) := by decide +kernel
theorem dX12_best_40 : decode cX12_best 40 = .ok (.iconst 0, 1) := by decide +kernel
theorem dX12_best_41 : decode cX12_best 41 = .ok (.istore 6, 2) := by decide +kernel
theorem dX12_best_43 : decode cX12_best 43 = .ok (.iload 6, 2) := by decide +kernel
theorem dX12_best_45 : decode cX12_best 45 = .ok (.bipush 9, 2) := by decide +kernel
theorem dX12_best_47 : decode cX12_best 47 = .ok (.if_icmp .gt 77, 3) := by decide +kernel
theorem dX12_best_50 : decode cX12_best 50 = .ok (.iload_n 1, 1) := by decide +kernel
theorem dX12_best_51 : decode cX12_best 51 = .ok (.iconst 2, 1) := by decide +kernel
theorem dX12_best_52 : decode cX12_best 52 = .ok (.if_icmp .ne 14, 3) := by decide +kernel
theorem dX12_best_55 : decode cX12_best 55 = .ok (.aload_n 0, 1) := by decide +kernel
theorem dX12_best_56 : decode cX12_best 56 = .ok (.iload 5, 2) := by decide +kernel
theorem dX12_best_58 : decode cX12_best 58 = .ok (.iload 6, 2) := by decide +kernel
theorem dX12_best_60 : decode cX12_best 60 = .ok (.invokevirtual 192, 3) := by decide +kernel
theorem dX12_best_63 : decode cX12_best 63 = .ok (.goto 11, 3) := by decide +kernel
theorem dX12_best_66 : decode cX12_best 66 = .ok (.aload_n 0, 1) := by decide +kernel
theorem dX12_best_67 : decode cX12_best 67 = .ok (.iload 5, 2) := by decide +kernel
theorem dX12_best_69 : decode cX12_best 69 = .ok (.iload 6, 2) := by decide +kernel
theorem dX12_best_71 : decode cX12_best 71 = .ok (.invokevirtual 198, 3) := by decide +kernel
theorem dX12_best_74 : decode cX12_best 74 = .ok (.istore 7, 2) := by decide +kernel
theorem dX12_best_76 : decode cX12_best 76 = .ok (.iload_n 3, 1) := by decide +kernel
theorem dX12_best_77 : decode cX12_best 77 = .ok (.ifCond .le 28, 3) := by decide +kernel
theorem dX12_best_80 : decode cX12_best 80 = .ok (.iload_n 1, 1) := by decide +kernel
theorem dX12_best_81 : decode cX12_best 81 = .ok (.iconst 1, 1) := by decide +kernel
theorem dX12_best_82 : decode cX12_best 82 = .ok (.if_icmp .ne 13, 3) := by decide +kernel
theorem dX12_best_85 : decode cX12_best 85 = .ok (.iload 7, 2) := by decide +kernel
theorem dX12_best_87 : decode cX12_best 87 = .ok (.iload 4, 2) := by decide +kernel
theorem dX12_best_89 : decode cX12_best 89 = .ok (.if_icmp .lt 16, 3) := by decide +kernel
theorem dX12_best_92 : decode cX12_best 92 = .ok (.goto 26, 3) := by decide +kernel
theorem dX12_best_95 : decode cX12_best 95 = .ok (.iload 7, 2) := by decide +kernel
theorem dX12_best_97 : decode cX12_best 97 = .ok (.iload 4, 2) := by decide +kernel
theorem dX12_best_99 : decode cX12_best 99 = .ok (.if_icmp .gt 6, 3) := by decide +kernel
theorem dX12_best_102 : decode cX12_best 102 = .ok (.goto 16, 3) := by decide +kernel
theorem dX12_best_105 : decode cX12_best 105 = .ok (.bipush 10, 2) := by decide +kernel
theorem dX12_best_107 : decode cX12_best 107 = .ok (.iload 5, 2) := by decide +kernel
theorem dX12_best_109 : decode cX12_best 109 = .ok (.imul, 1) := by decide +kernel
theorem dX12_best_110 : decode cX12_best 110 = .ok (.iload 6, 2) := by decide +kernel
theorem dX12_best_112 : decode cX12_best 112 = .ok (.iadd, 1) := by decide +kernel
theorem dX12_best_113 : decode cX12_best 113 = .ok (.istore_n 3, 1) := by decide +kernel
theorem dX12_best_114 : decode cX12_best 114 = .ok (.iload 7, 2) := by decide +kernel
theorem dX12_best_116 : decode cX12_best 116 = .ok (.istore 4, 2) := by decide +kernel
theorem dX12_best_118 : decode cX12_best 118 = .ok (.iinc 6 1, 3) := by decide +kernel
theorem dX12_best_121 : decode cX12_best 121 = .ok (.goto (-78), 3) := by decide +kernel
theorem dX12_best_124 : decode cX12_best 124 = .ok (.iinc 5 1, 3) := by decide +kernel
theorem dX12_best_127 : decode cX12_best 127 = .ok (.goto (-94), 3) := by decide +kernel
theorem dX12_best_130 : decode cX12_best 130 = .ok (.iload_n 2, 1) := by decide +kernel
theorem dX12_best_131 : decode cX12_best 131 = .ok (.ifCond .ne 7, 3) := by decide +kernel
theorem dX12_best_134 : decode cX12_best 134 = .ok (.iload_n 3, 1) := by decide +kernel
theorem dX12_best_135 : decode cX12_best 135 = .ok (.goto 5, 3) := by decide +kernel
theorem dX12_best_138 : decode cX12_best 138 = .ok (.iload 4, 2) := by decide +kernel
theorem dX12_best_140 : decode cX12_best 140 = .ok (.ireturn, 1) := by decide +kernel
theorem dX12_span_0 : decode cX12_span 0 = .ok (.iload_n 1, 1) := by decide +kernel
theorem dX12_span_1 : decode cX12_span 1 = .ok (.iconst 1, 1) := by decide +kernel
theorem dX12_span_2 : decode cX12_span 2 = .ok (.bipush 9, 2) := by decide +kernel
theorem dX12_span_4 : decode cX12_span 4 = .ok (.invokestatic 77, 3) := by decide +kernel
theorem dX12_span_7 : decode cX12_span 7 = .ok (.istore_n 2, 1) := by decide +kernel
theorem dX12_span_8 : decode cX12_span 8 = .ok (.iload_n 2, 1) := by decide +kernel
theorem dX12_span_9 : decode cX12_span 9 = .ok (.ifCond .eq 9, 3) := by decide +kernel
theorem dX12_span_12 : decode cX12_span 12 = .ok (.aload_n 0, 1) := by decide +kernel
theorem dX12_span_13 : decode cX12_span 13 = .ok (.iload_n 2, 1) := by decide +kernel
theorem dX12_span_14 : decode cX12_span 14 = .ok (.invokevirtual 85, 3) := by decide +kernel
theorem dX12_span_17 : decode cX12_span 17 = .ok (.ireturn, 1) := by decide +kernel
theorem dX12_span_18 : decode cX12_span 18 = .ok (.aload_n 0, 1) := by decide +kernel
theorem dX12_span_19 : decode cX12_span 19 = .ok (.iload_n 1, 1) := by decide +kernel
theorem dX12_span_20 : decode cX12_span 20 = .ok (.iconst 0, 1) := by decide +kernel
theorem dX12_span_21 : decode cX12_span 21 = .ok (.invokevirtual 192, 3) := by decide +kernel
theorem dX12_span_24 : decode cX12_span 24 = .ok (.istore_n 3, 1) := by decide +kernel
theorem dX12_span_25 : decode cX12_span 25 = .ok (.iload_n 3, 1) := by decide +kernel
theorem dX12_span_26 : decode cX12_span 26 = .ok (.istore 4, 2) := by decide +kernel
theorem dX12_span_28 : decode cX12_span 28 = .ok (.iconst 1, 1) := by decide +kernel
theorem dX12_span_29 : decode cX12_span 29 = .ok (.istore 5, 2) := by decide +kernel
theorem dX12_span_31 : decode cX12_span 31 = .ok (.iload 5, 2) := by decide +kernel
theorem dX12_span_33 : decode cX12_span 33 = .ok (.bipush 9, 2) := by decide +kernel
theorem dX12_span_35 : decode cX12_span 35 = .ok (.if_icmp .gt 47, 3) := by decide +kernel
theorem dX12_span_38 : decode cX12_span 38 = .ok (.aload_n 0, 1) := by decide +kernel
theorem dX12_span_39 : decode cX12_span 39 = .ok (.iload_n 1, 1) := by decide +kernel
theorem dX12_span_40 : decode cX12_span 40 = .ok (.iload 5, 2) := by decide +kernel
theorem dX12_span_42 : decode cX12_span 42 = .ok (.invokevirtual 192, 3) := by decide +kernel
theorem dX12_span_45 : decode cX12_span 45 = .ok (.istore 6, 2) := by decide +kernel
theorem dX12_span_47 : decode cX12_span 47 = .ok (.iload 6, 2) := by decide +kernel
theorem dX12_span_49 : decode cX12_span 49 = .ok (.iload_n 3, 1) := by decide +kernel
theorem dX12_span_50 : decode cX12_span 50 = .ok (.if_icmp .ge 8, 3) := by decide +kernel
theorem dX12_span_53 : decode cX12_span 53 = .ok (.iload 6, 2) := by decide +kernel
theorem dX12_span_55 : decode cX12_span 55 = .ok (.goto 4, 3) := by decide +kernel
theorem dX12_span_58 : decode cX12_span 58 = .ok (.iload_n 3, 1) := by decide +kernel
theorem dX12_span_59 : decode cX12_span 59 = .ok (.istore_n 3, 1) := by decide +kernel
theorem dX12_span_60 : decode cX12_span 60 = .ok (.iload 6, 2) := by decide +kernel
theorem dX12_span_62 : decode cX12_span 62 = .ok (.iload 4, 2) := by decide +kernel
theorem dX12_span_64 : decode cX12_span 64 = .ok (.if_icmp .le 8, 3) := by decide +kernel
theorem dX12_span_67 : decode cX12_span 67 = .ok (.iload 6, 2) := by decide +kernel
theorem dX12_span_69 : decode cX12_span 69 = .ok (.goto 5, 3) := by decide +kernel
theorem dX12_span_72 : decode cX12_span 72 = .ok (.iload 4, 2) := by decide +kernel
theorem dX12_span_74 : decode cX12_span 74 = .ok (.istore 4, 2) := by decide +kernel
theorem dX12_span_76 : decode cX12_span 76 = .ok (.iinc 5 1, 3) := by decide +kernel
theorem dX12_span_79 : decode cX12_span 79 = .ok (.goto (-48), 3) := by decide +kernel
theorem dX12_span_82 : decode cX12_span 82 = .ok (.iload 4, 2) := by decide +kernel
theorem dX12_span_84 : decode cX12_span 84 = .ok (.iload_n 3, 1) := by decide +kernel
theorem dX12_span_85 : decode cX12_span 85 = .ok (.isub, 1) := by decide +kernel
theorem dX12_span_86 : decode cX12_span 86 = .ok (.ireturn, 1) := by decide +kernel
theorem dX12_finer_0 : decode cX12_finer 0 = .ok (.iload_n 1, 1) := by decide +kernel
theorem dX12_finer_1 : decode cX12_finer 1 = .ok (.iconst 0, 1) := by decide +kernel
theorem dX12_finer_2 : decode cX12_finer 2 = .ok (.bipush 9, 2) := by decide +kernel
theorem dX12_finer_4 : decode cX12_finer 4 = .ok (.invokestatic 77, 3) := by decide +kernel
theorem dX12_finer_7 : decode cX12_finer 7 = .ok (.istore_n 2, 1) := by decide +kernel
theorem dX12_finer_8 : decode cX12_finer 8 = .ok (.iload_n 2, 1) := by decide +kernel
theorem dX12_finer_9 : decode cX12_finer 9 = .ok (.ifCond .eq 9, 3) := by decide +kernel
theorem dX12_finer_12 : decode cX12_finer 12 = .ok (.aload_n 0, 1) := by decide +kernel
theorem dX12_finer_13 : decode cX12_finer 13 = .ok (.iload_n 2, 1) := by decide +kernel
theorem dX12_finer_14 : decode cX12_finer 14 = .ok (.invokevirtual 85, 3) := by decide +kernel
theorem dX12_finer_17 : decode cX12_finer 17 = .ok (.ireturn, 1) := by decide +kernel
theorem dX12_finer_18 : decode cX12_finer 18 = .ok (.iconst 0, 1) := by decide +kernel
theorem dX12_finer_19 : decode cX12_finer 19 = .ok (.istore_n 3, 1) := by decide +kernel
theorem dX12_finer_20 : decode cX12_finer 20 = .ok (.iconst 2, 1) := by decide +kernel
theorem dX12_finer_21 : decode cX12_finer 21 = .ok (.istore 4, 2) := by decide +kernel
theorem dX12_finer_23 : decode cX12_finer 23 = .ok (.iload 4, 2) := by decide +kernel
theorem dX12_finer_25 : decode cX12_finer 25 = .ok (.bipush 9, 2) := by decide +kernel
theorem dX12_finer_27 : decode cX12_finer 27 = .ok (.if_icmp .gt 36, 3) := by decide +kernel
theorem dX12_finer_30 : decode cX12_finer 30 = .ok (.iload_n 3, 1) := by decide +kernel
theorem dX12_finer_31 : decode cX12_finer 31 = .ok (.aload_n 0, 1) := by decide +kernel
theorem dX12_finer_32 : decode cX12_finer 32 = .ok (.iload 4, 2) := by decide +kernel
theorem dX12_finer_34 : decode cX12_finer 34 = .ok (.iload_n 1, 1) := by decide +kernel
theorem dX12_finer_35 : decode cX12_finer 35 = .ok (.invokevirtual 192, 3) := by decide +kernel
theorem dX12_finer_38 : decode cX12_finer 38 = .ok (.aload_n 0, 1) := by decide +kernel
theorem dX12_finer_39 : decode cX12_finer 39 = .ok (.iload 4, 2) := by decide +kernel
theorem dX12_finer_41 : decode cX12_finer 41 = .ok (.iconst 1, 1) := by decide +kernel
theorem dX12_finer_42 : decode cX12_finer 42 = .ok (.isub, 1) := by decide +kernel
theorem dX12_finer_43 : decode cX12_finer 43 = .ok (.iload_n 1, 1) := by decide +kernel
theorem dX12_finer_44 : decode cX12_finer 44 = .ok (.invokevirtual 192, 3) := by decide +kernel
theorem dX12_finer_47 : decode cX12_finer 47 = .ok (.if_icmp .le 7, 3) := by decide +kernel
theorem dX12_finer_50 : decode cX12_finer 50 = .ok (.iconst 1, 1) := by decide +kernel
theorem dX12_finer_51 : decode cX12_finer 51 = .ok (.goto 4, 3) := by decide +kernel
theorem dX12_finer_54 : decode cX12_finer 54 = .ok (.iconst 0, 1) := by decide +kernel
theorem dX12_finer_55 : decode cX12_finer 55 = .ok (.iadd, 1) := by decide +kernel
theorem dX12_finer_56 : decode cX12_finer 56 = .ok (.istore_n 3, 1) := by decide +kernel
theorem dX12_finer_57 : decode cX12_finer 57 = .ok (.iinc 4 1, 3) := by decide +kernel
theorem dX12_finer_60 : decode cX12_finer 60 = .ok (.goto (-37), 3) := by decide +kernel
theorem dX12_finer_63 : decode cX12_finer 63 = .ok (.iload_n 3, 1) := by decide +kernel
theorem dX12_finer_64 : decode cX12_finer 64 = .ok (.ireturn, 1) := by decide +kernel
theorem dX12_stepFrom_0 : decode cX12_stepFrom 0 = .ok (.iload_n 1, 1) := by decide +kernel
theorem dX12_stepFrom_1 : decode cX12_stepFrom 1 = .ok (.iload_n 3, 1) := by decide +kernel
theorem dX12_stepFrom_2 : decode cX12_stepFrom 2 = .ok (.iadd, 1) := by decide +kernel
theorem dX12_stepFrom_3 : decode cX12_stepFrom 3 = .ok (.istore 4, 2) := by decide +kernel
theorem dX12_stepFrom_5 : decode cX12_stepFrom 5 = .ok (.iload 4, 2) := by decide +kernel
theorem dX12_stepFrom_7 : decode cX12_stepFrom 7 = .ok (.ifCond .lt 42, 3) := by decide +kernel
theorem dX12_stepFrom_10 : decode cX12_stepFrom 10 = .ok (.iload 4, 2) := by decide +kernel
theorem dX12_stepFrom_12 : decode cX12_stepFrom 12 = .ok (.aload_n 0, 1) := by decide +kernel
theorem dX12_stepFrom_13 : decode cX12_stepFrom 13 = .ok (.getfield 175, 3) := by decide +kernel
theorem dX12_stepFrom_16 : decode cX12_stepFrom 16 = .ok (.if_icmp .ge 33, 3) := by decide +kernel
theorem dX12_stepFrom_19 : decode cX12_stepFrom 19 = .ok (.aload_n 0, 1) := by decide +kernel
theorem dX12_stepFrom_20 : decode cX12_stepFrom 20 = .ok (.aload_n 0, 1) := by decide +kernel
theorem dX12_stepFrom_21 : decode cX12_stepFrom 21 = .ok (.getfield 61, 3) := by decide +kernel
theorem dX12_stepFrom_24 : decode cX12_stepFrom 24 = .ok (.iload 4, 2) := by decide +kernel
theorem dX12_stepFrom_26 : decode cX12_stepFrom 26 = .ok (.iaload, 1) := by decide +kernel
theorem dX12_stepFrom_27 : decode cX12_stepFrom 27 = .ok (.aload_n 0, 1) := by decide +kernel
theorem dX12_stepFrom_28 : decode cX12_stepFrom 28 = .ok (.getfield 61, 3) := by decide +kernel
theorem dX12_stepFrom_31 : decode cX12_stepFrom 31 = .ok (.iload_n 1, 1) := by decide +kernel
theorem dX12_stepFrom_32 : decode cX12_stepFrom 32 = .ok (.iaload, 1) := by decide +kernel
theorem dX12_stepFrom_33 : decode cX12_stepFrom 33 = .ok (.iload_n 2, 1) := by decide +kernel
theorem dX12_stepFrom_34 : decode cX12_stepFrom 34 = .ok (.invokevirtual 181, 3) := by decide +kernel
theorem dX12_stepFrom_37 : decode cX12_stepFrom 37 = .ok (.ifCond .ne 12, 3) := by decide +kernel
theorem dX12_stepFrom_40 : decode cX12_stepFrom 40 = .ok (.iload 4, 2) := by decide +kernel
theorem dX12_stepFrom_42 : decode cX12_stepFrom 42 = .ok (.iload_n 3, 1) := by decide +kernel
theorem dX12_stepFrom_43 : decode cX12_stepFrom 43 = .ok (.iadd, 1) := by decide +kernel
theorem dX12_stepFrom_44 : decode cX12_stepFrom 44 = .ok (.istore 4, 2) := by decide +kernel
theorem dX12_stepFrom_46 : decode cX12_stepFrom 46 = .ok (.goto (-41), 3) := by decide +kernel
theorem dX12_stepFrom_49 : decode cX12_stepFrom 49 = .ok (.iload 4, 2) := by decide +kernel
theorem dX12_stepFrom_51 : decode cX12_stepFrom 51 = .ok (.ifCond .lt 17, 3) := by decide +kernel
theorem dX12_stepFrom_54 : decode cX12_stepFrom 54 = .ok (.iload 4, 2) := by decide +kernel
theorem dX12_stepFrom_56 : decode cX12_stepFrom 56 = .ok (.aload_n 0, 1) := by decide +kernel
theorem dX12_stepFrom_57 : decode cX12_stepFrom 57 = .ok (.getfield 175, 3) := by decide +kernel
theorem dX12_stepFrom_60 : decode cX12_stepFrom 60 = .ok (.if_icmp .ge 8, 3) := by decide +kernel
theorem dX12_stepFrom_63 : decode cX12_stepFrom 63 = .ok (.iload 4, 2) := by decide +kernel
theorem dX12_stepFrom_65 : decode cX12_stepFrom 65 = .ok (.goto 5, 3) := by decide +kernel
theorem dX12_stepFrom_68 : decode cX12_stepFrom 68 = .ok (.bipush (-9), 2) := by decide +kernel
theorem dX12_stepFrom_70 : decode cX12_stepFrom 70 = .ok (.ireturn, 1) := by decide +kernel
theorem dX12_two_0 : decode cX12_two 0 = .ok (.iload_n 3, 1) := by decide +kernel
theorem dX12_two_1 : decode cX12_two 1 = .ok (.iconst 0, 1) := by decide +kernel
theorem dX12_two_2 : decode cX12_two 2 = .ok (.iconst 1, 1) := by decide +kernel
theorem dX12_two_3 : decode cX12_two 3 = .ok (.invokestatic 96, 3) := by decide +kernel
theorem dX12_two_6 : decode cX12_two 6 = .ok (.ifCond .ne 10, 3) := by decide +kernel
theorem dX12_two_9 : decode cX12_two 9 = .ok (.aload_n 0, 1) := by decide +kernel
theorem dX12_two_10 : decode cX12_two 10 = .ok (.bipush (-2), 2) := by decide +kernel
theorem dX12_two_12 : decode cX12_two 12 = .ok (.invokevirtual 85, 3) := by decide +kernel
theorem dX12_two_15 : decode cX12_two 15 = .ok (.ireturn, 1) := by decide +kernel
theorem dX12_two_16 : decode cX12_two 16 = .ok (.iload_n 1, 1) := by decide +kernel
theorem dX12_two_17 : decode cX12_two 17 = .ok (.iconst 1, 1) := by decide +kernel
theorem dX12_two_18 : decode cX12_two 18 = .ok (.if_icmp .lt 8, 3) := by decide +kernel
theorem dX12_two_21 : decode cX12_two 21 = .ok (.iload_n 2, 1) := by decide +kernel
theorem dX12_two_22 : decode cX12_two 22 = .ok (.iconst 1, 1) := by decide +kernel
theorem dX12_two_23 : decode cX12_two 23 = .ok (.if_icmp .ge 8, 3) := by decide +kernel
theorem dX12_two_26 : decode cX12_two 26 = .ok (.bipush (-4), 2) := by decide +kernel
theorem dX12_two_28 : decode cX12_two 28 = .ok (.goto 21, 3) := by decide +kernel
theorem dX12_two_31 : decode cX12_two 31 = .ok (.iload_n 1, 1) := by decide +kernel
theorem dX12_two_32 : decode cX12_two 32 = .ok (.bipush 9, 2) := by decide +kernel
theorem dX12_two_34 : decode cX12_two 34 = .ok (.if_icmp .gt 9, 3) := by decide +kernel
theorem dX12_two_37 : decode cX12_two 37 = .ok (.iload_n 2, 1) := by decide +kernel
theorem dX12_two_38 : decode cX12_two 38 = .ok (.bipush 9, 2) := by decide +kernel
theorem dX12_two_40 : decode cX12_two 40 = .ok (.if_icmp .le 8, 3) := by decide +kernel
theorem dX12_two_43 : decode cX12_two 43 = .ok (.bipush (-6), 2) := by decide +kernel
theorem dX12_two_45 : decode cX12_two 45 = .ok (.goto 4, 3) := by decide +kernel
theorem dX12_two_48 : decode cX12_two 48 = .ok (.iconst 0, 1) := by decide +kernel
theorem dX12_two_49 : decode cX12_two 49 = .ok (.istore 4, 2) := by decide +kernel
theorem dX12_two_51 : decode cX12_two 51 = .ok (.iload 4, 2) := by decide +kernel
theorem dX12_two_53 : decode cX12_two 53 = .ok (.ifCond .eq 10, 3) := by decide +kernel
theorem dX12_two_56 : decode cX12_two 56 = .ok (.aload_n 0, 1) := by decide +kernel
theorem dX12_two_57 : decode cX12_two 57 = .ok (.iload 4, 2) := by decide +kernel
theorem dX12_two_59 : decode cX12_two 59 = .ok (.invokevirtual 85, 3) := by decide +kernel
theorem dX12_two_62 : decode cX12_two 62 = .ok (.ireturn, 1) := by decide +kernel
theorem dX12_two_63 : decode cX12_two 63 = .ok (.aload_n 0, 1) := by decide +kernel
theorem dX12_two_64 : decode cX12_two 64 = .ok (.bipush (-9), 2) := by decide +kernel
theorem dX12_two_66 : decode cX12_two 66 = .ok (.iconst 1, 1) := by decide +kernel
theorem dX12_two_67 : decode cX12_two 67 = .ok (.invokevirtual 184, 3) := by decide +kernel
theorem dX12_two_70 : decode cX12_two 70 = .ok (.iconst 0, 1) := by decide +kernel
theorem dX12_two_71 : decode cX12_two 71 = .ok (.istore 5, 2) := by decide +kernel
theorem dX12_two_73 : decode cX12_two 73 = .ok (.aload_n 0, 1) := by decide +kernel
theorem dX12_two_74 : decode cX12_two 74 = .ok (.getfield 175, 3) := by decide +kernel
theorem dX12_two_77 : decode cX12_two 77 = .ok (.iconst 1, 1) := by decide +kernel
theorem dX12_two_78 : decode cX12_two 78 = .ok (.isub, 1) := by decide +kernel
theorem dX12_two_79 : decode cX12_two 79 = .ok (.istore 6, 2) := by decide +kernel
theorem dX12_two_81 : decode cX12_two 81 = .ok (.iconst 0, 1) := by decide +kernel
theorem dX12_two_82 : decode cX12_two 82 = .ok (.istore 7, 2) := by decide +kernel
theorem dX12_two_84 : decode cX12_two 84 = .ok (.iconst 0, 1) := by decide +kernel
theorem dX12_two_85 : decode cX12_two 85 = .ok (.istore 8, 2) := by decide +kernel
theorem dX12_two_87 : decode cX12_two 87 = .ok (.iconst 1, 1) := by decide +kernel
theorem dX12_two_88 : decode cX12_two 88 = .ok (.istore 9, 2) := by decide +kernel
theorem dX12_two_90 : decode cX12_two 90 = .ok (.iconst 1, 1) := by decide +kernel
theorem dX12_two_91 : decode cX12_two 91 = .ok (.istore 10, 2) := by decide +kernel
theorem dX12_two_93 : decode cX12_two 93 = .ok (.iload 9, 2) := by decide +kernel
theorem dX12_two_95 : decode cX12_two 95 = .ok (.ifCond .ne 8, 3) := by decide +kernel
theorem dX12_two_98 : decode cX12_two 98 = .ok (.iload 10, 2) := by decide +kernel
theorem dX12_two_100 : decode cX12_two 100 = .ok (.ifCond .eq 132, 3) := by decide +kernel
theorem dX12_two_103 : decode cX12_two 103 = .ok (.iload 9, 2) := by decide +kernel
theorem dX12_two_105 : decode cX12_two 105 = .ok (.ifCond .eq 61, 3) := by decide +kernel
theorem dX12_two_108 : decode cX12_two 108 = .ok (.aload_n 0, 1) := by decide +kernel
theorem dX12_two_109 : decode cX12_two 109 = .ok (.iload 5, 2) := by decide +kernel
theorem dX12_two_111 : decode cX12_two 111 = .ok (.iload_n 1, 1) := by decide +kernel
theorem dX12_two_112 : decode cX12_two 112 = .ok (.iconst 1, 1) := by decide +kernel
theorem dX12_two_113 : decode cX12_two 113 = .ok (.invokevirtual 204, 3) := by decide +kernel
theorem dX12_two_116 : decode cX12_two 116 = .ok (.istore 11, 2) := by decide +kernel
theorem dX12_two_118 : decode cX12_two 118 = .ok (.iload 11, 2) := by decide +kernel
theorem dX12_two_120 : decode cX12_two 120 = .ok (.ifCond .lt 14, 3) := by decide +kernel
theorem dX12_two_123 : decode cX12_two 123 = .ok (.iload 11, 2) := by decide +kernel
theorem dX12_two_125 : decode cX12_two 125 = .ok (.iload 6, 2) := by decide +kernel
theorem dX12_two_127 : decode cX12_two 127 = .ok (.if_icmp .ge 7, 3) := by decide +kernel
theorem dX12_two_130 : decode cX12_two 130 = .ok (.iconst 1, 1) := by decide +kernel
theorem dX12_two_131 : decode cX12_two 131 = .ok (.goto 4, 3) := by decide +kernel
theorem dX12_two_134 : decode cX12_two 134 = .ok (.iconst 0, 1) := by decide +kernel
theorem dX12_two_135 : decode cX12_two 135 = .ok (.istore 9, 2) := by decide +kernel
theorem dX12_two_137 : decode cX12_two 137 = .ok (.iload 9, 2) := by decide +kernel
theorem dX12_two_139 : decode cX12_two 139 = .ok (.ifCond .eq 8, 3) := by decide +kernel
theorem dX12_two_142 : decode cX12_two 142 = .ok (.iload 11, 2) := by decide +kernel
theorem dX12_two_144 : decode cX12_two 144 = .ok (.goto 5, 3) := by decide +kernel
theorem dX12_two_147 : decode cX12_two 147 = .ok (.iload 5, 2) := by decide +kernel
theorem dX12_two_149 : decode cX12_two 149 = .ok (.istore 5, 2) := by decide +kernel
theorem dX12_two_151 : decode cX12_two 151 = .ok (.iload 7, 2) := by decide +kernel
theorem dX12_two_153 : decode cX12_two 153 = .ok (.iload 9, 2) := by decide +kernel
theorem dX12_two_155 : decode cX12_two 155 = .ok (.ifCond .eq 7, 3) := by decide +kernel
theorem dX12_two_158 : decode cX12_two 158 = .ok (.iload_n 1, 1) := by decide +kernel
theorem dX12_two_159 : decode cX12_two 159 = .ok (.goto 4, 3) := by decide +kernel
theorem dX12_two_162 : decode cX12_two 162 = .ok (.iconst 0, 1) := by decide +kernel
theorem dX12_two_163 : decode cX12_two 163 = .ok (.iadd, 1) := by decide +kernel
theorem dX12_two_164 : decode cX12_two 164 = .ok (.istore 7, 2) := by decide +kernel
theorem dX12_two_166 : decode cX12_two 166 = .ok (.iload 10, 2) := by decide +kernel
theorem dX12_two_168 : decode cX12_two 168 = .ok (.ifCond .eq (-75), 3) := by decide +kernel
theorem dX12_two_171 : decode cX12_two 171 = .ok (.aload_n 0, 1) := by decide +kernel
theorem dX12_two_172 : decode cX12_two 172 = .ok (.iload 6, 2) := by decide +kernel
theorem dX12_two_174 : decode cX12_two 174 = .ok (.iload_n 2, 1) := by decide +kernel
theorem dX12_two_175 : decode cX12_two 175 = .ok (.iconst (-1), 1) := by decide +kernel
theorem dX12_two_176 : decode cX12_two 176 = .ok (.invokevirtual 204, 3) := by decide +kernel
theorem dX12_two_179 : decode cX12_two 179 = .ok (.istore 11, 2) := by decide +kernel
theorem dX12_two_181 : decode cX12_two 181 = .ok (.iload 11, 2) := by decide +kernel
theorem dX12_two_183 : decode cX12_two 183 = .ok (.ifCond .lt 14, 3) := by decide +kernel
theorem dX12_two_186 : decode cX12_two 186 = .ok (.iload 11, 2) := by decide +kernel
theorem dX12_two_188 : decode cX12_two 188 = .ok (.iload 5, 2) := by decide +kernel
theorem dX12_two_190 : decode cX12_two 190 = .ok (.if_icmp .le 7, 3) := by decide +kernel
theorem dX12_two_193 : decode cX12_two 193 = .ok (.iconst 1, 1) := by decide +kernel
theorem dX12_two_194 : decode cX12_two 194 = .ok (.goto 4, 3) := by decide +kernel
theorem dX12_two_197 : decode cX12_two 197 = .ok (.iconst 0, 1) := by decide +kernel
theorem dX12_two_198 : decode cX12_two 198 = .ok (.istore 10, 2) := by decide +kernel
theorem dX12_two_200 : decode cX12_two 200 = .ok (.iload 10, 2) := by decide +kernel
theorem dX12_two_202 : decode cX12_two 202 = .ok (.ifCond .eq 8, 3) := by decide +kernel
theorem dX12_two_205 : decode cX12_two 205 = .ok (.iload 11, 2) := by decide +kernel
theorem dX12_two_207 : decode cX12_two 207 = .ok (.goto 5, 3) := by decide +kernel
theorem dX12_two_210 : decode cX12_two 210 = .ok (.iload 6, 2) := by decide +kernel
theorem dX12_two_212 : decode cX12_two 212 = .ok (.istore 6, 2) := by decide +kernel
theorem dX12_two_214 : decode cX12_two 214 = .ok (.iload 8, 2) := by decide +kernel
theorem dX12_two_216 : decode cX12_two 216 = .ok (.iload 10, 2) := by decide +kernel
theorem dX12_two_218 : decode cX12_two 218 = .ok (.ifCond .eq 7, 3) := by decide +kernel
theorem dX12_two_221 : decode cX12_two 221 = .ok (.iload_n 2, 1) := by decide +kernel
theorem dX12_two_222 : decode cX12_two 222 = .ok (.goto 4, 3) := by decide +kernel
theorem dX12_two_225 : decode cX12_two 225 = .ok (.iconst 0, 1) := by decide +kernel
theorem dX12_two_226 : decode cX12_two 226 = .ok (.iadd, 1) := by decide +kernel
theorem dX12_two_227 : decode cX12_two 227 = .ok (.istore 8, 2) := by decide +kernel
theorem dX12_two_229 : decode cX12_two 229 = .ok (.goto (-136), 3) := by decide +kernel
theorem dX12_two_232 : decode cX12_two 232 = .ok (.iload_n 3, 1) := by decide +kernel
theorem dX12_two_233 : decode cX12_two 233 = .ok (.ifCond .ne 8, 3) := by decide +kernel
theorem dX12_two_236 : decode cX12_two 236 = .ok (.iload 7, 2) := by decide +kernel
theorem dX12_two_238 : decode cX12_two 238 = .ok (.goto 5, 3) := by decide +kernel
theorem dX12_two_241 : decode cX12_two 241 = .ok (.iload 8, 2) := by decide +kernel
theorem dX12_two_243 : decode cX12_two 243 = .ok (.ireturn, 1) := by decide +kernel
theorem dX12_map_0 : decode cX12_map 0 = .ok (.iload_n 2, 1) := by decide +kernel
theorem dX12_map_1 : decode cX12_map 1 = .ok (.iconst 0, 1) := by decide +kernel
theorem dX12_map_2 : decode cX12_map 2 = .ok (.iconst 1, 1) := by decide +kernel
theorem dX12_map_3 : decode cX12_map 3 = .ok (.invokestatic 96, 3) := by decide +kernel
theorem dX12_map_6 : decode cX12_map 6 = .ok (.ifCond .ne 10, 3) := by decide +kernel
theorem dX12_map_9 : decode cX12_map 9 = .ok (.aload_n 0, 1) := by decide +kernel
theorem dX12_map_10 : decode cX12_map 10 = .ok (.bipush (-2), 2) := by decide +kernel
theorem dX12_map_12 : decode cX12_map 12 = .ok (.invokevirtual 85, 3) := by decide +kernel
theorem dX12_map_15 : decode cX12_map 15 = .ok (.ireturn, 1) := by decide +kernel
theorem dX12_map_16 : decode cX12_map 16 = .ok (.iload_n 1, 1) := by decide +kernel
theorem dX12_map_17 : decode cX12_map 17 = .ok (.ifCond .ge 10, 3) := by decide +kernel
theorem dX12_map_20 : decode cX12_map 20 = .ok (.aload_n 0, 1) := by decide +kernel
theorem dX12_map_21 : decode cX12_map 21 = .ok (.bipush (-4), 2) := by decide +kernel
theorem dX12_map_23 : decode cX12_map 23 = .ok (.invokevirtual 85, 3) := by decide +kernel
theorem dX12_map_26 : decode cX12_map 26 = .ok (.ireturn, 1) := by decide +kernel
theorem dX12_map_27 : decode cX12_map 27 = .ok (.aload_n 0, 1) := by decide +kernel
theorem dX12_map_28 : decode cX12_map 28 = .ok (.getfield 129, 3) := by decide +kernel
theorem dX12_map_31 : decode cX12_map 31 = .ok (.istore_n 3, 1) := by decide +kernel
theorem dX12_map_32 : decode cX12_map 32 = .ok (.iconst 0, 1) := by decide +kernel
theorem dX12_map_33 : decode cX12_map 33 = .ok (.istore 4, 2) := by decide +kernel
theorem dX12_map_35 : decode cX12_map 35 = .ok (.bipush (-9), 2) := by decide +kernel
theorem dX12_map_37 : decode cX12_map 37 = .ok (.istore 5, 2) := by decide +kernel
theorem dX12_map_39 : decode cX12_map 39 = .ok (.iconst 0, 1) := by decide +kernel
theorem dX12_map_40 : decode cX12_map 40 = .ok (.istore 6, 2) := by decide +kernel
theorem dX12_map_42 : decode cX12_map 42 = .ok (.iload 6, 2) := by decide +kernel
theorem dX12_map_44 : decode cX12_map 44 = .ok (.sipush 900, 3) := by decide +kernel
theorem dX12_map_47 : decode cX12_map 47 = .ok (.if_icmp .ge 64, 3) := by decide +kernel
theorem dX12_map_50 : decode cX12_map 50 = .ok (.aload_n 0, 1) := by decide +kernel
theorem dX12_map_51 : decode cX12_map 51 = .ok (.iload 6, 2) := by decide +kernel
theorem dX12_map_53 : decode cX12_map 53 = .ok (.bipush 10, 2) := by decide +kernel
theorem dX12_map_55 : decode cX12_map 55 = .ok (.irem, 1) := by decide +kernel
theorem dX12_map_56 : decode cX12_map 56 = .ok (.putfield 129, 3) := by decide +kernel
theorem dX12_map_59 : decode cX12_map 59 = .ok (.aload_n 0, 1) := by decide +kernel
theorem dX12_map_60 : decode cX12_map 60 = .ok (.iconst 1, 1) := by decide +kernel
theorem dX12_map_61 : decode cX12_map 61 = .ok (.iload 6, 2) := by decide +kernel
theorem dX12_map_63 : decode cX12_map 63 = .ok (.bipush 100, 2) := by decide +kernel
theorem dX12_map_65 : decode cX12_map 65 = .ok (.idiv, 1) := by decide +kernel
theorem dX12_map_66 : decode cX12_map 66 = .ok (.iadd, 1) := by decide +kernel
theorem dX12_map_67 : decode cX12_map 67 = .ok (.iload 6, 2) := by decide +kernel
theorem dX12_map_69 : decode cX12_map 69 = .ok (.bipush 10, 2) := by decide +kernel
theorem dX12_map_71 : decode cX12_map 71 = .ok (.idiv, 1) := by decide +kernel
theorem dX12_map_72 : decode cX12_map 72 = .ok (.bipush 10, 2) := by decide +kernel
theorem dX12_map_74 : decode cX12_map 74 = .ok (.irem, 1) := by decide +kernel
theorem dX12_map_75 : decode cX12_map 75 = .ok (.invokevirtual 192, 3) := by decide +kernel
theorem dX12_map_78 : decode cX12_map 78 = .ok (.iload_n 1, 1) := by decide +kernel
theorem dX12_map_79 : decode cX12_map 79 = .ok (.if_icmp .eq 6, 3) := by decide +kernel
theorem dX12_map_82 : decode cX12_map 82 = .ok (.goto 23, 3) := by decide +kernel
theorem dX12_map_85 : decode cX12_map 85 = .ok (.iload 4, 2) := by decide +kernel
theorem dX12_map_87 : decode cX12_map 87 = .ok (.ifCond .ne 11, 3) := by decide +kernel
theorem dX12_map_90 : decode cX12_map 90 = .ok (.bipush 100, 2) := by decide +kernel
theorem dX12_map_92 : decode cX12_map 92 = .ok (.iload 6, 2) := by decide +kernel
theorem dX12_map_94 : decode cX12_map 94 = .ok (.iadd, 1) := by decide +kernel
theorem dX12_map_95 : decode cX12_map 95 = .ok (.goto 5, 3) := by decide +kernel
theorem dX12_map_98 : decode cX12_map 98 = .ok (.iload 5, 2) := by decide +kernel
theorem dX12_map_100 : decode cX12_map 100 = .ok (.istore 5, 2) := by decide +kernel
theorem dX12_map_102 : decode cX12_map 102 = .ok (.iinc 4 1, 3) := by decide +kernel
theorem dX12_map_105 : decode cX12_map 105 = .ok (.iinc 6 1, 3) := by decide +kernel
theorem dX12_map_108 : decode cX12_map 108 = .ok (.goto (-66), 3) := by decide +kernel
theorem dX12_map_111 : decode cX12_map 111 = .ok (.aload_n 0, 1) := by decide +kernel
theorem dX12_map_112 : decode cX12_map 112 = .ok (.iload_n 3, 1) := by decide +kernel
theorem dX12_map_113 : decode cX12_map 113 = .ok (.putfield 129, 3) := by decide +kernel
theorem dX12_map_116 : decode cX12_map 116 = .ok (.iload_n 2, 1) := by decide +kernel
theorem dX12_map_117 : decode cX12_map 117 = .ok (.ifCond .ne 8, 3) := by decide +kernel
theorem dX12_map_120 : decode cX12_map 120 = .ok (.iload 4, 2) := by decide +kernel
theorem dX12_map_122 : decode cX12_map 122 = .ok (.goto 5, 3) := by decide +kernel
theorem dX12_map_125 : decode cX12_map 125 = .ok (.iload 5, 2) := by decide +kernel
theorem dX12_map_127 : decode cX12_map 127 = .ok (.ireturn, 1) := by decide +kernel
theorem dX12_isIsland_0 : decode cX12_isIsland 0 = .ok (.iload_n 2, 1) := by decide +kernel
theorem dX12_isIsland_1 : decode cX12_isIsland 1 = .ok (.aload_n 0, 1) := by decide +kernel
theorem dX12_isIsland_2 : decode cX12_isIsland 2 = .ok (.getfield 40, 3) := by decide +kernel
theorem dX12_isIsland_5 : decode cX12_isIsland 5 = .ok (.iload_n 1, 1) := by decide +kernel
theorem dX12_isIsland_6 : decode cX12_isIsland 6 = .ok (.iaload, 1) := by decide +kernel
theorem dX12_isIsland_7 : decode cX12_isIsland 7 = .ok (.if_icmp .lt 17, 3) := by decide +kernel
theorem dX12_isIsland_10 : decode cX12_isIsland 10 = .ok (.iload_n 2, 1) := by decide +kernel
theorem dX12_isIsland_11 : decode cX12_isIsland 11 = .ok (.aload_n 0, 1) := by decide +kernel
theorem dX12_isIsland_12 : decode cX12_isIsland 12 = .ok (.getfield 43, 3) := by decide +kernel
theorem dX12_isIsland_15 : decode cX12_isIsland 15 = .ok (.iload_n 1, 1) := by decide +kernel
theorem dX12_isIsland_16 : decode cX12_isIsland 16 = .ok (.iaload, 1) := by decide +kernel
theorem dX12_isIsland_17 : decode cX12_isIsland 17 = .ok (.if_icmp .gt 7, 3) := by decide +kernel
theorem dX12_isIsland_20 : decode cX12_isIsland 20 = .ok (.iconst 1, 1) := by decide +kernel
theorem dX12_isIsland_21 : decode cX12_isIsland 21 = .ok (.goto 4, 3) := by decide +kernel
theorem dX12_isIsland_24 : decode cX12_isIsland 24 = .ok (.iconst 0, 1) := by decide +kernel
theorem dX12_isIsland_25 : decode cX12_isIsland 25 = .ok (.ireturn, 1) := by decide +kernel
theorem dX12_rock_0 : decode cX12_rock 0 = .ok (.iload_n 1, 1) := by decide +kernel
theorem dX12_rock_1 : decode cX12_rock 1 = .ok (.iconst 0, 1) := by decide +kernel
theorem dX12_rock_2 : decode cX12_rock 2 = .ok (.aload_n 0, 1) := by decide +kernel
theorem dX12_rock_3 : decode cX12_rock 3 = .ok (.getfield 120, 3) := by decide +kernel
theorem dX12_rock_6 : decode cX12_rock 6 = .ok (.iconst 1, 1) := by decide +kernel
theorem dX12_rock_7 : decode cX12_rock 7 = .ok (.isub, 1) := by decide +kernel
theorem dX12_rock_8 : decode cX12_rock 8 = .ok (.invokestatic 96, 3) := by decide +kernel
theorem dX12_rock_11 : decode cX12_rock 11 = .ok (.ifCond .ne 9, 3) := by decide +kernel
theorem dX12_rock_14 : decode cX12_rock 14 = .ok (.aload_n 0, 1) := by decide +kernel
theorem dX12_rock_15 : decode cX12_rock 15 = .ok (.iconst (-1), 1) := by decide +kernel
theorem dX12_rock_16 : decode cX12_rock 16 = .ok (.invokevirtual 85, 3) := by decide +kernel
theorem dX12_rock_19 : decode cX12_rock 19 = .ok (.ireturn, 1) := by decide +kernel
theorem dX12_rock_20 : decode cX12_rock 20 = .ok (.iload_n 2, 1) := by decide +kernel
theorem dX12_rock_21 : decode cX12_rock 21 = .ok (.tableswitch 81 0 4 #[35, 42, 49, 56, 63], 35) := by decide +kernel
theorem dX12_rock_56 : decode cX12_rock 56 = .ok (.aload_n 0, 1) := by decide +kernel
theorem dX12_rock_57 : decode cX12_rock 57 = .ok (.getfield 34, 3) := by decide +kernel
theorem dX12_rock_60 : decode cX12_rock 60 = .ok (.iload_n 1, 1) := by decide +kernel
theorem dX12_rock_61 : decode cX12_rock 61 = .ok (.iaload, 1) := by decide +kernel
theorem dX12_rock_62 : decode cX12_rock 62 = .ok (.ireturn, 1) := by decide +kernel
theorem dX12_rock_63 : decode cX12_rock 63 = .ok (.aload_n 0, 1) := by decide +kernel
theorem dX12_rock_64 : decode cX12_rock 64 = .ok (.getfield 37, 3) := by decide +kernel
theorem dX12_rock_67 : decode cX12_rock 67 = .ok (.iload_n 1, 1) := by decide +kernel
theorem dX12_rock_68 : decode cX12_rock 68 = .ok (.iaload, 1) := by decide +kernel
theorem dX12_rock_69 : decode cX12_rock 69 = .ok (.ireturn, 1) := by decide +kernel
theorem dX12_rock_70 : decode cX12_rock 70 = .ok (.aload_n 0, 1) := by decide +kernel
theorem dX12_rock_71 : decode cX12_rock 71 = .ok (.getfield 40, 3) := by decide +kernel
theorem dX12_rock_74 : decode cX12_rock 74 = .ok (.iload_n 1, 1) := by decide +kernel
theorem dX12_rock_75 : decode cX12_rock 75 = .ok (.iaload, 1) := by decide +kernel
theorem dX12_rock_76 : decode cX12_rock 76 = .ok (.ireturn, 1) := by decide +kernel
theorem dX12_rock_77 : decode cX12_rock 77 = .ok (.aload_n 0, 1) := by decide +kernel
theorem dX12_rock_78 : decode cX12_rock 78 = .ok (.getfield 43, 3) := by decide +kernel
theorem dX12_rock_81 : decode cX12_rock 81 = .ok (.iload_n 1, 1) := by decide +kernel
theorem dX12_rock_82 : decode cX12_rock 82 = .ok (.iaload, 1) := by decide +kernel
theorem dX12_rock_83 : decode cX12_rock 83 = .ok (.ireturn, 1) := by decide +kernel
theorem dX12_rock_84 : decode cX12_rock 84 = .ok (.aload_n 0, 1) := by decide +kernel
theorem dX12_rock_85 : decode cX12_rock 85 = .ok (.iload_n 1, 1) := by decide +kernel
theorem dX12_rock_86 : decode cX12_rock 86 = .ok (.aload_n 0, 1) := by decide +kernel
theorem dX12_rock_87 : decode cX12_rock 87 = .ok (.getfield 129, 3) := by decide +kernel
theorem dX12_rock_90 : decode cX12_rock 90 = .ok (.invokevirtual 207, 3) := by decide +kernel
theorem dX12_rock_93 : decode cX12_rock 93 = .ok (.ifCond .eq 7, 3) := by decide +kernel
theorem dX12_rock_96 : decode cX12_rock 96 = .ok (.iconst 1, 1) := by decide +kernel
theorem dX12_rock_97 : decode cX12_rock 97 = .ok (.goto 4, 3) := by decide +kernel
theorem dX12_rock_100 : decode cX12_rock 100 = .ok (.iconst 0, 1) := by decide +kernel
theorem dX12_rock_101 : decode cX12_rock 101 = .ok (.ireturn, 1) := by decide +kernel
theorem dX12_rock_102 : decode cX12_rock 102 = .ok (.aload_n 0, 1) := by decide +kernel
theorem dX12_rock_103 : decode cX12_rock 103 = .ok (.bipush (-2), 2) := by decide +kernel
theorem dX12_rock_105 : decode cX12_rock 105 = .ok (.invokevirtual 85, 3) := by decide +kernel
theorem dX12_rock_108 : decode cX12_rock 108 = .ok (.ireturn, 1) := by decide +kernel
theorem dX12_islands_0 : decode cX12_islands 0 = .ok (.iconst 0, 1) := by decide +kernel
theorem dX12_islands_1 : decode cX12_islands 1 = .ok (.istore_n 1, 1) := by decide +kernel
theorem dX12_islands_2 : decode cX12_islands 2 = .ok (.iconst 0, 1) := by decide +kernel
theorem dX12_islands_3 : decode cX12_islands 3 = .ok (.istore_n 2, 1) := by decide +kernel
theorem dX12_islands_4 : decode cX12_islands 4 = .ok (.iload_n 2, 1) := by decide +kernel
theorem dX12_islands_5 : decode cX12_islands 5 = .ok (.aload_n 0, 1) := by decide +kernel
theorem dX12_islands_6 : decode cX12_islands 6 = .ok (.getfield 120, 3) := by decide +kernel
theorem dX12_islands_9 : decode cX12_islands 9 = .ok (.if_icmp .ge 31, 3) := by decide +kernel
theorem dX12_islands_12 : decode cX12_islands 12 = .ok (.iload_n 1, 1) := by decide +kernel
theorem dX12_islands_13 : decode cX12_islands 13 = .ok (.aload_n 0, 1) := by decide +kernel
theorem dX12_islands_14 : decode cX12_islands 14 = .ok (.iload_n 2, 1) := by decide +kernel
theorem dX12_islands_15 : decode cX12_islands 15 = .ok (.aload_n 0, 1) := by decide +kernel
theorem dX12_islands_16 : decode cX12_islands 16 = .ok (.getfield 129, 3) := by decide +kernel
theorem dX12_islands_19 : decode cX12_islands 19 = .ok (.invokevirtual 207, 3) := by decide +kernel
theorem dX12_islands_22 : decode cX12_islands 22 = .ok (.ifCond .eq 9, 3) := by decide +kernel
theorem dX12_islands_25 : decode cX12_islands 25 = .ok (.iconst 1, 1) := by decide +kernel
theorem dX12_islands_26 : decode cX12_islands 26 = .ok (.iload_n 2, 1) := by decide +kernel
theorem dX12_islands_27 : decode cX12_islands 27 = .ok (.ishl, 1) := by decide +kernel
theorem dX12_islands_28 : decode cX12_islands 28 = .ok (.goto 4, 3) := by decide +kernel
theorem dX12_islands_31 : decode cX12_islands 31 = .ok (.iconst 0, 1) := by decide +kernel
theorem dX12_islands_32 : decode cX12_islands 32 = .ok (.ior, 1) := by decide +kernel
theorem dX12_islands_33 : decode cX12_islands 33 = .ok (.istore_n 1, 1) := by decide +kernel
theorem dX12_islands_34 : decode cX12_islands 34 = .ok (.iinc 2 1, 3) := by decide +kernel
theorem dX12_islands_37 : decode cX12_islands 37 = .ok (.goto (-33), 3) := by decide +kernel
theorem dX12_islands_40 : decode cX12_islands 40 = .ok (.iload_n 1, 1) := by decide +kernel
theorem dX12_islands_41 : decode cX12_islands 41 = .ok (.ireturn, 1) := by decide +kernel
theorem dX12_areSeen_0 : decode cX12_areSeen 0 = .ok (.iconst 0, 1) := by decide +kernel
theorem dX12_areSeen_1 : decode cX12_areSeen 1 = .ok (.istore_n 2, 1) := by decide +kernel
theorem dX12_areSeen_2 : decode cX12_areSeen 2 = .ok (.iload_n 2, 1) := by decide +kernel
theorem dX12_areSeen_3 : decode cX12_areSeen 3 = .ok (.aload_n 0, 1) := by decide +kernel
theorem dX12_areSeen_4 : decode cX12_areSeen 4 = .ok (.getfield 120, 3) := by decide +kernel
theorem dX12_areSeen_7 : decode cX12_areSeen 7 = .ok (.if_icmp .ge 63, 3) := by decide +kernel
theorem dX12_areSeen_10 : decode cX12_areSeen 10 = .ok (.iconst 0, 1) := by decide +kernel
theorem dX12_areSeen_11 : decode cX12_areSeen 11 = .ok (.istore_n 3, 1) := by decide +kernel
theorem dX12_areSeen_12 : decode cX12_areSeen 12 = .ok (.iconst 0, 1) := by decide +kernel
theorem dX12_areSeen_13 : decode cX12_areSeen 13 = .ok (.istore 4, 2) := by decide +kernel
theorem dX12_areSeen_15 : decode cX12_areSeen 15 = .ok (.iload 4, 2) := by decide +kernel
theorem dX12_areSeen_17 : decode cX12_areSeen 17 = .ok (.bipush 10, 2) := by decide +kernel
theorem dX12_areSeen_19 : decode cX12_areSeen 19 = .ok (.if_icmp .ge 39, 3) := by decide +kernel
theorem dX12_areSeen_22 : decode cX12_areSeen 22 = .ok (.iload_n 3, 1) := by decide +kernel
theorem dX12_areSeen_23 : decode cX12_areSeen 23 = .ok (.ifCond .ne 23, 3) := by decide +kernel
theorem dX12_areSeen_26 : decode cX12_areSeen 26 = .ok (.iload_n 1, 1) := by decide +kernel
theorem dX12_areSeen_27 : decode cX12_areSeen 27 = .ok (.iload 4, 2) := by decide +kernel
theorem dX12_areSeen_29 : decode cX12_areSeen 29 = .ok (.ishr, 1) := by decide +kernel
theorem dX12_areSeen_30 : decode cX12_areSeen 30 = .ok (.iconst 1, 1) := by decide +kernel
theorem dX12_areSeen_31 : decode cX12_areSeen 31 = .ok (.iand, 1) := by decide +kernel
theorem dX12_areSeen_32 : decode cX12_areSeen 32 = .ok (.iconst 1, 1) := by decide +kernel
theorem dX12_areSeen_33 : decode cX12_areSeen 33 = .ok (.if_icmp .ne 17, 3) := by decide +kernel
theorem dX12_areSeen_36 : decode cX12_areSeen 36 = .ok (.aload_n 0, 1) := by decide +kernel
theorem dX12_areSeen_37 : decode cX12_areSeen 37 = .ok (.iload_n 2, 1) := by decide +kernel
theorem dX12_areSeen_38 : decode cX12_areSeen 38 = .ok (.iload 4, 2) := by decide +kernel
theorem dX12_areSeen_40 : decode cX12_areSeen 40 = .ok (.invokevirtual 207, 3) := by decide +kernel
theorem dX12_areSeen_43 : decode cX12_areSeen 43 = .ok (.ifCond .eq 7, 3) := by decide +kernel
theorem dX12_areSeen_46 : decode cX12_areSeen 46 = .ok (.iconst 1, 1) := by decide +kernel
theorem dX12_areSeen_47 : decode cX12_areSeen 47 = .ok (.goto 4, 3) := by decide +kernel
theorem dX12_areSeen_50 : decode cX12_areSeen 50 = .ok (.iconst 0, 1) := by decide +kernel
theorem dX12_areSeen_51 : decode cX12_areSeen 51 = .ok (.istore_n 3, 1) := by decide +kernel
theorem dX12_areSeen_52 : decode cX12_areSeen 52 = .ok (.iinc 4 1, 3) := by decide +kernel
theorem dX12_areSeen_55 : decode cX12_areSeen 55 = .ok (.goto (-40), 3) := by decide +kernel
theorem dX12_areSeen_58 : decode cX12_areSeen 58 = .ok (.iload_n 3, 1) := by decide +kernel
theorem dX12_areSeen_59 : decode cX12_areSeen 59 = .ok (.ifCond .ne 5, 3) := by decide +kernel
theorem dX12_areSeen_62 : decode cX12_areSeen 62 = .ok (.iconst 0, 1) := by decide +kernel
theorem dX12_areSeen_63 : decode cX12_areSeen 63 = .ok (.ireturn, 1) := by decide +kernel
theorem dX12_areSeen_64 : decode cX12_areSeen 64 = .ok (.iinc 2 1, 3) := by decide +kernel
theorem dX12_areSeen_67 : decode cX12_areSeen 67 = .ok (.goto (-65), 3) := by decide +kernel
theorem dX12_areSeen_70 : decode cX12_areSeen 70 = .ok (.iconst 1, 1) := by decide +kernel
theorem dX12_areSeen_71 : decode cX12_areSeen 71 = .ok (.ireturn, 1) := by decide +kernel
theorem dX12_bits_0 : decode cX12_bits 0 = .ok (.iconst 0, 1) := by decide +kernel
theorem dX12_bits_1 : decode cX12_bits 1 = .ok (.istore_n 1, 1) := by decide +kernel
theorem dX12_bits_2 : decode cX12_bits 2 = .ok (.iconst 0, 1) := by decide +kernel
theorem dX12_bits_3 : decode cX12_bits 3 = .ok (.istore_n 2, 1) := by decide +kernel
theorem dX12_bits_4 : decode cX12_bits 4 = .ok (.iload_n 2, 1) := by decide +kernel
theorem dX12_bits_5 : decode cX12_bits 5 = .ok (.bipush 31, 2) := by decide +kernel
theorem dX12_bits_7 : decode cX12_bits 7 = .ok (.if_icmp .ge 17, 3) := by decide +kernel
theorem dX12_bits_10 : decode cX12_bits 10 = .ok (.iload_n 1, 1) := by decide +kernel
theorem dX12_bits_11 : decode cX12_bits 11 = .ok (.iload_n 0, 1) := by decide +kernel
theorem dX12_bits_12 : decode cX12_bits 12 = .ok (.iload_n 2, 1) := by decide +kernel
theorem dX12_bits_13 : decode cX12_bits 13 = .ok (.ishr, 1) := by decide +kernel
theorem dX12_bits_14 : decode cX12_bits 14 = .ok (.iconst 1, 1) := by decide +kernel
theorem dX12_bits_15 : decode cX12_bits 15 = .ok (.iand, 1) := by decide +kernel
theorem dX12_bits_16 : decode cX12_bits 16 = .ok (.iadd, 1) := by decide +kernel
theorem dX12_bits_17 : decode cX12_bits 17 = .ok (.istore_n 1, 1) := by decide +kernel
theorem dX12_bits_18 : decode cX12_bits 18 = .ok (.iinc 2 1, 3) := by decide +kernel
theorem dX12_bits_21 : decode cX12_bits 21 = .ok (.goto (-17), 3) := by decide +kernel
theorem dX12_bits_24 : decode cX12_bits 24 = .ok (.iload_n 1, 1) := by decide +kernel
theorem dX12_bits_25 : decode cX12_bits 25 = .ok (.ireturn, 1) := by decide +kernel
theorem dX12_hours_0 : decode cX12_hours 0 = .ok (.iload_n 1, 1) := by decide +kernel
theorem dX12_hours_1 : decode cX12_hours 1 = .ok (.iconst 0, 1) := by decide +kernel
theorem dX12_hours_2 : decode cX12_hours 2 = .ok (.iconst 1, 1) := by decide +kernel
theorem dX12_hours_3 : decode cX12_hours 3 = .ok (.invokestatic 96, 3) := by decide +kernel
theorem dX12_hours_6 : decode cX12_hours 6 = .ok (.ifCond .ne 10, 3) := by decide +kernel
theorem dX12_hours_9 : decode cX12_hours 9 = .ok (.aload_n 0, 1) := by decide +kernel
theorem dX12_hours_10 : decode cX12_hours 10 = .ok (.bipush (-2), 2) := by decide +kernel
theorem dX12_hours_12 : decode cX12_hours 12 = .ok (.invokevirtual 85, 3) := by decide +kernel
theorem dX12_hours_15 : decode cX12_hours 15 = .ok (.ireturn, 1) := by decide +kernel
theorem dX12_hours_16 : decode cX12_hours 16 = .ok (.sipush 1023, 3) := by decide +kernel
theorem dX12_hours_19 : decode cX12_hours 19 = .ok (.istore_n 2, 1) := by decide +kernel
theorem dX12_hours_20 : decode cX12_hours 20 = .ok (.iload_n 2, 1) := by decide +kernel
theorem dX12_hours_21 : decode cX12_hours 21 = .ok (.istore_n 3, 1) := by decide +kernel
theorem dX12_hours_22 : decode cX12_hours 22 = .ok (.iload_n 3, 1) := by decide +kernel
theorem dX12_hours_23 : decode cX12_hours 23 = .ok (.ifCond .lt 30, 3) := by decide +kernel
theorem dX12_hours_26 : decode cX12_hours 26 = .ok (.iload_n 3, 1) := by decide +kernel
theorem dX12_hours_27 : decode cX12_hours 27 = .ok (.invokestatic 210, 3) := by decide +kernel
theorem dX12_hours_30 : decode cX12_hours 30 = .ok (.iload_n 2, 1) := by decide +kernel
theorem dX12_hours_31 : decode cX12_hours 31 = .ok (.invokestatic 210, 3) := by decide +kernel
theorem dX12_hours_34 : decode cX12_hours 34 = .ok (.if_icmp .gt 13, 3) := by decide +kernel
theorem dX12_hours_37 : decode cX12_hours 37 = .ok (.aload_n 0, 1) := by decide +kernel
theorem dX12_hours_38 : decode cX12_hours 38 = .ok (.iload_n 3, 1) := by decide +kernel
theorem dX12_hours_39 : decode cX12_hours 39 = .ok (.invokevirtual 213, 3) := by decide +kernel
theorem dX12_hours_42 : decode cX12_hours 42 = .ok (.ifCond .eq 5, 3) := by decide +kernel
theorem dX12_hours_45 : decode cX12_hours 45 = .ok (.iload_n 3, 1) := by decide +kernel
theorem dX12_hours_46 : decode cX12_hours 46 = .ok (.istore_n 2, 1) := by decide +kernel
theorem dX12_hours_47 : decode cX12_hours 47 = .ok (.iinc 3 (-1), 3) := by decide +kernel
theorem dX12_hours_50 : decode cX12_hours 50 = .ok (.goto (-28), 3) := by decide +kernel
theorem dX12_hours_53 : decode cX12_hours 53 = .ok (.iload_n 1, 1) := by decide +kernel
theorem dX12_hours_54 : decode cX12_hours 54 = .ok (.ifCond .ne 10, 3) := by decide +kernel
theorem dX12_hours_57 : decode cX12_hours 57 = .ok (.iload_n 2, 1) := by decide +kernel
theorem dX12_hours_58 : decode cX12_hours 58 = .ok (.invokestatic 210, 3) := by decide +kernel
theorem dX12_hours_61 : decode cX12_hours 61 = .ok (.goto 4, 3) := by decide +kernel
theorem dX12_hours_64 : decode cX12_hours 64 = .ok (.iload_n 2, 1) := by decide +kernel
theorem dX12_hours_65 : decode cX12_hours 65 = .ok (.ireturn, 1) := by decide +kernel
theorem dX12_nextOrder_0 : decode cX12_nextOrder 0 = .ok (.aload_n 0, 1) := by decide +kernel
theorem dX12_nextOrder_1 : decode cX12_nextOrder 1 = .ok (.getfield 216, 3) := by decide +kernel
theorem dX12_nextOrder_4 : decode cX12_nextOrder 4 = .ok (.iconst 2, 1) := by decide +kernel
theorem dX12_nextOrder_5 : decode cX12_nextOrder 5 = .ok (.isub, 1) := by decide +kernel
theorem dX12_nextOrder_6 : decode cX12_nextOrder 6 = .ok (.istore_n 1, 1) := by decide +kernel
theorem dX12_nextOrder_7 : decode cX12_nextOrder 7 = .ok (.iload_n 1, 1) := by decide +kernel
theorem dX12_nextOrder_8 : decode cX12_nextOrder 8 = .ok (.ifCond .lt 26, 3) := by decide +kernel
theorem dX12_nextOrder_11 : decode cX12_nextOrder 11 = .ok (.aload_n 0, 1) := by decide +kernel
theorem dX12_nextOrder_12 : decode cX12_nextOrder 12 = .ok (.getfield 67, 3) := by decide +kernel
theorem dX12_nextOrder_15 : decode cX12_nextOrder 15 = .ok (.iload_n 1, 1) := by decide +kernel
theorem dX12_nextOrder_16 : decode cX12_nextOrder 16 = .ok (.iaload, 1) := by decide +kernel
theorem dX12_nextOrder_17 : decode cX12_nextOrder 17 = .ok (.aload_n 0, 1) := by decide +kernel
theorem dX12_nextOrder_18 : decode cX12_nextOrder 18 = .ok (.getfield 67, 3) := by decide +kernel
theorem dX12_nextOrder_21 : decode cX12_nextOrder 21 = .ok (.iload_n 1, 1) := by decide +kernel
theorem dX12_nextOrder_22 : decode cX12_nextOrder 22 = .ok (.iconst 1, 1) := by decide +kernel
theorem dX12_nextOrder_23 : decode cX12_nextOrder 23 = .ok (.iadd, 1) := by decide +kernel
theorem dX12_nextOrder_24 : decode cX12_nextOrder 24 = .ok (.iaload, 1) := by decide +kernel
theorem dX12_nextOrder_25 : decode cX12_nextOrder 25 = .ok (.if_icmp .le 9, 3) := by decide +kernel
theorem dX12_nextOrder_28 : decode cX12_nextOrder 28 = .ok (.iinc 1 (-1), 3) := by decide +kernel
theorem dX12_nextOrder_31 : decode cX12_nextOrder 31 = .ok (.goto (-24), 3) := by decide +kernel
theorem dX12_nextOrder_34 : decode cX12_nextOrder 34 = .ok (.iload_n 1, 1) := by decide +kernel
theorem dX12_nextOrder_35 : decode cX12_nextOrder 35 = .ok (.ifCond .ge 5, 3) := by decide +kernel
theorem dX12_nextOrder_38 : decode cX12_nextOrder 38 = .ok (.iconst 0, 1) := by decide +kernel
theorem dX12_nextOrder_39 : decode cX12_nextOrder 39 = .ok (.ireturn, 1) := by decide +kernel
theorem dX12_nextOrder_40 : decode cX12_nextOrder 40 = .ok (.aload_n 0, 1) := by decide +kernel
theorem dX12_nextOrder_41 : decode cX12_nextOrder 41 = .ok (.getfield 216, 3) := by decide +kernel
theorem dX12_nextOrder_44 : decode cX12_nextOrder 44 = .ok (.iconst 1, 1) := by decide +kernel
theorem dX12_nextOrder_45 : decode cX12_nextOrder 45 = .ok (.isub, 1) := by decide +kernel
theorem dX12_nextOrder_46 : decode cX12_nextOrder 46 = .ok (.istore_n 2, 1) := by decide +kernel
theorem dX12_nextOrder_47 : decode cX12_nextOrder 47 = .ok (.aload_n 0, 1) := by decide +kernel
theorem dX12_nextOrder_48 : decode cX12_nextOrder 48 = .ok (.getfield 67, 3) := by decide +kernel
theorem dX12_nextOrder_51 : decode cX12_nextOrder 51 = .ok (.iload_n 2, 1) := by decide +kernel
theorem dX12_nextOrder_52 : decode cX12_nextOrder 52 = .ok (.iaload, 1) := by decide +kernel
theorem dX12_nextOrder_53 : decode cX12_nextOrder 53 = .ok (.aload_n 0, 1) := by decide +kernel
theorem dX12_nextOrder_54 : decode cX12_nextOrder 54 = .ok (.getfield 67, 3) := by decide +kernel
theorem dX12_nextOrder_57 : decode cX12_nextOrder 57 = .ok (.iload_n 1, 1) := by decide +kernel
theorem dX12_nextOrder_58 : decode cX12_nextOrder 58 = .ok (.iaload, 1) := by decide +kernel
theorem dX12_nextOrder_59 : decode cX12_nextOrder 59 = .ok (.if_icmp .ge 9, 3) := by decide +kernel
theorem dX12_nextOrder_62 : decode cX12_nextOrder 62 = .ok (.iinc 2 (-1), 3) := by decide +kernel
theorem dX12_nextOrder_65 : decode cX12_nextOrder 65 = .ok (.goto (-18), 3) := by decide +kernel
theorem dX12_nextOrder_68 : decode cX12_nextOrder 68 = .ok (.aload_n 0, 1) := by decide +kernel
theorem dX12_nextOrder_69 : decode cX12_nextOrder 69 = .ok (.iload_n 1, 1) := by decide +kernel
theorem dX12_nextOrder_70 : decode cX12_nextOrder 70 = .ok (.iload_n 2, 1) := by decide +kernel
theorem dX12_nextOrder_71 : decode cX12_nextOrder 71 = .ok (.invokevirtual 219, 3) := by decide +kernel
theorem dX12_nextOrder_74 : decode cX12_nextOrder 74 = .ok (.iload_n 1, 1) := by decide +kernel
theorem dX12_nextOrder_75 : decode cX12_nextOrder 75 = .ok (.iconst 1, 1) := by decide +kernel
theorem dX12_nextOrder_76 : decode cX12_nextOrder 76 = .ok (.iadd, 1) := by decide +kernel
theorem dX12_nextOrder_77 : decode cX12_nextOrder 77 = .ok (.istore_n 3, 1) := by decide +kernel
theorem dX12_nextOrder_78 : decode cX12_nextOrder 78 = .ok (.aload_n 0, 1) := by decide +kernel
theorem dX12_nextOrder_79 : decode cX12_nextOrder 79 = .ok (.getfield 216, 3) := by decide +kernel
theorem dX12_nextOrder_82 : decode cX12_nextOrder 82 = .ok (.iconst 1, 1) := by decide +kernel
theorem dX12_nextOrder_83 : decode cX12_nextOrder 83 = .ok (.isub, 1) := by decide +kernel
theorem dX12_nextOrder_84 : decode cX12_nextOrder 84 = .ok (.istore 4, 2) := by decide +kernel
theorem dX12_nextOrder_86 : decode cX12_nextOrder 86 = .ok (.iload_n 3, 1) := by decide +kernel
theorem dX12_nextOrder_87 : decode cX12_nextOrder 87 = .ok (.iload 4, 2) := by decide +kernel
theorem dX12_nextOrder_89 : decode cX12_nextOrder 89 = .ok (.if_icmp .ge 19, 3) := by decide +kernel
theorem dX12_nextOrder_92 : decode cX12_nextOrder 92 = .ok (.aload_n 0, 1) := by decide +kernel
theorem dX12_nextOrder_93 : decode cX12_nextOrder 93 = .ok (.iload_n 3, 1) := by decide +kernel
theorem dX12_nextOrder_94 : decode cX12_nextOrder 94 = .ok (.iload 4, 2) := by decide +kernel
theorem dX12_nextOrder_96 : decode cX12_nextOrder 96 = .ok (.invokevirtual 219, 3) := by decide +kernel
theorem dX12_nextOrder_99 : decode cX12_nextOrder 99 = .ok (.iinc 3 1, 3) := by decide +kernel
theorem dX12_nextOrder_102 : decode cX12_nextOrder 102 = .ok (.iinc 4 (-1), 3) := by decide +kernel
theorem dX12_nextOrder_105 : decode cX12_nextOrder 105 = .ok (.goto (-19), 3) := by decide +kernel
theorem dX12_nextOrder_108 : decode cX12_nextOrder 108 = .ok (.iconst 1, 1) := by decide +kernel
theorem dX12_nextOrder_109 : decode cX12_nextOrder 109 = .ok (.ireturn, 1) := by decide +kernel
theorem dX12_changes_0 : decode cX12_changes 0 = .ok (.aload_n 0, 1) := by decide +kernel
theorem dX12_changes_1 : decode cX12_changes 1 = .ok (.getfield 67, 3) := by decide +kernel
theorem dX12_changes_4 : decode cX12_changes 4 = .ok (.iload_n 1, 1) := by decide +kernel
theorem dX12_changes_5 : decode cX12_changes 5 = .ok (.iaload, 1) := by decide +kernel
theorem dX12_changes_6 : decode cX12_changes 6 = .ok (.istore_n 3, 1) := by decide +kernel
theorem dX12_changes_7 : decode cX12_changes 7 = .ok (.aload_n 0, 1) := by decide +kernel
theorem dX12_changes_8 : decode cX12_changes 8 = .ok (.getfield 67, 3) := by decide +kernel
theorem dX12_changes_11 : decode cX12_changes 11 = .ok (.iload_n 1, 1) := by decide +kernel
theorem dX12_changes_12 : decode cX12_changes 12 = .ok (.aload_n 0, 1) := by decide +kernel
theorem dX12_changes_13 : decode cX12_changes 13 = .ok (.getfield 67, 3) := by decide +kernel
theorem dX12_changes_16 : decode cX12_changes 16 = .ok (.iload_n 2, 1) := by decide +kernel
theorem dX12_changes_17 : decode cX12_changes 17 = .ok (.iaload, 1) := by decide +kernel
theorem dX12_changes_18 : decode cX12_changes 18 = .ok (.iastore, 1) := by decide +kernel
theorem dX12_changes_19 : decode cX12_changes 19 = .ok (.aload_n 0, 1) := by decide +kernel
theorem dX12_changes_20 : decode cX12_changes 20 = .ok (.getfield 67, 3) := by decide +kernel
theorem dX12_changes_23 : decode cX12_changes 23 = .ok (.iload_n 2, 1) := by decide +kernel
theorem dX12_changes_24 : decode cX12_changes 24 = .ok (.iload_n 3, 1) := by decide +kernel
theorem dX12_changes_25 : decode cX12_changes 25 = .ok (.iastore, 1) := by decide +kernel
theorem dX12_changes_26 : decode cX12_changes 26 = .ok (.return_, 1) := by decide +kernel
theorem dX12_apart_0 : decode cX12_apart 0 = .ok (.iload_n 0, 1) := by decide +kernel
theorem dX12_apart_1 : decode cX12_apart 1 = .ok (.iload_n 1, 1) := by decide +kernel
theorem dX12_apart_2 : decode cX12_apart 2 = .ok (.if_icmp .ge 9, 3) := by decide +kernel
theorem dX12_apart_5 : decode cX12_apart 5 = .ok (.iload_n 1, 1) := by decide +kernel
theorem dX12_apart_6 : decode cX12_apart 6 = .ok (.iload_n 0, 1) := by decide +kernel
theorem dX12_apart_7 : decode cX12_apart 7 = .ok (.isub, 1) := by decide +kernel
theorem dX12_apart_8 : decode cX12_apart 8 = .ok (.goto 6, 3) := by decide +kernel
theorem dX12_apart_11 : decode cX12_apart 11 = .ok (.iload_n 0, 1) := by decide +kernel
theorem dX12_apart_12 : decode cX12_apart 12 = .ok (.iload_n 1, 1) := by decide +kernel
theorem dX12_apart_13 : decode cX12_apart 13 = .ok (.isub, 1) := by decide +kernel
theorem dX12_apart_14 : decode cX12_apart 14 = .ok (.ireturn, 1) := by decide +kernel
theorem dX12_wayRound_0 : decode cX12_wayRound 0 = .ok (.iconst 0, 1) := by decide +kernel
theorem dX12_wayRound_1 : decode cX12_wayRound 1 = .ok (.istore_n 1, 1) := by decide +kernel
theorem dX12_wayRound_2 : decode cX12_wayRound 2 = .ok (.iconst 0, 1) := by decide +kernel
theorem dX12_wayRound_3 : decode cX12_wayRound 3 = .ok (.istore_n 2, 1) := by decide +kernel
theorem dX12_wayRound_4 : decode cX12_wayRound 4 = .ok (.iconst 0, 1) := by decide +kernel
theorem dX12_wayRound_5 : decode cX12_wayRound 5 = .ok (.istore_n 3, 1) := by decide +kernel
theorem dX12_wayRound_6 : decode cX12_wayRound 6 = .ok (.iconst 0, 1) := by decide +kernel
theorem dX12_wayRound_7 : decode cX12_wayRound 7 = .ok (.istore 4, 2) := by decide +kernel
theorem dX12_wayRound_9 : decode cX12_wayRound 9 = .ok (.iload 4, 2) := by decide +kernel
theorem dX12_wayRound_11 : decode cX12_wayRound 11 = .ok (.aload_n 0, 1) := by decide +kernel
theorem dX12_wayRound_12 : decode cX12_wayRound 12 = .ok (.getfield 216, 3) := by decide +kernel
theorem dX12_wayRound_15 : decode cX12_wayRound 15 = .ok (.if_icmp .ge 71, 3) := by decide +kernel
theorem dX12_wayRound_18 : decode cX12_wayRound 18 = .ok (.iload_n 1, 1) := by decide +kernel
theorem dX12_wayRound_19 : decode cX12_wayRound 19 = .ok (.iload_n 2, 1) := by decide +kernel
theorem dX12_wayRound_20 : decode cX12_wayRound 20 = .ok (.aload_n 0, 1) := by decide +kernel
theorem dX12_wayRound_21 : decode cX12_wayRound 21 = .ok (.getfield 34, 3) := by decide +kernel
theorem dX12_wayRound_24 : decode cX12_wayRound 24 = .ok (.aload_n 0, 1) := by decide +kernel
theorem dX12_wayRound_25 : decode cX12_wayRound 25 = .ok (.getfield 67, 3) := by decide +kernel
theorem dX12_wayRound_28 : decode cX12_wayRound 28 = .ok (.iload 4, 2) := by decide +kernel
theorem dX12_wayRound_30 : decode cX12_wayRound 30 = .ok (.iaload, 1) := by decide +kernel
theorem dX12_wayRound_31 : decode cX12_wayRound 31 = .ok (.iaload, 1) := by decide +kernel
theorem dX12_wayRound_32 : decode cX12_wayRound 32 = .ok (.invokestatic 222, 3) := by decide +kernel
theorem dX12_wayRound_35 : decode cX12_wayRound 35 = .ok (.iload_n 3, 1) := by decide +kernel
theorem dX12_wayRound_36 : decode cX12_wayRound 36 = .ok (.aload_n 0, 1) := by decide +kernel
theorem dX12_wayRound_37 : decode cX12_wayRound 37 = .ok (.getfield 37, 3) := by decide +kernel
theorem dX12_wayRound_40 : decode cX12_wayRound 40 = .ok (.aload_n 0, 1) := by decide +kernel
theorem dX12_wayRound_41 : decode cX12_wayRound 41 = .ok (.getfield 67, 3) := by decide +kernel
theorem dX12_wayRound_44 : decode cX12_wayRound 44 = .ok (.iload 4, 2) := by decide +kernel
theorem dX12_wayRound_46 : decode cX12_wayRound 46 = .ok (.iaload, 1) := by decide +kernel
theorem dX12_wayRound_47 : decode cX12_wayRound 47 = .ok (.iaload, 1) := by decide +kernel
theorem dX12_wayRound_48 : decode cX12_wayRound 48 = .ok (.invokestatic 222, 3) := by decide +kernel
theorem dX12_wayRound_51 : decode cX12_wayRound 51 = .ok (.iadd, 1) := by decide +kernel
theorem dX12_wayRound_52 : decode cX12_wayRound 52 = .ok (.iadd, 1) := by decide +kernel
theorem dX12_wayRound_53 : decode cX12_wayRound 53 = .ok (.istore_n 1, 1) := by decide +kernel
theorem dX12_wayRound_54 : decode cX12_wayRound 54 = .ok (.aload_n 0, 1) := by decide +kernel
theorem dX12_wayRound_55 : decode cX12_wayRound 55 = .ok (.getfield 34, 3) := by decide +kernel
theorem dX12_wayRound_58 : decode cX12_wayRound 58 = .ok (.aload_n 0, 1) := by decide +kernel
theorem dX12_wayRound_59 : decode cX12_wayRound 59 = .ok (.getfield 67, 3) := by decide +kernel
theorem dX12_wayRound_62 : decode cX12_wayRound 62 = .ok (.iload 4, 2) := by decide +kernel
theorem dX12_wayRound_64 : decode cX12_wayRound 64 = .ok (.iaload, 1) := by decide +kernel
theorem dX12_wayRound_65 : decode cX12_wayRound 65 = .ok (.iaload, 1) := by decide +kernel
theorem dX12_wayRound_66 : decode cX12_wayRound 66 = .ok (.istore_n 2, 1) := by decide +kernel
theorem dX12_wayRound_67 : decode cX12_wayRound 67 = .ok (.aload_n 0, 1) := by decide +kernel
theorem dX12_wayRound_68 : decode cX12_wayRound 68 = .ok (.getfield 37, 3) := by decide +kernel
theorem dX12_wayRound_71 : decode cX12_wayRound 71 = .ok (.aload_n 0, 1) := by decide +kernel
theorem dX12_wayRound_72 : decode cX12_wayRound 72 = .ok (.getfield 67, 3) := by decide +kernel
theorem dX12_wayRound_75 : decode cX12_wayRound 75 = .ok (.iload 4, 2) := by decide +kernel
theorem dX12_wayRound_77 : decode cX12_wayRound 77 = .ok (.iaload, 1) := by decide +kernel
theorem dX12_wayRound_78 : decode cX12_wayRound 78 = .ok (.iaload, 1) := by decide +kernel
theorem dX12_wayRound_79 : decode cX12_wayRound 79 = .ok (.istore_n 3, 1) := by decide +kernel
theorem dX12_wayRound_80 : decode cX12_wayRound 80 = .ok (.iinc 4 1, 3) := by decide +kernel
theorem dX12_wayRound_83 : decode cX12_wayRound 83 = .ok (.goto (-74), 3) := by decide +kernel
theorem dX12_wayRound_86 : decode cX12_wayRound 86 = .ok (.iload_n 1, 1) := by decide +kernel
theorem dX12_wayRound_87 : decode cX12_wayRound 87 = .ok (.iload_n 2, 1) := by decide +kernel
theorem dX12_wayRound_88 : decode cX12_wayRound 88 = .ok (.iadd, 1) := by decide +kernel
theorem dX12_wayRound_89 : decode cX12_wayRound 89 = .ok (.iload_n 3, 1) := by decide +kernel
theorem dX12_wayRound_90 : decode cX12_wayRound 90 = .ok (.iadd, 1) := by decide +kernel
theorem dX12_wayRound_91 : decode cX12_wayRound 91 = .ok (.ireturn, 1) := by decide +kernel
theorem dX12_boat_0 : decode cX12_boat 0 = .ok (.aload_n 0, 1) := by decide +kernel
theorem dX12_boat_1 : decode cX12_boat 1 = .ok (.iconst 0, 1) := by decide +kernel
theorem dX12_boat_2 : decode cX12_boat 2 = .ok (.putfield 216, 3) := by decide +kernel
theorem dX12_boat_5 : decode cX12_boat 5 = .ok (.iconst 0, 1) := by decide +kernel
theorem dX12_boat_6 : decode cX12_boat 6 = .ok (.istore_n 1, 1) := by decide +kernel
theorem dX12_boat_7 : decode cX12_boat 7 = .ok (.iload_n 1, 1) := by decide +kernel
theorem dX12_boat_8 : decode cX12_boat 8 = .ok (.aload_n 0, 1) := by decide +kernel
theorem dX12_boat_9 : decode cX12_boat 9 = .ok (.getfield 120, 3) := by decide +kernel
theorem dX12_boat_12 : decode cX12_boat 12 = .ok (.if_icmp .ge 44, 3) := by decide +kernel
theorem dX12_boat_15 : decode cX12_boat 15 = .ok (.aload_n 0, 1) := by decide +kernel
theorem dX12_boat_16 : decode cX12_boat 16 = .ok (.iload_n 1, 1) := by decide +kernel
theorem dX12_boat_17 : decode cX12_boat 17 = .ok (.aload_n 0, 1) := by decide +kernel
theorem dX12_boat_18 : decode cX12_boat 18 = .ok (.getfield 129, 3) := by decide +kernel
theorem dX12_boat_21 : decode cX12_boat 21 = .ok (.invokevirtual 207, 3) := by decide +kernel
theorem dX12_boat_24 : decode cX12_boat 24 = .ok (.ifCond .ne 6, 3) := by decide +kernel
theorem dX12_boat_27 : decode cX12_boat 27 = .ok (.goto 23, 3) := by decide +kernel
theorem dX12_boat_30 : decode cX12_boat 30 = .ok (.aload_n 0, 1) := by decide +kernel
theorem dX12_boat_31 : decode cX12_boat 31 = .ok (.getfield 67, 3) := by decide +kernel
theorem dX12_boat_34 : decode cX12_boat 34 = .ok (.aload_n 0, 1) := by decide +kernel
theorem dX12_boat_35 : decode cX12_boat 35 = .ok (.getfield 216, 3) := by decide +kernel
theorem dX12_boat_38 : decode cX12_boat 38 = .ok (.iload_n 1, 1) := by decide +kernel
theorem dX12_boat_39 : decode cX12_boat 39 = .ok (.iastore, 1) := by decide +kernel
theorem dX12_boat_40 : decode cX12_boat 40 = .ok (.aload_n 0, 1) := by decide +kernel
theorem dX12_boat_41 : decode cX12_boat 41 = .ok (.dup, 1) := by decide +kernel
theorem dX12_boat_42 : decode cX12_boat 42 = .ok (.getfield 216, 3) := by decide +kernel
theorem dX12_boat_45 : decode cX12_boat 45 = .ok (.iconst 1, 1) := by decide +kernel
theorem dX12_boat_46 : decode cX12_boat 46 = .ok (.iadd, 1) := by decide +kernel
theorem dX12_boat_47 : decode cX12_boat 47 = .ok (.putfield 216, 3) := by decide +kernel
theorem dX12_boat_50 : decode cX12_boat 50 = .ok (.iinc 1 1, 3) := by decide +kernel
theorem dX12_boat_53 : decode cX12_boat 53 = .ok (.goto (-46), 3) := by decide +kernel
theorem dX12_boat_56 : decode cX12_boat 56 = .ok (.aload_n 0, 1) := by decide +kernel
theorem dX12_boat_57 : decode cX12_boat 57 = .ok (.invokevirtual 225, 3) := by decide +kernel
theorem dX12_boat_60 : decode cX12_boat 60 = .ok (.istore_n 1, 1) := by decide +kernel
theorem dX12_boat_61 : decode cX12_boat 61 = .ok (.aload_n 0, 1) := by decide +kernel
theorem dX12_boat_62 : decode cX12_boat 62 = .ok (.invokevirtual 228, 3) := by decide +kernel
theorem dX12_boat_65 : decode cX12_boat 65 = .ok (.ifCond .eq 22, 3) := by decide +kernel
theorem dX12_boat_68 : decode cX12_boat 68 = .ok (.aload_n 0, 1) := by decide +kernel
theorem dX12_boat_69 : decode cX12_boat 69 = .ok (.invokevirtual 225, 3) := by decide +kernel
theorem dX12_boat_72 : decode cX12_boat 72 = .ok (.istore_n 2, 1) := by decide +kernel
theorem dX12_boat_73 : decode cX12_boat 73 = .ok (.iload_n 2, 1) := by decide +kernel
theorem dX12_boat_74 : decode cX12_boat 74 = .ok (.iload_n 1, 1) := by decide +kernel
theorem dX12_boat_75 : decode cX12_boat 75 = .ok (.if_icmp .ge 7, 3) := by decide +kernel
theorem dX12_boat_78 : decode cX12_boat 78 = .ok (.iload_n 2, 1) := by decide +kernel
theorem dX12_boat_79 : decode cX12_boat 79 = .ok (.goto 4, 3) := by decide +kernel
theorem dX12_boat_82 : decode cX12_boat 82 = .ok (.iload_n 1, 1) := by decide +kernel
theorem dX12_boat_83 : decode cX12_boat 83 = .ok (.istore_n 1, 1) := by decide +kernel
theorem dX12_boat_84 : decode cX12_boat 84 = .ok (.goto (-23), 3) := by decide +kernel
theorem dX12_boat_87 : decode cX12_boat 87 = .ok (.iload_n 1, 1) := by decide +kernel
theorem dX12_boat_88 : decode cX12_boat 88 = .ok (.ireturn, 1) := by decide +kernel
theorem dX12_milesWithout_0 : decode cX12_milesWithout 0 = .ok (.aload_n 0, 1) := by decide +kernel
theorem dX12_milesWithout_1 : decode cX12_milesWithout 1 = .ok (.iload_n 1, 1) := by decide +kernel
theorem dX12_milesWithout_2 : decode cX12_milesWithout 2 = .ok (.iconst 1, 1) := by decide +kernel
theorem dX12_milesWithout_3 : decode cX12_milesWithout 3 = .ok (.invokevirtual 184, 3) := by decide +kernel
theorem dX12_milesWithout_6 : decode cX12_milesWithout 6 = .ok (.iload_n 2, 1) := by decide +kernel
theorem dX12_milesWithout_7 : decode cX12_milesWithout 7 = .ok (.aload_n 0, 1) := by decide +kernel
theorem dX12_milesWithout_8 : decode cX12_milesWithout 8 = .ok (.iload_n 2, 1) := by decide +kernel
theorem dX12_milesWithout_9 : decode cX12_milesWithout 9 = .ok (.iconst 0, 1) := by decide +kernel
theorem dX12_milesWithout_10 : decode cX12_milesWithout 10 = .ok (.invokevirtual 188, 3) := by decide +kernel
theorem dX12_milesWithout_13 : decode cX12_milesWithout 13 = .ok (.imul, 1) := by decide +kernel
theorem dX12_milesWithout_14 : decode cX12_milesWithout 14 = .ok (.ireturn, 1) := by decide +kernel
theorem dX12_cut_0 : decode cX12_cut 0 = .ok (.aload_n 0, 1) := by decide +kernel
theorem dX12_cut_1 : decode cX12_cut 1 = .ok (.iload_n 1, 1) := by decide +kernel
theorem dX12_cut_2 : decode cX12_cut 2 = .ok (.invokevirtual 160, 3) := by decide +kernel
theorem dX12_cut_5 : decode cX12_cut 5 = .ok (.ifCond .ne 7, 3) := by decide +kernel
theorem dX12_cut_8 : decode cX12_cut 8 = .ok (.iconst (-1), 1) := by decide +kernel
theorem dX12_cut_9 : decode cX12_cut 9 = .ok (.goto 10, 3) := by decide +kernel
theorem dX12_cut_12 : decode cX12_cut 12 = .ok (.iload_n 2, 1) := by decide +kernel
theorem dX12_cut_13 : decode cX12_cut 13 = .ok (.iconst 1, 1) := by decide +kernel
theorem dX12_cut_14 : decode cX12_cut 14 = .ok (.bipush 9, 2) := by decide +kernel
theorem dX12_cut_16 : decode cX12_cut 16 = .ok (.invokestatic 77, 3) := by decide +kernel
theorem dX12_cut_19 : decode cX12_cut 19 = .ok (.istore_n 3, 1) := by decide +kernel
theorem dX12_cut_20 : decode cX12_cut 20 = .ok (.iload_n 3, 1) := by decide +kernel
theorem dX12_cut_21 : decode cX12_cut 21 = .ok (.ifCond .eq 11, 3) := by decide +kernel
theorem dX12_cut_24 : decode cX12_cut 24 = .ok (.aload_n 0, 1) := by decide +kernel
theorem dX12_cut_25 : decode cX12_cut 25 = .ok (.iload_n 3, 1) := by decide +kernel
theorem dX12_cut_26 : decode cX12_cut 26 = .ok (.invokevirtual 85, 3) := by decide +kernel
theorem dX12_cut_29 : decode cX12_cut 29 = .ok (.goto 9, 3) := by decide +kernel
theorem dX12_cut_32 : decode cX12_cut 32 = .ok (.aload_n 0, 1) := by decide +kernel
theorem dX12_cut_33 : decode cX12_cut 33 = .ok (.iload_n 1, 1) := by decide +kernel
theorem dX12_cut_34 : decode cX12_cut 34 = .ok (.iload_n 2, 1) := by decide +kernel
theorem dX12_cut_35 : decode cX12_cut 35 = .ok (.invokevirtual 231, 3) := by decide +kernel
theorem dX12_cut_38 : decode cX12_cut 38 = .ok (.ireturn, 1) := by decide +kernel
theorem dX12_worstCut_0 : decode cX12_worstCut 0 = .ok (.iload_n 1, 1) := by decide +kernel
theorem dX12_worstCut_1 : decode cX12_worstCut 1 = .ok (.iconst 1, 1) := by decide +kernel
theorem dX12_worstCut_2 : decode cX12_worstCut 2 = .ok (.bipush 9, 2) := by decide +kernel
theorem dX12_worstCut_4 : decode cX12_worstCut 4 = .ok (.invokestatic 77, 3) := by decide +kernel
theorem dX12_worstCut_7 : decode cX12_worstCut 7 = .ok (.istore_n 2, 1) := by decide +kernel
theorem dX12_worstCut_8 : decode cX12_worstCut 8 = .ok (.iload_n 2, 1) := by decide +kernel
theorem dX12_worstCut_9 : decode cX12_worstCut 9 = .ok (.ifCond .eq 9, 3) := by decide +kernel
theorem dX12_worstCut_12 : decode cX12_worstCut 12 = .ok (.aload_n 0, 1) := by decide +kernel
theorem dX12_worstCut_13 : decode cX12_worstCut 13 = .ok (.iload_n 2, 1) := by decide +kernel
theorem dX12_worstCut_14 : decode cX12_worstCut 14 = .ok (.invokevirtual 85, 3) := by decide +kernel
theorem dX12_worstCut_17 : decode cX12_worstCut 17 = .ok (.ireturn, 1) := by decide +kernel
theorem dX12_worstCut_18 : decode cX12_worstCut 18 = .ok (.bipush (-9), 2) := by decide +kernel
theorem dX12_worstCut_20 : decode cX12_worstCut 20 = .ok (.istore_n 3, 1) := by decide +kernel
theorem dX12_worstCut_21 : decode cX12_worstCut 21 = .ok (.iconst 0, 1) := by decide +kernel
theorem dX12_worstCut_22 : decode cX12_worstCut 22 = .ok (.istore 4, 2) := by decide +kernel
theorem dX12_worstCut_24 : decode cX12_worstCut 24 = .ok (.iconst 0, 1) := by decide +kernel
theorem dX12_worstCut_25 : decode cX12_worstCut 25 = .ok (.istore 5, 2) := by decide +kernel
theorem dX12_worstCut_27 : decode cX12_worstCut 27 = .ok (.iload 5, 2) := by decide +kernel
theorem dX12_worstCut_29 : decode cX12_worstCut 29 = .ok (.aload_n 0, 1) := by decide +kernel
theorem dX12_worstCut_30 : decode cX12_worstCut 30 = .ok (.getfield 114, 3) := by decide +kernel
theorem dX12_worstCut_33 : decode cX12_worstCut 33 = .ok (.if_icmp .ge 39, 3) := by decide +kernel
theorem dX12_worstCut_36 : decode cX12_worstCut 36 = .ok (.aload_n 0, 1) := by decide +kernel
theorem dX12_worstCut_37 : decode cX12_worstCut 37 = .ok (.iload 5, 2) := by decide +kernel
theorem dX12_worstCut_39 : decode cX12_worstCut 39 = .ok (.iload_n 1, 1) := by decide +kernel
theorem dX12_worstCut_40 : decode cX12_worstCut 40 = .ok (.invokevirtual 231, 3) := by decide +kernel
theorem dX12_worstCut_43 : decode cX12_worstCut 43 = .ok (.istore 6, 2) := by decide +kernel
theorem dX12_worstCut_45 : decode cX12_worstCut 45 = .ok (.iload_n 3, 1) := by decide +kernel
theorem dX12_worstCut_46 : decode cX12_worstCut 46 = .ok (.ifCond .lt 13, 3) := by decide +kernel
theorem dX12_worstCut_49 : decode cX12_worstCut 49 = .ok (.iload 6, 2) := by decide +kernel
theorem dX12_worstCut_51 : decode cX12_worstCut 51 = .ok (.iload 4, 2) := by decide +kernel
theorem dX12_worstCut_53 : decode cX12_worstCut 53 = .ok (.if_icmp .lt 6, 3) := by decide +kernel
theorem dX12_worstCut_56 : decode cX12_worstCut 56 = .ok (.goto 10, 3) := by decide +kernel
theorem dX12_worstCut_59 : decode cX12_worstCut 59 = .ok (.iload 5, 2) := by decide +kernel
theorem dX12_worstCut_61 : decode cX12_worstCut 61 = .ok (.istore_n 3, 1) := by decide +kernel
theorem dX12_worstCut_62 : decode cX12_worstCut 62 = .ok (.iload 6, 2) := by decide +kernel
theorem dX12_worstCut_64 : decode cX12_worstCut 64 = .ok (.istore 4, 2) := by decide +kernel
theorem dX12_worstCut_66 : decode cX12_worstCut 66 = .ok (.iinc 5 1, 3) := by decide +kernel
theorem dX12_worstCut_69 : decode cX12_worstCut 69 = .ok (.goto (-42), 3) := by decide +kernel
theorem dX12_worstCut_72 : decode cX12_worstCut 72 = .ok (.iload_n 3, 1) := by decide +kernel
theorem dX12_worstCut_73 : decode cX12_worstCut 73 = .ok (.ireturn, 1) := by decide +kernel
theorem dX12_copy_0 : decode cX12_copy 0 = .ok (.iload_n 1, 1) := by decide +kernel
theorem dX12_copy_1 : decode cX12_copy 1 = .ok (.iconst 1, 1) := by decide +kernel
theorem dX12_copy_2 : decode cX12_copy 2 = .ok (.if_icmp .lt 8, 3) := by decide +kernel
theorem dX12_copy_5 : decode cX12_copy 5 = .ok (.iload_n 2, 1) := by decide +kernel
theorem dX12_copy_6 : decode cX12_copy 6 = .ok (.iconst 1, 1) := by decide +kernel
theorem dX12_copy_7 : decode cX12_copy 7 = .ok (.if_icmp .ge 8, 3) := by decide +kernel
theorem dX12_copy_10 : decode cX12_copy 10 = .ok (.bipush (-4), 2) := by decide +kernel
theorem dX12_copy_12 : decode cX12_copy 12 = .ok (.goto 21, 3) := by decide +kernel
theorem dX12_copy_15 : decode cX12_copy 15 = .ok (.iload_n 1, 1) := by decide +kernel
theorem dX12_copy_16 : decode cX12_copy 16 = .ok (.bipush 9, 2) := by decide +kernel
theorem dX12_copy_18 : decode cX12_copy 18 = .ok (.if_icmp .gt 9, 3) := by decide +kernel
theorem dX12_copy_21 : decode cX12_copy 21 = .ok (.iload_n 2, 1) := by decide +kernel
theorem dX12_copy_22 : decode cX12_copy 22 = .ok (.bipush 9, 2) := by decide +kernel
theorem dX12_copy_24 : decode cX12_copy 24 = .ok (.if_icmp .le 8, 3) := by decide +kernel
theorem dX12_copy_27 : decode cX12_copy 27 = .ok (.bipush (-6), 2) := by decide +kernel
theorem dX12_copy_29 : decode cX12_copy 29 = .ok (.goto 4, 3) := by decide +kernel
theorem dX12_copy_32 : decode cX12_copy 32 = .ok (.iconst 0, 1) := by decide +kernel
theorem dX12_copy_33 : decode cX12_copy 33 = .ok (.istore_n 3, 1) := by decide +kernel
theorem dX12_copy_34 : decode cX12_copy 34 = .ok (.iload_n 3, 1) := by decide +kernel
theorem dX12_copy_35 : decode cX12_copy 35 = .ok (.ifCond .eq 9, 3) := by decide +kernel
theorem dX12_copy_38 : decode cX12_copy 38 = .ok (.aload_n 0, 1) := by decide +kernel
theorem dX12_copy_39 : decode cX12_copy 39 = .ok (.iload_n 3, 1) := by decide +kernel
theorem dX12_copy_40 : decode cX12_copy 40 = .ok (.invokevirtual 85, 3) := by decide +kernel
theorem dX12_copy_43 : decode cX12_copy 43 = .ok (.ireturn, 1) := by decide +kernel
theorem dX12_copy_44 : decode cX12_copy 44 = .ok (.aload_n 0, 1) := by decide +kernel
theorem dX12_copy_45 : decode cX12_copy 45 = .ok (.bipush (-9), 2) := by decide +kernel
theorem dX12_copy_47 : decode cX12_copy 47 = .ok (.iload_n 1, 1) := by decide +kernel
theorem dX12_copy_48 : decode cX12_copy 48 = .ok (.invokevirtual 184, 3) := by decide +kernel
theorem dX12_copy_51 : decode cX12_copy 51 = .ok (.iload_n 2, 1) := by decide +kernel
theorem dX12_copy_52 : decode cX12_copy 52 = .ok (.aload_n 0, 1) := by decide +kernel
theorem dX12_copy_53 : decode cX12_copy 53 = .ok (.iload_n 2, 1) := by decide +kernel
theorem dX12_copy_54 : decode cX12_copy 54 = .ok (.iconst 0, 1) := by decide +kernel
theorem dX12_copy_55 : decode cX12_copy 55 = .ok (.invokevirtual 188, 3) := by decide +kernel
theorem dX12_copy_58 : decode cX12_copy 58 = .ok (.imul, 1) := by decide +kernel
theorem dX12_copy_59 : decode cX12_copy 59 = .ok (.ireturn, 1) := by decide +kernel
theorem dX12_sure_0 : decode cX12_sure 0 = .ok (.iload_n 1, 1) := by decide +kernel
theorem dX12_sure_1 : decode cX12_sure 1 = .ok (.iconst 1, 1) := by decide +kernel
theorem dX12_sure_2 : decode cX12_sure 2 = .ok (.bipush 9, 2) := by decide +kernel
theorem dX12_sure_4 : decode cX12_sure 4 = .ok (.invokestatic 77, 3) := by decide +kernel
theorem dX12_sure_7 : decode cX12_sure 7 = .ok (.istore_n 2, 1) := by decide +kernel
theorem dX12_sure_8 : decode cX12_sure 8 = .ok (.iload_n 2, 1) := by decide +kernel
theorem dX12_sure_9 : decode cX12_sure 9 = .ok (.ifCond .eq 9, 3) := by decide +kernel
theorem dX12_sure_12 : decode cX12_sure 12 = .ok (.aload_n 0, 1) := by decide +kernel
theorem dX12_sure_13 : decode cX12_sure 13 = .ok (.iload_n 2, 1) := by decide +kernel
theorem dX12_sure_14 : decode cX12_sure 14 = .ok (.invokevirtual 85, 3) := by decide +kernel
theorem dX12_sure_17 : decode cX12_sure 17 = .ok (.ireturn, 1) := by decide +kernel
theorem dX12_sure_18 : decode cX12_sure 18 = .ok (.aload_n 0, 1) := by decide +kernel
theorem dX12_sure_19 : decode cX12_sure 19 = .ok (.bipush (-9), 2) := by decide +kernel
theorem dX12_sure_21 : decode cX12_sure 21 = .ok (.iconst 1, 1) := by decide +kernel
theorem dX12_sure_22 : decode cX12_sure 22 = .ok (.invokevirtual 184, 3) := by decide +kernel
theorem dX12_sure_25 : decode cX12_sure 25 = .ok (.iconst 0, 1) := by decide +kernel
theorem dX12_sure_26 : decode cX12_sure 26 = .ok (.istore_n 3, 1) := by decide +kernel
theorem dX12_sure_27 : decode cX12_sure 27 = .ok (.iload_n 3, 1) := by decide +kernel
theorem dX12_sure_28 : decode cX12_sure 28 = .ok (.aload_n 0, 1) := by decide +kernel
theorem dX12_sure_29 : decode cX12_sure 29 = .ok (.getfield 117, 3) := by decide +kernel
theorem dX12_sure_32 : decode cX12_sure 32 = .ok (.if_icmp .gt 16, 3) := by decide +kernel
theorem dX12_sure_35 : decode cX12_sure 35 = .ok (.aload_n 0, 1) := by decide +kernel
theorem dX12_sure_36 : decode cX12_sure 36 = .ok (.getfield 70, 3) := by decide +kernel
theorem dX12_sure_39 : decode cX12_sure 39 = .ok (.iload_n 3, 1) := by decide +kernel
theorem dX12_sure_40 : decode cX12_sure 40 = .ok (.iconst 0, 1) := by decide +kernel
theorem dX12_sure_41 : decode cX12_sure 41 = .ok (.iastore, 1) := by decide +kernel
theorem dX12_sure_42 : decode cX12_sure 42 = .ok (.iinc 3 1, 3) := by decide +kernel
theorem dX12_sure_45 : decode cX12_sure 45 = .ok (.goto (-18), 3) := by decide +kernel
theorem dX12_sure_48 : decode cX12_sure 48 = .ok (.iconst 1, 1) := by decide +kernel
theorem dX12_sure_49 : decode cX12_sure 49 = .ok (.istore_n 3, 1) := by decide +kernel
theorem dX12_sure_50 : decode cX12_sure 50 = .ok (.iload_n 3, 1) := by decide +kernel
theorem dX12_sure_51 : decode cX12_sure 51 = .ok (.iload_n 1, 1) := by decide +kernel
theorem dX12_sure_52 : decode cX12_sure 52 = .ok (.if_icmp .gt 50, 3) := by decide +kernel
theorem dX12_sure_55 : decode cX12_sure 55 = .ok (.aload_n 0, 1) := by decide +kernel
theorem dX12_sure_56 : decode cX12_sure 56 = .ok (.iload_n 3, 1) := by decide +kernel
theorem dX12_sure_57 : decode cX12_sure 57 = .ok (.iconst 0, 1) := by decide +kernel
theorem dX12_sure_58 : decode cX12_sure 58 = .ok (.invokevirtual 188, 3) := by decide +kernel
theorem dX12_sure_61 : decode cX12_sure 61 = .ok (.pop, 1) := by decide +kernel
theorem dX12_sure_62 : decode cX12_sure 62 = .ok (.iconst 0, 1) := by decide +kernel
theorem dX12_sure_63 : decode cX12_sure 63 = .ok (.istore 4, 2) := by decide +kernel
theorem dX12_sure_65 : decode cX12_sure 65 = .ok (.iload 4, 2) := by decide +kernel
theorem dX12_sure_67 : decode cX12_sure 67 = .ok (.aload_n 0, 1) := by decide +kernel
theorem dX12_sure_68 : decode cX12_sure 68 = .ok (.getfield 178, 3) := by decide +kernel
theorem dX12_sure_71 : decode cX12_sure 71 = .ok (.if_icmp .ge 25, 3) := by decide +kernel
theorem dX12_sure_74 : decode cX12_sure 74 = .ok (.aload_n 0, 1) := by decide +kernel
theorem dX12_sure_75 : decode cX12_sure 75 = .ok (.getfield 70, 3) := by decide +kernel
theorem dX12_sure_78 : decode cX12_sure 78 = .ok (.aload_n 0, 1) := by decide +kernel
theorem dX12_sure_79 : decode cX12_sure 79 = .ok (.getfield 64, 3) := by decide +kernel
theorem dX12_sure_82 : decode cX12_sure 82 = .ok (.iload 4, 2) := by decide +kernel
theorem dX12_sure_84 : decode cX12_sure 84 = .ok (.iaload, 1) := by decide +kernel
theorem dX12_sure_85 : decode cX12_sure 85 = .ok (.dup2, 1) := by decide +kernel
theorem dX12_sure_86 : decode cX12_sure 86 = .ok (.iaload, 1) := by decide +kernel
theorem dX12_sure_87 : decode cX12_sure 87 = .ok (.iconst 1, 1) := by decide +kernel
theorem dX12_sure_88 : decode cX12_sure 88 = .ok (.iadd, 1) := by decide +kernel
theorem dX12_sure_89 : decode cX12_sure 89 = .ok (.iastore, 1) := by decide +kernel
theorem dX12_sure_90 : decode cX12_sure 90 = .ok (.iinc 4 1, 3) := by decide +kernel
theorem dX12_sure_93 : decode cX12_sure 93 = .ok (.goto (-28), 3) := by decide +kernel
theorem dX12_sure_96 : decode cX12_sure 96 = .ok (.iinc 3 1, 3) := by decide +kernel
theorem dX12_sure_99 : decode cX12_sure 99 = .ok (.goto (-49), 3) := by decide +kernel
theorem dX12_sure_102 : decode cX12_sure 102 = .ok (.iconst 0, 1) := by decide +kernel
theorem dX12_sure_103 : decode cX12_sure 103 = .ok (.istore_n 3, 1) := by decide +kernel
theorem dX12_sure_104 : decode cX12_sure 104 = .ok (.iconst 0, 1) := by decide +kernel
theorem dX12_sure_105 : decode cX12_sure 105 = .ok (.istore 4, 2) := by decide +kernel
theorem dX12_sure_107 : decode cX12_sure 107 = .ok (.iload 4, 2) := by decide +kernel
theorem dX12_sure_109 : decode cX12_sure 109 = .ok (.aload_n 0, 1) := by decide +kernel
theorem dX12_sure_110 : decode cX12_sure 110 = .ok (.getfield 117, 3) := by decide +kernel
theorem dX12_sure_113 : decode cX12_sure 113 = .ok (.if_icmp .gt 28, 3) := by decide +kernel
theorem dX12_sure_116 : decode cX12_sure 116 = .ok (.iload_n 3, 1) := by decide +kernel
theorem dX12_sure_117 : decode cX12_sure 117 = .ok (.aload_n 0, 1) := by decide +kernel
theorem dX12_sure_118 : decode cX12_sure 118 = .ok (.getfield 70, 3) := by decide +kernel
theorem dX12_sure_121 : decode cX12_sure 121 = .ok (.iload 4, 2) := by decide +kernel
theorem dX12_sure_123 : decode cX12_sure 123 = .ok (.iaload, 1) := by decide +kernel
theorem dX12_sure_124 : decode cX12_sure 124 = .ok (.iload_n 1, 1) := by decide +kernel
theorem dX12_sure_125 : decode cX12_sure 125 = .ok (.if_icmp .ne 7, 3) := by decide +kernel
theorem dX12_sure_128 : decode cX12_sure 128 = .ok (.iconst 1, 1) := by decide +kernel
theorem dX12_sure_129 : decode cX12_sure 129 = .ok (.goto 4, 3) := by decide +kernel
theorem dX12_sure_132 : decode cX12_sure 132 = .ok (.iconst 0, 1) := by decide +kernel
theorem dX12_sure_133 : decode cX12_sure 133 = .ok (.iadd, 1) := by decide +kernel
theorem dX12_sure_134 : decode cX12_sure 134 = .ok (.istore_n 3, 1) := by decide +kernel
theorem dX12_sure_135 : decode cX12_sure 135 = .ok (.iinc 4 1, 3) := by decide +kernel
theorem dX12_sure_138 : decode cX12_sure 138 = .ok (.goto (-31), 3) := by decide +kernel
theorem dX12_sure_141 : decode cX12_sure 141 = .ok (.iload_n 3, 1) := by decide +kernel
theorem dX12_sure_142 : decode cX12_sure 142 = .ok (.ireturn, 1) := by decide +kernel
theorem dX12_row_0 : decode cX12_row 0 = .ok (.iload_n 1, 1) := by decide +kernel
theorem dX12_row_1 : decode cX12_row 1 = .ok (.iconst 0, 1) := by decide +kernel
theorem dX12_row_2 : decode cX12_row 2 = .ok (.bipush 48, 2) := by decide +kernel
theorem dX12_row_4 : decode cX12_row 4 = .ok (.invokestatic 77, 3) := by decide +kernel
theorem dX12_row_7 : decode cX12_row 7 = .ok (.istore_n 2, 1) := by decide +kernel
theorem dX12_row_8 : decode cX12_row 8 = .ok (.iload_n 2, 1) := by decide +kernel
theorem dX12_row_9 : decode cX12_row 9 = .ok (.ifCond .ne 15, 3) := by decide +kernel
theorem dX12_row_12 : decode cX12_row 12 = .ok (.aload_n 0, 1) := by decide +kernel
theorem dX12_row_13 : decode cX12_row 13 = .ok (.getfield 234, 3) := by decide +kernel
theorem dX12_row_16 : decode cX12_row 16 = .ok (.bipush 12, 2) := by decide +kernel
theorem dX12_row_18 : decode cX12_row 18 = .ok (.if_icmp .ne 6, 3) := by decide +kernel
theorem dX12_row_21 : decode cX12_row 21 = .ok (.bipush (-6), 2) := by decide +kernel
theorem dX12_row_23 : decode cX12_row 23 = .ok (.istore_n 2, 1) := by decide +kernel
theorem dX12_row_24 : decode cX12_row 24 = .ok (.iload_n 2, 1) := by decide +kernel
theorem dX12_row_25 : decode cX12_row 25 = .ok (.ifCond .eq 9, 3) := by decide +kernel
theorem dX12_row_28 : decode cX12_row 28 = .ok (.aload_n 0, 1) := by decide +kernel
theorem dX12_row_29 : decode cX12_row 29 = .ok (.iload_n 2, 1) := by decide +kernel
theorem dX12_row_30 : decode cX12_row 30 = .ok (.invokevirtual 85, 3) := by decide +kernel
theorem dX12_row_33 : decode cX12_row 33 = .ok (.ireturn, 1) := by decide +kernel
theorem dX12_row_34 : decode cX12_row 34 = .ok (.aload_n 0, 1) := by decide +kernel
theorem dX12_row_35 : decode cX12_row 35 = .ok (.getfield 73, 3) := by decide +kernel
theorem dX12_row_38 : decode cX12_row 38 = .ok (.aload_n 0, 1) := by decide +kernel
theorem dX12_row_39 : decode cX12_row 39 = .ok (.getfield 234, 3) := by decide +kernel
theorem dX12_row_42 : decode cX12_row 42 = .ok (.iload_n 1, 1) := by decide +kernel
theorem dX12_row_43 : decode cX12_row 43 = .ok (.iastore, 1) := by decide +kernel
theorem dX12_row_44 : decode cX12_row 44 = .ok (.aload_n 0, 1) := by decide +kernel
theorem dX12_row_45 : decode cX12_row 45 = .ok (.dup, 1) := by decide +kernel
theorem dX12_row_46 : decode cX12_row 46 = .ok (.getfield 234, 3) := by decide +kernel
theorem dX12_row_49 : decode cX12_row 49 = .ok (.iconst 1, 1) := by decide +kernel
theorem dX12_row_50 : decode cX12_row 50 = .ok (.iadd, 1) := by decide +kernel
theorem dX12_row_51 : decode cX12_row 51 = .ok (.putfield 234, 3) := by decide +kernel
theorem dX12_row_54 : decode cX12_row 54 = .ok (.aload_n 0, 1) := by decide +kernel
theorem dX12_row_55 : decode cX12_row 55 = .ok (.getfield 234, 3) := by decide +kernel
theorem dX12_row_58 : decode cX12_row 58 = .ok (.ireturn, 1) := by decide +kernel
theorem dX12_judge_0 : decode cX12_judge 0 = .ok (.iload_n 1, 1) := by decide +kernel
theorem dX12_judge_1 : decode cX12_judge 1 = .ok (.iload_n 2, 1) := by decide +kernel
theorem dX12_judge_2 : decode cX12_judge 2 = .ok (.invokestatic 195, 3) := by decide +kernel
theorem dX12_judge_5 : decode cX12_judge 5 = .ok (.istore_n 3, 1) := by decide +kernel
theorem dX12_judge_6 : decode cX12_judge 6 = .ok (.iload_n 3, 1) := by decide +kernel
theorem dX12_judge_7 : decode cX12_judge 7 = .ok (.ifCond .eq 9, 3) := by decide +kernel
theorem dX12_judge_10 : decode cX12_judge 10 = .ok (.aload_n 0, 1) := by decide +kernel
theorem dX12_judge_11 : decode cX12_judge 11 = .ok (.iload_n 3, 1) := by decide +kernel
theorem dX12_judge_12 : decode cX12_judge 12 = .ok (.invokevirtual 85, 3) := by decide +kernel
theorem dX12_judge_15 : decode cX12_judge 15 = .ok (.ireturn, 1) := by decide +kernel
theorem dX12_judge_16 : decode cX12_judge 16 = .ok (.aload_n 0, 1) := by decide +kernel
theorem dX12_judge_17 : decode cX12_judge 17 = .ok (.getfield 234, 3) := by decide +kernel
theorem dX12_judge_20 : decode cX12_judge 20 = .ok (.istore 4, 2) := by decide +kernel
theorem dX12_judge_22 : decode cX12_judge 22 = .ok (.aload_n 0, 1) := by decide +kernel
theorem dX12_judge_23 : decode cX12_judge 23 = .ok (.iconst 0, 1) := by decide +kernel
theorem dX12_judge_24 : decode cX12_judge 24 = .ok (.putfield 234, 3) := by decide +kernel
theorem dX12_judge_27 : decode cX12_judge 27 = .ok (.aload_n 0, 1) := by decide +kernel
theorem dX12_judge_28 : decode cX12_judge 28 = .ok (.bipush (-9), 2) := by decide +kernel
theorem dX12_judge_30 : decode cX12_judge 30 = .ok (.iconst 1, 1) := by decide +kernel
theorem dX12_judge_31 : decode cX12_judge 31 = .ok (.invokevirtual 184, 3) := by decide +kernel
theorem dX12_judge_34 : decode cX12_judge 34 = .ok (.aload_n 0, 1) := by decide +kernel
theorem dX12_judge_35 : decode cX12_judge 35 = .ok (.iload_n 1, 1) := by decide +kernel
theorem dX12_judge_36 : decode cX12_judge 36 = .ok (.iload_n 2, 1) := by decide +kernel
theorem dX12_judge_37 : decode cX12_judge 37 = .ok (.invokevirtual 188, 3) := by decide +kernel
theorem dX12_judge_40 : decode cX12_judge 40 = .ok (.pop, 1) := by decide +kernel
theorem dX12_judge_41 : decode cX12_judge 41 = .ok (.iconst 0, 1) := by decide +kernel
theorem dX12_judge_42 : decode cX12_judge 42 = .ok (.istore 5, 2) := by decide +kernel
theorem dX12_judge_44 : decode cX12_judge 44 = .ok (.iload 5, 2) := by decide +kernel
theorem dX12_judge_46 : decode cX12_judge 46 = .ok (.iload 4, 2) := by decide +kernel
theorem dX12_judge_48 : decode cX12_judge 48 = .ok (.if_icmp .ge 38, 3) := by decide +kernel
theorem dX12_judge_51 : decode cX12_judge 51 = .ok (.iload 5, 2) := by decide +kernel
theorem dX12_judge_53 : decode cX12_judge 53 = .ok (.aload_n 0, 1) := by decide +kernel
theorem dX12_judge_54 : decode cX12_judge 54 = .ok (.getfield 178, 3) := by decide +kernel
theorem dX12_judge_57 : decode cX12_judge 57 = .ok (.if_icmp .ge 20, 3) := by decide +kernel
theorem dX12_judge_60 : decode cX12_judge 60 = .ok (.aload_n 0, 1) := by decide +kernel
theorem dX12_judge_61 : decode cX12_judge 61 = .ok (.getfield 73, 3) := by decide +kernel
theorem dX12_judge_64 : decode cX12_judge 64 = .ok (.iload 5, 2) := by decide +kernel
theorem dX12_judge_66 : decode cX12_judge 66 = .ok (.iaload, 1) := by decide +kernel
theorem dX12_judge_67 : decode cX12_judge 67 = .ok (.aload_n 0, 1) := by decide +kernel
theorem dX12_judge_68 : decode cX12_judge 68 = .ok (.getfield 64, 3) := by decide +kernel
theorem dX12_judge_71 : decode cX12_judge 71 = .ok (.iload 5, 2) := by decide +kernel
theorem dX12_judge_73 : decode cX12_judge 73 = .ok (.iaload, 1) := by decide +kernel
theorem dX12_judge_74 : decode cX12_judge 74 = .ok (.if_icmp .eq 6, 3) := by decide +kernel
theorem dX12_judge_77 : decode cX12_judge 77 = .ok (.iload 5, 2) := by decide +kernel
theorem dX12_judge_79 : decode cX12_judge 79 = .ok (.ireturn, 1) := by decide +kernel
theorem dX12_judge_80 : decode cX12_judge 80 = .ok (.iinc 5 1, 3) := by decide +kernel
theorem dX12_judge_83 : decode cX12_judge 83 = .ok (.goto (-39), 3) := by decide +kernel
theorem dX12_judge_86 : decode cX12_judge 86 = .ok (.bipush (-9), 2) := by decide +kernel
theorem dX12_judge_88 : decode cX12_judge 88 = .ok (.ireturn, 1) := by decide +kernel
theorem dX12_draw_0 : decode cX12_draw 0 = .ok (.aload_n 0, 1) := by decide +kernel
theorem dX12_draw_1 : decode cX12_draw 1 = .ok (.aload_n 0, 1) := by decide +kernel
theorem dX12_draw_2 : decode cX12_draw 2 = .ok (.getfield 237, 3) := by decide +kernel
theorem dX12_draw_5 : decode cX12_draw 5 = .ok (.ldc 240, 2) := by decide +kernel
theorem dX12_draw_7 : decode cX12_draw 7 = .ok (.imul, 1) := by decide +kernel
theorem dX12_draw_8 : decode cX12_draw 8 = .ok (.sipush 12345, 3) := by decide +kernel
theorem dX12_draw_11 : decode cX12_draw 11 = .ok (.iadd, 1) := by decide +kernel
theorem dX12_draw_12 : decode cX12_draw 12 = .ok (.putfield 237, 3) := by decide +kernel
theorem dX12_draw_15 : decode cX12_draw 15 = .ok (.aload_n 0, 1) := by decide +kernel
theorem dX12_draw_16 : decode cX12_draw 16 = .ok (.getfield 237, 3) := by decide +kernel
theorem dX12_draw_19 : decode cX12_draw 19 = .ok (.ldc 241, 2) := by decide +kernel
theorem dX12_draw_21 : decode cX12_draw 21 = .ok (.iand, 1) := by decide +kernel
theorem dX12_draw_22 : decode cX12_draw 22 = .ok (.ldc 242, 2) := by decide +kernel
theorem dX12_draw_24 : decode cX12_draw 24 = .ok (.idiv, 1) := by decide +kernel
theorem dX12_draw_25 : decode cX12_draw 25 = .ok (.iload_n 1, 1) := by decide +kernel
theorem dX12_draw_26 : decode cX12_draw 26 = .ok (.irem, 1) := by decide +kernel
theorem dX12_draw_27 : decode cX12_draw 27 = .ok (.ireturn, 1) := by decide +kernel
theorem dX12_seeds_0 : decode cX12_seeds 0 = .ok (.iload_n 1, 1) := by decide +kernel
theorem dX12_seeds_1 : decode cX12_seeds 1 = .ok (.iconst 1, 1) := by decide +kernel
theorem dX12_seeds_2 : decode cX12_seeds 2 = .ok (.bipush 60, 2) := by decide +kernel
theorem dX12_seeds_4 : decode cX12_seeds 4 = .ok (.invokestatic 77, 3) := by decide +kernel
theorem dX12_seeds_7 : decode cX12_seeds 7 = .ok (.istore_n 3, 1) := by decide +kernel
theorem dX12_seeds_8 : decode cX12_seeds 8 = .ok (.iload_n 3, 1) := by decide +kernel
theorem dX12_seeds_9 : decode cX12_seeds 9 = .ok (.ifCond .eq 9, 3) := by decide +kernel
theorem dX12_seeds_12 : decode cX12_seeds 12 = .ok (.aload_n 0, 1) := by decide +kernel
theorem dX12_seeds_13 : decode cX12_seeds 13 = .ok (.iload_n 3, 1) := by decide +kernel
theorem dX12_seeds_14 : decode cX12_seeds 14 = .ok (.invokevirtual 85, 3) := by decide +kernel
theorem dX12_seeds_17 : decode cX12_seeds 17 = .ok (.ireturn, 1) := by decide +kernel
theorem dX12_seeds_18 : decode cX12_seeds 18 = .ok (.aload_n 0, 1) := by decide +kernel
theorem dX12_seeds_19 : decode cX12_seeds 19 = .ok (.getfield 129, 3) := by decide +kernel
theorem dX12_seeds_22 : decode cX12_seeds 22 = .ok (.istore 4, 2) := by decide +kernel
theorem dX12_seeds_24 : decode cX12_seeds 24 = .ok (.aload_n 0, 1) := by decide +kernel
theorem dX12_seeds_25 : decode cX12_seeds 25 = .ok (.iload_n 2, 1) := by decide +kernel
theorem dX12_seeds_26 : decode cX12_seeds 26 = .ok (.putfield 237, 3) := by decide +kernel
theorem dX12_seeds_29 : decode cX12_seeds 29 = .ok (.iconst 0, 1) := by decide +kernel
theorem dX12_seeds_30 : decode cX12_seeds 30 = .ok (.istore 5, 2) := by decide +kernel
theorem dX12_seeds_32 : decode cX12_seeds 32 = .ok (.iconst 0, 1) := by decide +kernel
theorem dX12_seeds_33 : decode cX12_seeds 33 = .ok (.istore 6, 2) := by decide +kernel
theorem dX12_seeds_35 : decode cX12_seeds 35 = .ok (.iload 6, 2) := by decide +kernel
theorem dX12_seeds_37 : decode cX12_seeds 37 = .ok (.iload_n 1, 1) := by decide +kernel
theorem dX12_seeds_38 : decode cX12_seeds 38 = .ok (.if_icmp .ge 50, 3) := by decide +kernel
theorem dX12_seeds_41 : decode cX12_seeds 41 = .ok (.iconst 1, 1) := by decide +kernel
theorem dX12_seeds_42 : decode cX12_seeds 42 = .ok (.aload_n 0, 1) := by decide +kernel
theorem dX12_seeds_43 : decode cX12_seeds 43 = .ok (.bipush 9, 2) := by decide +kernel
theorem dX12_seeds_45 : decode cX12_seeds 45 = .ok (.invokevirtual 243, 3) := by decide +kernel
theorem dX12_seeds_48 : decode cX12_seeds 48 = .ok (.iadd, 1) := by decide +kernel
theorem dX12_seeds_49 : decode cX12_seeds 49 = .ok (.istore 7, 2) := by decide +kernel
theorem dX12_seeds_51 : decode cX12_seeds 51 = .ok (.aload_n 0, 1) := by decide +kernel
theorem dX12_seeds_52 : decode cX12_seeds 52 = .ok (.bipush 10, 2) := by decide +kernel
theorem dX12_seeds_54 : decode cX12_seeds 54 = .ok (.invokevirtual 243, 3) := by decide +kernel
theorem dX12_seeds_57 : decode cX12_seeds 57 = .ok (.istore 8, 2) := by decide +kernel
theorem dX12_seeds_59 : decode cX12_seeds 59 = .ok (.aload_n 0, 1) := by decide +kernel
theorem dX12_seeds_60 : decode cX12_seeds 60 = .ok (.aload_n 0, 1) := by decide +kernel
theorem dX12_seeds_61 : decode cX12_seeds 61 = .ok (.bipush 10, 2) := by decide +kernel
theorem dX12_seeds_63 : decode cX12_seeds 63 = .ok (.invokevirtual 243, 3) := by decide +kernel
theorem dX12_seeds_66 : decode cX12_seeds 66 = .ok (.putfield 129, 3) := by decide +kernel
theorem dX12_seeds_69 : decode cX12_seeds 69 = .ok (.iload 5, 2) := by decide +kernel
theorem dX12_seeds_71 : decode cX12_seeds 71 = .ok (.aload_n 0, 1) := by decide +kernel
theorem dX12_seeds_72 : decode cX12_seeds 72 = .ok (.iload 7, 2) := by decide +kernel
theorem dX12_seeds_74 : decode cX12_seeds 74 = .ok (.iload 8, 2) := by decide +kernel
theorem dX12_seeds_76 : decode cX12_seeds 76 = .ok (.invokevirtual 192, 3) := by decide +kernel
theorem dX12_seeds_79 : decode cX12_seeds 79 = .ok (.iadd, 1) := by decide +kernel
theorem dX12_seeds_80 : decode cX12_seeds 80 = .ok (.istore 5, 2) := by decide +kernel
theorem dX12_seeds_82 : decode cX12_seeds 82 = .ok (.iinc 6 1, 3) := by decide +kernel
theorem dX12_seeds_85 : decode cX12_seeds 85 = .ok (.goto (-50), 3) := by decide +kernel
theorem dX12_seeds_88 : decode cX12_seeds 88 = .ok (.aload_n 0, 1) := by decide +kernel
theorem dX12_seeds_89 : decode cX12_seeds 89 = .ok (.iload 4, 2) := by decide +kernel
theorem dX12_seeds_91 : decode cX12_seeds 91 = .ok (.putfield 129, 3) := by decide +kernel
theorem dX12_seeds_94 : decode cX12_seeds 94 = .ok (.iload 5, 2) := by decide +kernel
theorem dX12_seeds_96 : decode cX12_seeds 96 = .ok (.ireturn, 1) := by decide +kernel
theorem dX12_fees_0 : decode cX12_fees 0 = .ok (.iconst 0, 1) := by decide +kernel
theorem dX12_fees_1 : decode cX12_fees 1 = .ok (.istore_n 1, 1) := by decide +kernel
theorem dX12_fees_2 : decode cX12_fees 2 = .ok (.iconst 0, 1) := by decide +kernel
theorem dX12_fees_3 : decode cX12_fees 3 = .ok (.istore_n 2, 1) := by decide +kernel
theorem dX12_fees_4 : decode cX12_fees 4 = .ok (.iload_n 2, 1) := by decide +kernel
theorem dX12_fees_5 : decode cX12_fees 5 = .ok (.aload_n 0, 1) := by decide +kernel
theorem dX12_fees_6 : decode cX12_fees 6 = .ok (.getfield 114, 3) := by decide +kernel
theorem dX12_fees_9 : decode cX12_fees 9 = .ok (.if_icmp .ge 17, 3) := by decide +kernel
theorem dX12_fees_12 : decode cX12_fees 12 = .ok (.iload_n 1, 1) := by decide +kernel
theorem dX12_fees_13 : decode cX12_fees 13 = .ok (.aload_n 0, 1) := by decide +kernel
theorem dX12_fees_14 : decode cX12_fees 14 = .ok (.iload_n 2, 1) := by decide +kernel
theorem dX12_fees_15 : decode cX12_fees 15 = .ok (.invokevirtual 166, 3) := by decide +kernel
theorem dX12_fees_18 : decode cX12_fees 18 = .ok (.iadd, 1) := by decide +kernel
theorem dX12_fees_19 : decode cX12_fees 19 = .ok (.istore_n 1, 1) := by decide +kernel
theorem dX12_fees_20 : decode cX12_fees 20 = .ok (.iinc 2 1, 3) := by decide +kernel
theorem dX12_fees_23 : decode cX12_fees 23 = .ok (.goto (-19), 3) := by decide +kernel
theorem dX12_fees_26 : decode cX12_fees 26 = .ok (.iload_n 1, 1) := by decide +kernel
theorem dX12_fees_27 : decode cX12_fees 27 = .ok (.ireturn, 1) := by decide +kernel
theorem dX12_count_0 : decode cX12_count 0 = .ok (.iload_n 1, 1) := by decide +kernel
theorem dX12_count_1 : decode cX12_count 1 = .ok (.bipush 11, 2) := by decide +kernel
theorem dX12_count_3 : decode cX12_count 3 = .ok (.bipush 16, 2) := by decide +kernel
theorem dX12_count_5 : decode cX12_count 5 = .ok (.invokestatic 96, 3) := by decide +kernel
theorem dX12_count_8 : decode cX12_count 8 = .ok (.ifCond .eq 13, 3) := by decide +kernel
theorem dX12_count_11 : decode cX12_count 11 = .ok (.aload_n 0, 1) := by decide +kernel
theorem dX12_count_12 : decode cX12_count 12 = .ok (.getfield 7, 3) := by decide +kernel
theorem dX12_count_15 : decode cX12_count 15 = .ok (.iload_n 1, 1) := by decide +kernel
theorem dX12_count_16 : decode cX12_count 16 = .ok (.bipush 10, 2) := by decide +kernel
theorem dX12_count_18 : decode cX12_count 18 = .ok (.isub, 1) := by decide +kernel
theorem dX12_count_19 : decode cX12_count 19 = .ok (.iaload, 1) := by decide +kernel
theorem dX12_count_20 : decode cX12_count 20 = .ok (.ireturn, 1) := by decide +kernel
theorem dX12_count_21 : decode cX12_count 21 = .ok (.iload_n 1, 1) := by decide +kernel
theorem dX12_count_22 : decode cX12_count 22 = .ok (.tableswitch 93 0 7 #[46, 51, 56, 61, 73, 78, 83, 88], 46) := by decide +kernel
theorem dX12_count_68 : decode cX12_count 68 = .ok (.aload_n 0, 1) := by decide +kernel
theorem dX12_count_69 : decode cX12_count 69 = .ok (.getfield 114, 3) := by decide +kernel
theorem dX12_count_72 : decode cX12_count 72 = .ok (.ireturn, 1) := by decide +kernel
theorem dX12_count_73 : decode cX12_count 73 = .ok (.aload_n 0, 1) := by decide +kernel
theorem dX12_count_74 : decode cX12_count 74 = .ok (.getfield 117, 3) := by decide +kernel
theorem dX12_count_77 : decode cX12_count 77 = .ok (.ireturn, 1) := by decide +kernel
theorem dX12_count_78 : decode cX12_count 78 = .ok (.aload_n 0, 1) := by decide +kernel
theorem dX12_count_79 : decode cX12_count 79 = .ok (.getfield 129, 3) := by decide +kernel
theorem dX12_count_82 : decode cX12_count 82 = .ok (.ireturn, 1) := by decide +kernel
theorem dX12_count_83 : decode cX12_count 83 = .ok (.aload_n 0, 1) := by decide +kernel
theorem dX12_count_84 : decode cX12_count 84 = .ok (.bipush (-9), 2) := by decide +kernel
theorem dX12_count_86 : decode cX12_count 86 = .ok (.iconst 1, 1) := by decide +kernel
theorem dX12_count_87 : decode cX12_count 87 = .ok (.invokevirtual 184, 3) := by decide +kernel
theorem dX12_count_90 : decode cX12_count 90 = .ok (.aload_n 0, 1) := by decide +kernel
theorem dX12_count_91 : decode cX12_count 91 = .ok (.getfield 175, 3) := by decide +kernel
theorem dX12_count_94 : decode cX12_count 94 = .ok (.ireturn, 1) := by decide +kernel
theorem dX12_count_95 : decode cX12_count 95 = .ok (.aload_n 0, 1) := by decide +kernel
theorem dX12_count_96 : decode cX12_count 96 = .ok (.getfield 120, 3) := by decide +kernel
theorem dX12_count_99 : decode cX12_count 99 = .ok (.ireturn, 1) := by decide +kernel
theorem dX12_count_100 : decode cX12_count 100 = .ok (.aload_n 0, 1) := by decide +kernel
theorem dX12_count_101 : decode cX12_count 101 = .ok (.getfield 81, 3) := by decide +kernel
theorem dX12_count_104 : decode cX12_count 104 = .ok (.ireturn, 1) := by decide +kernel
theorem dX12_count_105 : decode cX12_count 105 = .ok (.aload_n 0, 1) := by decide +kernel
theorem dX12_count_106 : decode cX12_count 106 = .ok (.getfield 234, 3) := by decide +kernel
theorem dX12_count_109 : decode cX12_count 109 = .ok (.ireturn, 1) := by decide +kernel
theorem dX12_count_110 : decode cX12_count 110 = .ok (.aload_n 0, 1) := by decide +kernel
theorem dX12_count_111 : decode cX12_count 111 = .ok (.invokevirtual 246, 3) := by decide +kernel
theorem dX12_count_114 : decode cX12_count 114 = .ok (.ireturn, 1) := by decide +kernel
theorem dX12_count_115 : decode cX12_count 115 = .ok (.bipush (-9), 2) := by decide +kernel
theorem dX12_count_117 : decode cX12_count 117 = .ok (.ireturn, 1) := by decide +kernel
end
section
theorem dL_law_0 : decode cL_law 0 = .ok (.new 7, 3) := by decide +kernel
theorem dL_law_3 : decode cL_law 3 = .ok (.dup, 1) := by decide +kernel
theorem dL_law_4 : decode cL_law 4 = .ok (.invokespecial 9, 3) := by decide +kernel
theorem dL_law_7 : decode cL_law 7 = .ok (.astore_n 1, 1) := by decide +kernel
theorem dL_law_8 : decode cL_law 8 = .ok (.new 10, 3) := by decide +kernel
theorem dL_law_11 : decode cL_law 11 = .ok (.dup, 1) := by decide +kernel
theorem dL_law_12 : decode cL_law 12 = .ok (.invokespecial 12, 3) := by decide +kernel
theorem dL_law_15 : decode cL_law 15 = .ok (.astore_n 2, 1) := by decide +kernel
theorem dL_law_16 : decode cL_law 16 = .ok (.iconst 0, 1) := by decide +kernel
theorem dL_law_17 : decode cL_law 17 = .ok (.istore_n 3, 1) := by decide +kernel
theorem dL_law_18 : decode cL_law 18 = .ok (.iload_n 3, 1) := by decide +kernel
theorem dL_law_19 : decode cL_law 19 = .ok (.aload_n 0, 1) := by decide +kernel
theorem dL_law_20 : decode cL_law 20 = .ok (.arraylength, 1) := by decide +kernel
theorem dL_law_21 : decode cL_law 21 = .ok (.iconst 4, 1) := by decide +kernel
theorem dL_law_22 : decode cL_law 22 = .ok (.isub, 1) := by decide +kernel
theorem dL_law_23 : decode cL_law 23 = .ok (.if_icmp .gt 860, 3) := by decide +kernel
theorem dL_law_26 : decode cL_law 26 = .ok (.aload_n 0, 1) := by decide +kernel
theorem dL_law_27 : decode cL_law 27 = .ok (.iload_n 3, 1) := by decide +kernel
theorem dL_law_28 : decode cL_law 28 = .ok (.iaload, 1) := by decide +kernel
theorem dL_law_29 : decode cL_law 29 = .ok (.bipush 31, 2) := by decide +kernel
theorem dL_law_31 : decode cL_law 31 = .ok (.iand, 1) := by decide +kernel
theorem dL_law_32 : decode cL_law 32 = .ok (.tableswitch 845 0 26 #[124, 147, 160, 193, 226, 249, 272, 315, 358, 391, 414, 437, 480, 513, 546, 559, 582, 595, 628, 651, 684, 707, 730, 763, 796, 809, 822], 124) := by decide +kernel
theorem dL_law_156 : decode cL_law 156 = .ok (.aload_n 1, 1) := by decide +kernel
theorem dL_law_157 : decode cL_law 157 = .ok (.aload_n 0, 1) := by decide +kernel
theorem dL_law_158 : decode cL_law 158 = .ok (.iload_n 3, 1) := by decide +kernel
theorem dL_law_159 : decode cL_law 159 = .ok (.iconst 1, 1) := by decide +kernel
theorem dL_law_160 : decode cL_law 160 = .ok (.iadd, 1) := by decide +kernel
theorem dL_law_161 : decode cL_law 161 = .ok (.iaload, 1) := by decide +kernel
theorem dL_law_162 : decode cL_law 162 = .ok (.invokevirtual 13, 3) := by decide +kernel
theorem dL_law_165 : decode cL_law 165 = .ok (.aload_n 2, 1) := by decide +kernel
theorem dL_law_166 : decode cL_law 166 = .ok (.aload_n 0, 1) := by decide +kernel
theorem dL_law_167 : decode cL_law 167 = .ok (.iload_n 3, 1) := by decide +kernel
theorem dL_law_168 : decode cL_law 168 = .ok (.iconst 1, 1) := by decide +kernel
theorem dL_law_169 : decode cL_law 169 = .ok (.iadd, 1) := by decide +kernel
theorem dL_law_170 : decode cL_law 170 = .ok (.iaload, 1) := by decide +kernel
theorem dL_law_171 : decode cL_law 171 = .ok (.invokevirtual 17, 3) := by decide +kernel
theorem dL_law_174 : decode cL_law 174 = .ok (.if_icmp .eq 703, 3) := by decide +kernel
theorem dL_law_177 : decode cL_law 177 = .ok (.iconst 0, 1) := by decide +kernel
theorem dL_law_178 : decode cL_law 178 = .ok (.ireturn, 1) := by decide +kernel
theorem dL_law_179 : decode cL_law 179 = .ok (.aload_n 1, 1) := by decide +kernel
theorem dL_law_180 : decode cL_law 180 = .ok (.invokevirtual 18, 3) := by decide +kernel
theorem dL_law_183 : decode cL_law 183 = .ok (.aload_n 2, 1) := by decide +kernel
theorem dL_law_184 : decode cL_law 184 = .ok (.invokevirtual 22, 3) := by decide +kernel
theorem dL_law_187 : decode cL_law 187 = .ok (.if_icmp .eq 690, 3) := by decide +kernel
theorem dL_law_190 : decode cL_law 190 = .ok (.iconst 0, 1) := by decide +kernel
theorem dL_law_191 : decode cL_law 191 = .ok (.ireturn, 1) := by decide +kernel
theorem dL_law_192 : decode cL_law 192 = .ok (.aload_n 1, 1) := by decide +kernel
theorem dL_law_193 : decode cL_law 193 = .ok (.aload_n 0, 1) := by decide +kernel
theorem dL_law_194 : decode cL_law 194 = .ok (.iload_n 3, 1) := by decide +kernel
theorem dL_law_195 : decode cL_law 195 = .ok (.iconst 1, 1) := by decide +kernel
theorem dL_law_196 : decode cL_law 196 = .ok (.iadd, 1) := by decide +kernel
theorem dL_law_197 : decode cL_law 197 = .ok (.iaload, 1) := by decide +kernel
theorem dL_law_198 : decode cL_law 198 = .ok (.aload_n 0, 1) := by decide +kernel
theorem dL_law_199 : decode cL_law 199 = .ok (.iload_n 3, 1) := by decide +kernel
theorem dL_law_200 : decode cL_law 200 = .ok (.iconst 2, 1) := by decide +kernel
theorem dL_law_201 : decode cL_law 201 = .ok (.iadd, 1) := by decide +kernel
theorem dL_law_202 : decode cL_law 202 = .ok (.iaload, 1) := by decide +kernel
theorem dL_law_203 : decode cL_law 203 = .ok (.invokevirtual 23, 3) := by decide +kernel
theorem dL_law_206 : decode cL_law 206 = .ok (.aload_n 2, 1) := by decide +kernel
theorem dL_law_207 : decode cL_law 207 = .ok (.aload_n 0, 1) := by decide +kernel
theorem dL_law_208 : decode cL_law 208 = .ok (.iload_n 3, 1) := by decide +kernel
theorem dL_law_209 : decode cL_law 209 = .ok (.iconst 1, 1) := by decide +kernel
theorem dL_law_210 : decode cL_law 210 = .ok (.iadd, 1) := by decide +kernel
theorem dL_law_211 : decode cL_law 211 = .ok (.iaload, 1) := by decide +kernel
theorem dL_law_212 : decode cL_law 212 = .ok (.aload_n 0, 1) := by decide +kernel
theorem dL_law_213 : decode cL_law 213 = .ok (.iload_n 3, 1) := by decide +kernel
theorem dL_law_214 : decode cL_law 214 = .ok (.iconst 2, 1) := by decide +kernel
theorem dL_law_215 : decode cL_law 215 = .ok (.iadd, 1) := by decide +kernel
theorem dL_law_216 : decode cL_law 216 = .ok (.iaload, 1) := by decide +kernel
theorem dL_law_217 : decode cL_law 217 = .ok (.invokevirtual 27, 3) := by decide +kernel
theorem dL_law_220 : decode cL_law 220 = .ok (.if_icmp .eq 657, 3) := by decide +kernel
theorem dL_law_223 : decode cL_law 223 = .ok (.iconst 0, 1) := by decide +kernel
theorem dL_law_224 : decode cL_law 224 = .ok (.ireturn, 1) := by decide +kernel
theorem dL_law_225 : decode cL_law 225 = .ok (.aload_n 1, 1) := by decide +kernel
theorem dL_law_226 : decode cL_law 226 = .ok (.aload_n 0, 1) := by decide +kernel
theorem dL_law_227 : decode cL_law 227 = .ok (.iload_n 3, 1) := by decide +kernel
theorem dL_law_228 : decode cL_law 228 = .ok (.iconst 1, 1) := by decide +kernel
theorem dL_law_229 : decode cL_law 229 = .ok (.iadd, 1) := by decide +kernel
theorem dL_law_230 : decode cL_law 230 = .ok (.iaload, 1) := by decide +kernel
theorem dL_law_231 : decode cL_law 231 = .ok (.aload_n 0, 1) := by decide +kernel
theorem dL_law_232 : decode cL_law 232 = .ok (.iload_n 3, 1) := by decide +kernel
theorem dL_law_233 : decode cL_law 233 = .ok (.iconst 2, 1) := by decide +kernel
theorem dL_law_234 : decode cL_law 234 = .ok (.iadd, 1) := by decide +kernel
theorem dL_law_235 : decode cL_law 235 = .ok (.iaload, 1) := by decide +kernel
theorem dL_law_236 : decode cL_law 236 = .ok (.invokevirtual 28, 3) := by decide +kernel
theorem dL_law_239 : decode cL_law 239 = .ok (.aload_n 2, 1) := by decide +kernel
theorem dL_law_240 : decode cL_law 240 = .ok (.aload_n 0, 1) := by decide +kernel
theorem dL_law_241 : decode cL_law 241 = .ok (.iload_n 3, 1) := by decide +kernel
theorem dL_law_242 : decode cL_law 242 = .ok (.iconst 1, 1) := by decide +kernel
theorem dL_law_243 : decode cL_law 243 = .ok (.iadd, 1) := by decide +kernel
theorem dL_law_244 : decode cL_law 244 = .ok (.iaload, 1) := by decide +kernel
theorem dL_law_245 : decode cL_law 245 = .ok (.aload_n 0, 1) := by decide +kernel
theorem dL_law_246 : decode cL_law 246 = .ok (.iload_n 3, 1) := by decide +kernel
theorem dL_law_247 : decode cL_law 247 = .ok (.iconst 2, 1) := by decide +kernel
theorem dL_law_248 : decode cL_law 248 = .ok (.iadd, 1) := by decide +kernel
theorem dL_law_249 : decode cL_law 249 = .ok (.iaload, 1) := by decide +kernel
theorem dL_law_250 : decode cL_law 250 = .ok (.invokevirtual 31, 3) := by decide +kernel
theorem dL_law_253 : decode cL_law 253 = .ok (.if_icmp .eq 624, 3) := by decide +kernel
theorem dL_law_256 : decode cL_law 256 = .ok (.iconst 0, 1) := by decide +kernel
theorem dL_law_257 : decode cL_law 257 = .ok (.ireturn, 1) := by decide +kernel
theorem dL_law_258 : decode cL_law 258 = .ok (.aload_n 1, 1) := by decide +kernel
theorem dL_law_259 : decode cL_law 259 = .ok (.aload_n 0, 1) := by decide +kernel
theorem dL_law_260 : decode cL_law 260 = .ok (.iload_n 3, 1) := by decide +kernel
theorem dL_law_261 : decode cL_law 261 = .ok (.iconst 1, 1) := by decide +kernel
theorem dL_law_262 : decode cL_law 262 = .ok (.iadd, 1) := by decide +kernel
theorem dL_law_263 : decode cL_law 263 = .ok (.iaload, 1) := by decide +kernel
theorem dL_law_264 : decode cL_law 264 = .ok (.invokevirtual 32, 3) := by decide +kernel
theorem dL_law_267 : decode cL_law 267 = .ok (.aload_n 2, 1) := by decide +kernel
theorem dL_law_268 : decode cL_law 268 = .ok (.aload_n 0, 1) := by decide +kernel
theorem dL_law_269 : decode cL_law 269 = .ok (.iload_n 3, 1) := by decide +kernel
theorem dL_law_270 : decode cL_law 270 = .ok (.iconst 1, 1) := by decide +kernel
theorem dL_law_271 : decode cL_law 271 = .ok (.iadd, 1) := by decide +kernel
theorem dL_law_272 : decode cL_law 272 = .ok (.iaload, 1) := by decide +kernel
theorem dL_law_273 : decode cL_law 273 = .ok (.invokevirtual 35, 3) := by decide +kernel
theorem dL_law_276 : decode cL_law 276 = .ok (.if_icmp .eq 601, 3) := by decide +kernel
theorem dL_law_279 : decode cL_law 279 = .ok (.iconst 0, 1) := by decide +kernel
theorem dL_law_280 : decode cL_law 280 = .ok (.ireturn, 1) := by decide +kernel
theorem dL_law_281 : decode cL_law 281 = .ok (.aload_n 1, 1) := by decide +kernel
theorem dL_law_282 : decode cL_law 282 = .ok (.aload_n 0, 1) := by decide +kernel
theorem dL_law_283 : decode cL_law 283 = .ok (.iload_n 3, 1) := by decide +kernel
theorem dL_law_284 : decode cL_law 284 = .ok (.iconst 1, 1) := by decide +kernel
theorem dL_law_285 : decode cL_law 285 = .ok (.iadd, 1) := by decide +kernel
theorem dL_law_286 : decode cL_law 286 = .ok (.iaload, 1) := by decide +kernel
theorem dL_law_287 : decode cL_law 287 = .ok (.invokevirtual 36, 3) := by decide +kernel
theorem dL_law_290 : decode cL_law 290 = .ok (.aload_n 2, 1) := by decide +kernel
theorem dL_law_291 : decode cL_law 291 = .ok (.aload_n 0, 1) := by decide +kernel
theorem dL_law_292 : decode cL_law 292 = .ok (.iload_n 3, 1) := by decide +kernel
theorem dL_law_293 : decode cL_law 293 = .ok (.iconst 1, 1) := by decide +kernel
theorem dL_law_294 : decode cL_law 294 = .ok (.iadd, 1) := by decide +kernel
theorem dL_law_295 : decode cL_law 295 = .ok (.iaload, 1) := by decide +kernel
theorem dL_law_296 : decode cL_law 296 = .ok (.invokevirtual 39, 3) := by decide +kernel
theorem dL_law_299 : decode cL_law 299 = .ok (.if_icmp .eq 578, 3) := by decide +kernel
theorem dL_law_302 : decode cL_law 302 = .ok (.iconst 0, 1) := by decide +kernel
theorem dL_law_303 : decode cL_law 303 = .ok (.ireturn, 1) := by decide +kernel
theorem dL_law_304 : decode cL_law 304 = .ok (.aload_n 1, 1) := by decide +kernel
theorem dL_law_305 : decode cL_law 305 = .ok (.aload_n 0, 1) := by decide +kernel
theorem dL_law_306 : decode cL_law 306 = .ok (.iload_n 3, 1) := by decide +kernel
theorem dL_law_307 : decode cL_law 307 = .ok (.iconst 1, 1) := by decide +kernel
theorem dL_law_308 : decode cL_law 308 = .ok (.iadd, 1) := by decide +kernel
theorem dL_law_309 : decode cL_law 309 = .ok (.iaload, 1) := by decide +kernel
theorem dL_law_310 : decode cL_law 310 = .ok (.aload_n 0, 1) := by decide +kernel
theorem dL_law_311 : decode cL_law 311 = .ok (.iload_n 3, 1) := by decide +kernel
theorem dL_law_312 : decode cL_law 312 = .ok (.iconst 2, 1) := by decide +kernel
theorem dL_law_313 : decode cL_law 313 = .ok (.iadd, 1) := by decide +kernel
theorem dL_law_314 : decode cL_law 314 = .ok (.iaload, 1) := by decide +kernel
theorem dL_law_315 : decode cL_law 315 = .ok (.aload_n 0, 1) := by decide +kernel
theorem dL_law_316 : decode cL_law 316 = .ok (.iload_n 3, 1) := by decide +kernel
theorem dL_law_317 : decode cL_law 317 = .ok (.iconst 3, 1) := by decide +kernel
theorem dL_law_318 : decode cL_law 318 = .ok (.iadd, 1) := by decide +kernel
theorem dL_law_319 : decode cL_law 319 = .ok (.iaload, 1) := by decide +kernel
theorem dL_law_320 : decode cL_law 320 = .ok (.invokevirtual 40, 3) := by decide +kernel
theorem dL_law_323 : decode cL_law 323 = .ok (.aload_n 2, 1) := by decide +kernel
theorem dL_law_324 : decode cL_law 324 = .ok (.aload_n 0, 1) := by decide +kernel
theorem dL_law_325 : decode cL_law 325 = .ok (.iload_n 3, 1) := by decide +kernel
theorem dL_law_326 : decode cL_law 326 = .ok (.iconst 1, 1) := by decide +kernel
theorem dL_law_327 : decode cL_law 327 = .ok (.iadd, 1) := by decide +kernel
theorem dL_law_328 : decode cL_law 328 = .ok (.iaload, 1) := by decide +kernel
theorem dL_law_329 : decode cL_law 329 = .ok (.aload_n 0, 1) := by decide +kernel
theorem dL_law_330 : decode cL_law 330 = .ok (.iload_n 3, 1) := by decide +kernel
theorem dL_law_331 : decode cL_law 331 = .ok (.iconst 2, 1) := by decide +kernel
theorem dL_law_332 : decode cL_law 332 = .ok (.iadd, 1) := by decide +kernel
theorem dL_law_333 : decode cL_law 333 = .ok (.iaload, 1) := by decide +kernel
theorem dL_law_334 : decode cL_law 334 = .ok (.aload_n 0, 1) := by decide +kernel
theorem dL_law_335 : decode cL_law 335 = .ok (.iload_n 3, 1) := by decide +kernel
theorem dL_law_336 : decode cL_law 336 = .ok (.iconst 3, 1) := by decide +kernel
theorem dL_law_337 : decode cL_law 337 = .ok (.iadd, 1) := by decide +kernel
theorem dL_law_338 : decode cL_law 338 = .ok (.iaload, 1) := by decide +kernel
theorem dL_law_339 : decode cL_law 339 = .ok (.invokevirtual 44, 3) := by decide +kernel
theorem dL_law_342 : decode cL_law 342 = .ok (.if_icmp .eq 535, 3) := by decide +kernel
theorem dL_law_345 : decode cL_law 345 = .ok (.iconst 0, 1) := by decide +kernel
theorem dL_law_346 : decode cL_law 346 = .ok (.ireturn, 1) := by decide +kernel
theorem dL_law_347 : decode cL_law 347 = .ok (.aload_n 1, 1) := by decide +kernel
theorem dL_law_348 : decode cL_law 348 = .ok (.aload_n 0, 1) := by decide +kernel
theorem dL_law_349 : decode cL_law 349 = .ok (.iload_n 3, 1) := by decide +kernel
theorem dL_law_350 : decode cL_law 350 = .ok (.iconst 1, 1) := by decide +kernel
theorem dL_law_351 : decode cL_law 351 = .ok (.iadd, 1) := by decide +kernel
theorem dL_law_352 : decode cL_law 352 = .ok (.iaload, 1) := by decide +kernel
theorem dL_law_353 : decode cL_law 353 = .ok (.aload_n 0, 1) := by decide +kernel
theorem dL_law_354 : decode cL_law 354 = .ok (.iload_n 3, 1) := by decide +kernel
theorem dL_law_355 : decode cL_law 355 = .ok (.iconst 2, 1) := by decide +kernel
theorem dL_law_356 : decode cL_law 356 = .ok (.iadd, 1) := by decide +kernel
theorem dL_law_357 : decode cL_law 357 = .ok (.iaload, 1) := by decide +kernel
theorem dL_law_358 : decode cL_law 358 = .ok (.aload_n 0, 1) := by decide +kernel
theorem dL_law_359 : decode cL_law 359 = .ok (.iload_n 3, 1) := by decide +kernel
theorem dL_law_360 : decode cL_law 360 = .ok (.iconst 3, 1) := by decide +kernel
theorem dL_law_361 : decode cL_law 361 = .ok (.iadd, 1) := by decide +kernel
theorem dL_law_362 : decode cL_law 362 = .ok (.iaload, 1) := by decide +kernel
theorem dL_law_363 : decode cL_law 363 = .ok (.invokevirtual 45, 3) := by decide +kernel
theorem dL_law_366 : decode cL_law 366 = .ok (.aload_n 2, 1) := by decide +kernel
theorem dL_law_367 : decode cL_law 367 = .ok (.aload_n 0, 1) := by decide +kernel
theorem dL_law_368 : decode cL_law 368 = .ok (.iload_n 3, 1) := by decide +kernel
theorem dL_law_369 : decode cL_law 369 = .ok (.iconst 1, 1) := by decide +kernel
theorem dL_law_370 : decode cL_law 370 = .ok (.iadd, 1) := by decide +kernel
theorem dL_law_371 : decode cL_law 371 = .ok (.iaload, 1) := by decide +kernel
theorem dL_law_372 : decode cL_law 372 = .ok (.aload_n 0, 1) := by decide +kernel
theorem dL_law_373 : decode cL_law 373 = .ok (.iload_n 3, 1) := by decide +kernel
theorem dL_law_374 : decode cL_law 374 = .ok (.iconst 2, 1) := by decide +kernel
theorem dL_law_375 : decode cL_law 375 = .ok (.iadd, 1) := by decide +kernel
theorem dL_law_376 : decode cL_law 376 = .ok (.iaload, 1) := by decide +kernel
theorem dL_law_377 : decode cL_law 377 = .ok (.aload_n 0, 1) := by decide +kernel
theorem dL_law_378 : decode cL_law 378 = .ok (.iload_n 3, 1) := by decide +kernel
theorem dL_law_379 : decode cL_law 379 = .ok (.iconst 3, 1) := by decide +kernel
theorem dL_law_380 : decode cL_law 380 = .ok (.iadd, 1) := by decide +kernel
theorem dL_law_381 : decode cL_law 381 = .ok (.iaload, 1) := by decide +kernel
theorem dL_law_382 : decode cL_law 382 = .ok (.invokevirtual 48, 3) := by decide +kernel
theorem dL_law_385 : decode cL_law 385 = .ok (.if_icmp .eq 492, 3) := by decide +kernel
theorem dL_law_388 : decode cL_law 388 = .ok (.iconst 0, 1) := by decide +kernel
theorem dL_law_389 : decode cL_law 389 = .ok (.ireturn, 1) := by decide +kernel
theorem dL_law_390 : decode cL_law 390 = .ok (.aload_n 1, 1) := by decide +kernel
theorem dL_law_391 : decode cL_law 391 = .ok (.aload_n 0, 1) := by decide +kernel
theorem dL_law_392 : decode cL_law 392 = .ok (.iload_n 3, 1) := by decide +kernel
theorem dL_law_393 : decode cL_law 393 = .ok (.iconst 1, 1) := by decide +kernel
theorem dL_law_394 : decode cL_law 394 = .ok (.iadd, 1) := by decide +kernel
theorem dL_law_395 : decode cL_law 395 = .ok (.iaload, 1) := by decide +kernel
theorem dL_law_396 : decode cL_law 396 = .ok (.aload_n 0, 1) := by decide +kernel
theorem dL_law_397 : decode cL_law 397 = .ok (.iload_n 3, 1) := by decide +kernel
theorem dL_law_398 : decode cL_law 398 = .ok (.iconst 2, 1) := by decide +kernel
theorem dL_law_399 : decode cL_law 399 = .ok (.iadd, 1) := by decide +kernel
theorem dL_law_400 : decode cL_law 400 = .ok (.iaload, 1) := by decide +kernel
theorem dL_law_401 : decode cL_law 401 = .ok (.invokevirtual 49, 3) := by decide +kernel
theorem dL_law_404 : decode cL_law 404 = .ok (.aload_n 2, 1) := by decide +kernel
theorem dL_law_405 : decode cL_law 405 = .ok (.aload_n 0, 1) := by decide +kernel
theorem dL_law_406 : decode cL_law 406 = .ok (.iload_n 3, 1) := by decide +kernel
theorem dL_law_407 : decode cL_law 407 = .ok (.iconst 1, 1) := by decide +kernel
theorem dL_law_408 : decode cL_law 408 = .ok (.iadd, 1) := by decide +kernel
theorem dL_law_409 : decode cL_law 409 = .ok (.iaload, 1) := by decide +kernel
theorem dL_law_410 : decode cL_law 410 = .ok (.aload_n 0, 1) := by decide +kernel
theorem dL_law_411 : decode cL_law 411 = .ok (.iload_n 3, 1) := by decide +kernel
theorem dL_law_412 : decode cL_law 412 = .ok (.iconst 2, 1) := by decide +kernel
theorem dL_law_413 : decode cL_law 413 = .ok (.iadd, 1) := by decide +kernel
theorem dL_law_414 : decode cL_law 414 = .ok (.iaload, 1) := by decide +kernel
theorem dL_law_415 : decode cL_law 415 = .ok (.invokevirtual 52, 3) := by decide +kernel
theorem dL_law_418 : decode cL_law 418 = .ok (.if_icmp .eq 459, 3) := by decide +kernel
theorem dL_law_421 : decode cL_law 421 = .ok (.iconst 0, 1) := by decide +kernel
theorem dL_law_422 : decode cL_law 422 = .ok (.ireturn, 1) := by decide +kernel
theorem dL_law_423 : decode cL_law 423 = .ok (.aload_n 1, 1) := by decide +kernel
theorem dL_law_424 : decode cL_law 424 = .ok (.aload_n 0, 1) := by decide +kernel
theorem dL_law_425 : decode cL_law 425 = .ok (.iload_n 3, 1) := by decide +kernel
theorem dL_law_426 : decode cL_law 426 = .ok (.iconst 1, 1) := by decide +kernel
theorem dL_law_427 : decode cL_law 427 = .ok (.iadd, 1) := by decide +kernel
theorem dL_law_428 : decode cL_law 428 = .ok (.iaload, 1) := by decide +kernel
theorem dL_law_429 : decode cL_law 429 = .ok (.invokevirtual 53, 3) := by decide +kernel
theorem dL_law_432 : decode cL_law 432 = .ok (.aload_n 2, 1) := by decide +kernel
theorem dL_law_433 : decode cL_law 433 = .ok (.aload_n 0, 1) := by decide +kernel
theorem dL_law_434 : decode cL_law 434 = .ok (.iload_n 3, 1) := by decide +kernel
theorem dL_law_435 : decode cL_law 435 = .ok (.iconst 1, 1) := by decide +kernel
theorem dL_law_436 : decode cL_law 436 = .ok (.iadd, 1) := by decide +kernel
theorem dL_law_437 : decode cL_law 437 = .ok (.iaload, 1) := by decide +kernel
theorem dL_law_438 : decode cL_law 438 = .ok (.invokevirtual 56, 3) := by decide +kernel
theorem dL_law_441 : decode cL_law 441 = .ok (.if_icmp .eq 436, 3) := by decide +kernel
theorem dL_law_444 : decode cL_law 444 = .ok (.iconst 0, 1) := by decide +kernel
theorem dL_law_445 : decode cL_law 445 = .ok (.ireturn, 1) := by decide +kernel
theorem dL_law_446 : decode cL_law 446 = .ok (.aload_n 1, 1) := by decide +kernel
theorem dL_law_447 : decode cL_law 447 = .ok (.aload_n 0, 1) := by decide +kernel
theorem dL_law_448 : decode cL_law 448 = .ok (.iload_n 3, 1) := by decide +kernel
theorem dL_law_449 : decode cL_law 449 = .ok (.iconst 1, 1) := by decide +kernel
theorem dL_law_450 : decode cL_law 450 = .ok (.iadd, 1) := by decide +kernel
theorem dL_law_451 : decode cL_law 451 = .ok (.iaload, 1) := by decide +kernel
theorem dL_law_452 : decode cL_law 452 = .ok (.invokevirtual 57, 3) := by decide +kernel
theorem dL_law_455 : decode cL_law 455 = .ok (.aload_n 2, 1) := by decide +kernel
theorem dL_law_456 : decode cL_law 456 = .ok (.aload_n 0, 1) := by decide +kernel
theorem dL_law_457 : decode cL_law 457 = .ok (.iload_n 3, 1) := by decide +kernel
theorem dL_law_458 : decode cL_law 458 = .ok (.iconst 1, 1) := by decide +kernel
theorem dL_law_459 : decode cL_law 459 = .ok (.iadd, 1) := by decide +kernel
theorem dL_law_460 : decode cL_law 460 = .ok (.iaload, 1) := by decide +kernel
theorem dL_law_461 : decode cL_law 461 = .ok (.invokevirtual 60, 3) := by decide +kernel
theorem dL_law_464 : decode cL_law 464 = .ok (.if_icmp .eq 413, 3) := by decide +kernel
theorem dL_law_467 : decode cL_law 467 = .ok (.iconst 0, 1) := by decide +kernel
theorem dL_law_468 : decode cL_law 468 = .ok (.ireturn, 1) := by decide +kernel
theorem dL_law_469 : decode cL_law 469 = .ok (.aload_n 1, 1) := by decide +kernel
theorem dL_law_470 : decode cL_law 470 = .ok (.aload_n 0, 1) := by decide +kernel
theorem dL_law_471 : decode cL_law 471 = .ok (.iload_n 3, 1) := by decide +kernel
theorem dL_law_472 : decode cL_law 472 = .ok (.iconst 1, 1) := by decide +kernel
theorem dL_law_473 : decode cL_law 473 = .ok (.iadd, 1) := by decide +kernel
theorem dL_law_474 : decode cL_law 474 = .ok (.iaload, 1) := by decide +kernel
theorem dL_law_475 : decode cL_law 475 = .ok (.aload_n 0, 1) := by decide +kernel
theorem dL_law_476 : decode cL_law 476 = .ok (.iload_n 3, 1) := by decide +kernel
theorem dL_law_477 : decode cL_law 477 = .ok (.iconst 2, 1) := by decide +kernel
theorem dL_law_478 : decode cL_law 478 = .ok (.iadd, 1) := by decide +kernel
theorem dL_law_479 : decode cL_law 479 = .ok (.iaload, 1) := by decide +kernel
theorem dL_law_480 : decode cL_law 480 = .ok (.aload_n 0, 1) := by decide +kernel
theorem dL_law_481 : decode cL_law 481 = .ok (.iload_n 3, 1) := by decide +kernel
theorem dL_law_482 : decode cL_law 482 = .ok (.iconst 3, 1) := by decide +kernel
theorem dL_law_483 : decode cL_law 483 = .ok (.iadd, 1) := by decide +kernel
theorem dL_law_484 : decode cL_law 484 = .ok (.iaload, 1) := by decide +kernel
theorem dL_law_485 : decode cL_law 485 = .ok (.invokevirtual 61, 3) := by decide +kernel
theorem dL_law_488 : decode cL_law 488 = .ok (.aload_n 2, 1) := by decide +kernel
theorem dL_law_489 : decode cL_law 489 = .ok (.aload_n 0, 1) := by decide +kernel
theorem dL_law_490 : decode cL_law 490 = .ok (.iload_n 3, 1) := by decide +kernel
theorem dL_law_491 : decode cL_law 491 = .ok (.iconst 1, 1) := by decide +kernel
theorem dL_law_492 : decode cL_law 492 = .ok (.iadd, 1) := by decide +kernel
theorem dL_law_493 : decode cL_law 493 = .ok (.iaload, 1) := by decide +kernel
theorem dL_law_494 : decode cL_law 494 = .ok (.aload_n 0, 1) := by decide +kernel
theorem dL_law_495 : decode cL_law 495 = .ok (.iload_n 3, 1) := by decide +kernel
theorem dL_law_496 : decode cL_law 496 = .ok (.iconst 2, 1) := by decide +kernel
theorem dL_law_497 : decode cL_law 497 = .ok (.iadd, 1) := by decide +kernel
theorem dL_law_498 : decode cL_law 498 = .ok (.iaload, 1) := by decide +kernel
theorem dL_law_499 : decode cL_law 499 = .ok (.aload_n 0, 1) := by decide +kernel
theorem dL_law_500 : decode cL_law 500 = .ok (.iload_n 3, 1) := by decide +kernel
theorem dL_law_501 : decode cL_law 501 = .ok (.iconst 3, 1) := by decide +kernel
theorem dL_law_502 : decode cL_law 502 = .ok (.iadd, 1) := by decide +kernel
theorem dL_law_503 : decode cL_law 503 = .ok (.iaload, 1) := by decide +kernel
theorem dL_law_504 : decode cL_law 504 = .ok (.invokevirtual 64, 3) := by decide +kernel
theorem dL_law_507 : decode cL_law 507 = .ok (.if_icmp .eq 370, 3) := by decide +kernel
theorem dL_law_510 : decode cL_law 510 = .ok (.iconst 0, 1) := by decide +kernel
theorem dL_law_511 : decode cL_law 511 = .ok (.ireturn, 1) := by decide +kernel
theorem dL_law_512 : decode cL_law 512 = .ok (.aload_n 1, 1) := by decide +kernel
theorem dL_law_513 : decode cL_law 513 = .ok (.aload_n 0, 1) := by decide +kernel
theorem dL_law_514 : decode cL_law 514 = .ok (.iload_n 3, 1) := by decide +kernel
theorem dL_law_515 : decode cL_law 515 = .ok (.iconst 1, 1) := by decide +kernel
theorem dL_law_516 : decode cL_law 516 = .ok (.iadd, 1) := by decide +kernel
theorem dL_law_517 : decode cL_law 517 = .ok (.iaload, 1) := by decide +kernel
theorem dL_law_518 : decode cL_law 518 = .ok (.aload_n 0, 1) := by decide +kernel
theorem dL_law_519 : decode cL_law 519 = .ok (.iload_n 3, 1) := by decide +kernel
theorem dL_law_520 : decode cL_law 520 = .ok (.iconst 2, 1) := by decide +kernel
theorem dL_law_521 : decode cL_law 521 = .ok (.iadd, 1) := by decide +kernel
theorem dL_law_522 : decode cL_law 522 = .ok (.iaload, 1) := by decide +kernel
theorem dL_law_523 : decode cL_law 523 = .ok (.invokevirtual 65, 3) := by decide +kernel
theorem dL_law_526 : decode cL_law 526 = .ok (.aload_n 2, 1) := by decide +kernel
theorem dL_law_527 : decode cL_law 527 = .ok (.aload_n 0, 1) := by decide +kernel
theorem dL_law_528 : decode cL_law 528 = .ok (.iload_n 3, 1) := by decide +kernel
theorem dL_law_529 : decode cL_law 529 = .ok (.iconst 1, 1) := by decide +kernel
theorem dL_law_530 : decode cL_law 530 = .ok (.iadd, 1) := by decide +kernel
theorem dL_law_531 : decode cL_law 531 = .ok (.iaload, 1) := by decide +kernel
theorem dL_law_532 : decode cL_law 532 = .ok (.aload_n 0, 1) := by decide +kernel
theorem dL_law_533 : decode cL_law 533 = .ok (.iload_n 3, 1) := by decide +kernel
theorem dL_law_534 : decode cL_law 534 = .ok (.iconst 2, 1) := by decide +kernel
theorem dL_law_535 : decode cL_law 535 = .ok (.iadd, 1) := by decide +kernel
theorem dL_law_536 : decode cL_law 536 = .ok (.iaload, 1) := by decide +kernel
theorem dL_law_537 : decode cL_law 537 = .ok (.invokevirtual 68, 3) := by decide +kernel
theorem dL_law_540 : decode cL_law 540 = .ok (.if_icmp .eq 337, 3) := by decide +kernel
theorem dL_law_543 : decode cL_law 543 = .ok (.iconst 0, 1) := by decide +kernel
theorem dL_law_544 : decode cL_law 544 = .ok (.ireturn, 1) := by decide +kernel
theorem dL_law_545 : decode cL_law 545 = .ok (.aload_n 1, 1) := by decide +kernel
theorem dL_law_546 : decode cL_law 546 = .ok (.aload_n 0, 1) := by decide +kernel
theorem dL_law_547 : decode cL_law 547 = .ok (.iload_n 3, 1) := by decide +kernel
theorem dL_law_548 : decode cL_law 548 = .ok (.iconst 1, 1) := by decide +kernel
theorem dL_law_549 : decode cL_law 549 = .ok (.iadd, 1) := by decide +kernel
theorem dL_law_550 : decode cL_law 550 = .ok (.iaload, 1) := by decide +kernel
theorem dL_law_551 : decode cL_law 551 = .ok (.aload_n 0, 1) := by decide +kernel
theorem dL_law_552 : decode cL_law 552 = .ok (.iload_n 3, 1) := by decide +kernel
theorem dL_law_553 : decode cL_law 553 = .ok (.iconst 2, 1) := by decide +kernel
theorem dL_law_554 : decode cL_law 554 = .ok (.iadd, 1) := by decide +kernel
theorem dL_law_555 : decode cL_law 555 = .ok (.iaload, 1) := by decide +kernel
theorem dL_law_556 : decode cL_law 556 = .ok (.invokevirtual 69, 3) := by decide +kernel
theorem dL_law_559 : decode cL_law 559 = .ok (.aload_n 2, 1) := by decide +kernel
theorem dL_law_560 : decode cL_law 560 = .ok (.aload_n 0, 1) := by decide +kernel
theorem dL_law_561 : decode cL_law 561 = .ok (.iload_n 3, 1) := by decide +kernel
theorem dL_law_562 : decode cL_law 562 = .ok (.iconst 1, 1) := by decide +kernel
theorem dL_law_563 : decode cL_law 563 = .ok (.iadd, 1) := by decide +kernel
theorem dL_law_564 : decode cL_law 564 = .ok (.iaload, 1) := by decide +kernel
theorem dL_law_565 : decode cL_law 565 = .ok (.aload_n 0, 1) := by decide +kernel
theorem dL_law_566 : decode cL_law 566 = .ok (.iload_n 3, 1) := by decide +kernel
theorem dL_law_567 : decode cL_law 567 = .ok (.iconst 2, 1) := by decide +kernel
theorem dL_law_568 : decode cL_law 568 = .ok (.iadd, 1) := by decide +kernel
theorem dL_law_569 : decode cL_law 569 = .ok (.iaload, 1) := by decide +kernel
theorem dL_law_570 : decode cL_law 570 = .ok (.invokevirtual 72, 3) := by decide +kernel
theorem dL_law_573 : decode cL_law 573 = .ok (.if_icmp .eq 304, 3) := by decide +kernel
theorem dL_law_576 : decode cL_law 576 = .ok (.iconst 0, 1) := by decide +kernel
theorem dL_law_577 : decode cL_law 577 = .ok (.ireturn, 1) := by decide +kernel
theorem dL_law_578 : decode cL_law 578 = .ok (.aload_n 1, 1) := by decide +kernel
theorem dL_law_579 : decode cL_law 579 = .ok (.invokevirtual 73, 3) := by decide +kernel
theorem dL_law_582 : decode cL_law 582 = .ok (.aload_n 2, 1) := by decide +kernel
theorem dL_law_583 : decode cL_law 583 = .ok (.invokevirtual 76, 3) := by decide +kernel
theorem dL_law_586 : decode cL_law 586 = .ok (.if_icmp .eq 291, 3) := by decide +kernel
theorem dL_law_589 : decode cL_law 589 = .ok (.iconst 0, 1) := by decide +kernel
theorem dL_law_590 : decode cL_law 590 = .ok (.ireturn, 1) := by decide +kernel
theorem dL_law_591 : decode cL_law 591 = .ok (.aload_n 1, 1) := by decide +kernel
theorem dL_law_592 : decode cL_law 592 = .ok (.aload_n 0, 1) := by decide +kernel
theorem dL_law_593 : decode cL_law 593 = .ok (.iload_n 3, 1) := by decide +kernel
theorem dL_law_594 : decode cL_law 594 = .ok (.iconst 1, 1) := by decide +kernel
theorem dL_law_595 : decode cL_law 595 = .ok (.iadd, 1) := by decide +kernel
theorem dL_law_596 : decode cL_law 596 = .ok (.iaload, 1) := by decide +kernel
theorem dL_law_597 : decode cL_law 597 = .ok (.invokevirtual 77, 3) := by decide +kernel
theorem dL_law_600 : decode cL_law 600 = .ok (.aload_n 2, 1) := by decide +kernel
theorem dL_law_601 : decode cL_law 601 = .ok (.aload_n 0, 1) := by decide +kernel
theorem dL_law_602 : decode cL_law 602 = .ok (.iload_n 3, 1) := by decide +kernel
theorem dL_law_603 : decode cL_law 603 = .ok (.iconst 1, 1) := by decide +kernel
theorem dL_law_604 : decode cL_law 604 = .ok (.iadd, 1) := by decide +kernel
theorem dL_law_605 : decode cL_law 605 = .ok (.iaload, 1) := by decide +kernel
theorem dL_law_606 : decode cL_law 606 = .ok (.invokevirtual 80, 3) := by decide +kernel
theorem dL_law_609 : decode cL_law 609 = .ok (.if_icmp .eq 268, 3) := by decide +kernel
theorem dL_law_612 : decode cL_law 612 = .ok (.iconst 0, 1) := by decide +kernel
theorem dL_law_613 : decode cL_law 613 = .ok (.ireturn, 1) := by decide +kernel
theorem dL_law_614 : decode cL_law 614 = .ok (.aload_n 1, 1) := by decide +kernel
theorem dL_law_615 : decode cL_law 615 = .ok (.invokevirtual 81, 3) := by decide +kernel
theorem dL_law_618 : decode cL_law 618 = .ok (.aload_n 2, 1) := by decide +kernel
theorem dL_law_619 : decode cL_law 619 = .ok (.invokevirtual 84, 3) := by decide +kernel
theorem dL_law_622 : decode cL_law 622 = .ok (.if_icmp .eq 255, 3) := by decide +kernel
theorem dL_law_625 : decode cL_law 625 = .ok (.iconst 0, 1) := by decide +kernel
theorem dL_law_626 : decode cL_law 626 = .ok (.ireturn, 1) := by decide +kernel
theorem dL_law_627 : decode cL_law 627 = .ok (.aload_n 1, 1) := by decide +kernel
theorem dL_law_628 : decode cL_law 628 = .ok (.aload_n 0, 1) := by decide +kernel
theorem dL_law_629 : decode cL_law 629 = .ok (.iload_n 3, 1) := by decide +kernel
theorem dL_law_630 : decode cL_law 630 = .ok (.iconst 1, 1) := by decide +kernel
theorem dL_law_631 : decode cL_law 631 = .ok (.iadd, 1) := by decide +kernel
theorem dL_law_632 : decode cL_law 632 = .ok (.iaload, 1) := by decide +kernel
theorem dL_law_633 : decode cL_law 633 = .ok (.aload_n 0, 1) := by decide +kernel
theorem dL_law_634 : decode cL_law 634 = .ok (.iload_n 3, 1) := by decide +kernel
theorem dL_law_635 : decode cL_law 635 = .ok (.iconst 2, 1) := by decide +kernel
theorem dL_law_636 : decode cL_law 636 = .ok (.iadd, 1) := by decide +kernel
theorem dL_law_637 : decode cL_law 637 = .ok (.iaload, 1) := by decide +kernel
theorem dL_law_638 : decode cL_law 638 = .ok (.invokevirtual 85, 3) := by decide +kernel
theorem dL_law_641 : decode cL_law 641 = .ok (.aload_n 2, 1) := by decide +kernel
theorem dL_law_642 : decode cL_law 642 = .ok (.aload_n 0, 1) := by decide +kernel
theorem dL_law_643 : decode cL_law 643 = .ok (.iload_n 3, 1) := by decide +kernel
theorem dL_law_644 : decode cL_law 644 = .ok (.iconst 1, 1) := by decide +kernel
theorem dL_law_645 : decode cL_law 645 = .ok (.iadd, 1) := by decide +kernel
theorem dL_law_646 : decode cL_law 646 = .ok (.iaload, 1) := by decide +kernel
theorem dL_law_647 : decode cL_law 647 = .ok (.aload_n 0, 1) := by decide +kernel
theorem dL_law_648 : decode cL_law 648 = .ok (.iload_n 3, 1) := by decide +kernel
theorem dL_law_649 : decode cL_law 649 = .ok (.iconst 2, 1) := by decide +kernel
theorem dL_law_650 : decode cL_law 650 = .ok (.iadd, 1) := by decide +kernel
theorem dL_law_651 : decode cL_law 651 = .ok (.iaload, 1) := by decide +kernel
theorem dL_law_652 : decode cL_law 652 = .ok (.invokevirtual 88, 3) := by decide +kernel
theorem dL_law_655 : decode cL_law 655 = .ok (.if_icmp .eq 222, 3) := by decide +kernel
theorem dL_law_658 : decode cL_law 658 = .ok (.iconst 0, 1) := by decide +kernel
theorem dL_law_659 : decode cL_law 659 = .ok (.ireturn, 1) := by decide +kernel
theorem dL_law_660 : decode cL_law 660 = .ok (.aload_n 1, 1) := by decide +kernel
theorem dL_law_661 : decode cL_law 661 = .ok (.aload_n 0, 1) := by decide +kernel
theorem dL_law_662 : decode cL_law 662 = .ok (.iload_n 3, 1) := by decide +kernel
theorem dL_law_663 : decode cL_law 663 = .ok (.iconst 1, 1) := by decide +kernel
theorem dL_law_664 : decode cL_law 664 = .ok (.iadd, 1) := by decide +kernel
theorem dL_law_665 : decode cL_law 665 = .ok (.iaload, 1) := by decide +kernel
theorem dL_law_666 : decode cL_law 666 = .ok (.invokevirtual 89, 3) := by decide +kernel
theorem dL_law_669 : decode cL_law 669 = .ok (.aload_n 2, 1) := by decide +kernel
theorem dL_law_670 : decode cL_law 670 = .ok (.aload_n 0, 1) := by decide +kernel
theorem dL_law_671 : decode cL_law 671 = .ok (.iload_n 3, 1) := by decide +kernel
theorem dL_law_672 : decode cL_law 672 = .ok (.iconst 1, 1) := by decide +kernel
theorem dL_law_673 : decode cL_law 673 = .ok (.iadd, 1) := by decide +kernel
theorem dL_law_674 : decode cL_law 674 = .ok (.iaload, 1) := by decide +kernel
theorem dL_law_675 : decode cL_law 675 = .ok (.invokevirtual 92, 3) := by decide +kernel
theorem dL_law_678 : decode cL_law 678 = .ok (.if_icmp .eq 199, 3) := by decide +kernel
theorem dL_law_681 : decode cL_law 681 = .ok (.iconst 0, 1) := by decide +kernel
theorem dL_law_682 : decode cL_law 682 = .ok (.ireturn, 1) := by decide +kernel
theorem dL_law_683 : decode cL_law 683 = .ok (.aload_n 1, 1) := by decide +kernel
theorem dL_law_684 : decode cL_law 684 = .ok (.aload_n 0, 1) := by decide +kernel
theorem dL_law_685 : decode cL_law 685 = .ok (.iload_n 3, 1) := by decide +kernel
theorem dL_law_686 : decode cL_law 686 = .ok (.iconst 1, 1) := by decide +kernel
theorem dL_law_687 : decode cL_law 687 = .ok (.iadd, 1) := by decide +kernel
theorem dL_law_688 : decode cL_law 688 = .ok (.iaload, 1) := by decide +kernel
theorem dL_law_689 : decode cL_law 689 = .ok (.aload_n 0, 1) := by decide +kernel
theorem dL_law_690 : decode cL_law 690 = .ok (.iload_n 3, 1) := by decide +kernel
theorem dL_law_691 : decode cL_law 691 = .ok (.iconst 2, 1) := by decide +kernel
theorem dL_law_692 : decode cL_law 692 = .ok (.iadd, 1) := by decide +kernel
theorem dL_law_693 : decode cL_law 693 = .ok (.iaload, 1) := by decide +kernel
theorem dL_law_694 : decode cL_law 694 = .ok (.invokevirtual 93, 3) := by decide +kernel
theorem dL_law_697 : decode cL_law 697 = .ok (.aload_n 2, 1) := by decide +kernel
theorem dL_law_698 : decode cL_law 698 = .ok (.aload_n 0, 1) := by decide +kernel
theorem dL_law_699 : decode cL_law 699 = .ok (.iload_n 3, 1) := by decide +kernel
theorem dL_law_700 : decode cL_law 700 = .ok (.iconst 1, 1) := by decide +kernel
theorem dL_law_701 : decode cL_law 701 = .ok (.iadd, 1) := by decide +kernel
theorem dL_law_702 : decode cL_law 702 = .ok (.iaload, 1) := by decide +kernel
theorem dL_law_703 : decode cL_law 703 = .ok (.aload_n 0, 1) := by decide +kernel
theorem dL_law_704 : decode cL_law 704 = .ok (.iload_n 3, 1) := by decide +kernel
theorem dL_law_705 : decode cL_law 705 = .ok (.iconst 2, 1) := by decide +kernel
theorem dL_law_706 : decode cL_law 706 = .ok (.iadd, 1) := by decide +kernel
theorem dL_law_707 : decode cL_law 707 = .ok (.iaload, 1) := by decide +kernel
theorem dL_law_708 : decode cL_law 708 = .ok (.invokevirtual 96, 3) := by decide +kernel
theorem dL_law_711 : decode cL_law 711 = .ok (.if_icmp .eq 166, 3) := by decide +kernel
theorem dL_law_714 : decode cL_law 714 = .ok (.iconst 0, 1) := by decide +kernel
theorem dL_law_715 : decode cL_law 715 = .ok (.ireturn, 1) := by decide +kernel
theorem dL_law_716 : decode cL_law 716 = .ok (.aload_n 1, 1) := by decide +kernel
theorem dL_law_717 : decode cL_law 717 = .ok (.aload_n 0, 1) := by decide +kernel
theorem dL_law_718 : decode cL_law 718 = .ok (.iload_n 3, 1) := by decide +kernel
theorem dL_law_719 : decode cL_law 719 = .ok (.iconst 1, 1) := by decide +kernel
theorem dL_law_720 : decode cL_law 720 = .ok (.iadd, 1) := by decide +kernel
theorem dL_law_721 : decode cL_law 721 = .ok (.iaload, 1) := by decide +kernel
theorem dL_law_722 : decode cL_law 722 = .ok (.invokevirtual 97, 3) := by decide +kernel
theorem dL_law_725 : decode cL_law 725 = .ok (.aload_n 2, 1) := by decide +kernel
theorem dL_law_726 : decode cL_law 726 = .ok (.aload_n 0, 1) := by decide +kernel
theorem dL_law_727 : decode cL_law 727 = .ok (.iload_n 3, 1) := by decide +kernel
theorem dL_law_728 : decode cL_law 728 = .ok (.iconst 1, 1) := by decide +kernel
theorem dL_law_729 : decode cL_law 729 = .ok (.iadd, 1) := by decide +kernel
theorem dL_law_730 : decode cL_law 730 = .ok (.iaload, 1) := by decide +kernel
theorem dL_law_731 : decode cL_law 731 = .ok (.invokevirtual 100, 3) := by decide +kernel
theorem dL_law_734 : decode cL_law 734 = .ok (.if_icmp .eq 143, 3) := by decide +kernel
theorem dL_law_737 : decode cL_law 737 = .ok (.iconst 0, 1) := by decide +kernel
theorem dL_law_738 : decode cL_law 738 = .ok (.ireturn, 1) := by decide +kernel
theorem dL_law_739 : decode cL_law 739 = .ok (.aload_n 1, 1) := by decide +kernel
theorem dL_law_740 : decode cL_law 740 = .ok (.aload_n 0, 1) := by decide +kernel
theorem dL_law_741 : decode cL_law 741 = .ok (.iload_n 3, 1) := by decide +kernel
theorem dL_law_742 : decode cL_law 742 = .ok (.iconst 1, 1) := by decide +kernel
theorem dL_law_743 : decode cL_law 743 = .ok (.iadd, 1) := by decide +kernel
theorem dL_law_744 : decode cL_law 744 = .ok (.iaload, 1) := by decide +kernel
theorem dL_law_745 : decode cL_law 745 = .ok (.invokevirtual 101, 3) := by decide +kernel
theorem dL_law_748 : decode cL_law 748 = .ok (.aload_n 2, 1) := by decide +kernel
theorem dL_law_749 : decode cL_law 749 = .ok (.aload_n 0, 1) := by decide +kernel
theorem dL_law_750 : decode cL_law 750 = .ok (.iload_n 3, 1) := by decide +kernel
theorem dL_law_751 : decode cL_law 751 = .ok (.iconst 1, 1) := by decide +kernel
theorem dL_law_752 : decode cL_law 752 = .ok (.iadd, 1) := by decide +kernel
theorem dL_law_753 : decode cL_law 753 = .ok (.iaload, 1) := by decide +kernel
theorem dL_law_754 : decode cL_law 754 = .ok (.invokevirtual 104, 3) := by decide +kernel
theorem dL_law_757 : decode cL_law 757 = .ok (.if_icmp .eq 120, 3) := by decide +kernel
theorem dL_law_760 : decode cL_law 760 = .ok (.iconst 0, 1) := by decide +kernel
theorem dL_law_761 : decode cL_law 761 = .ok (.ireturn, 1) := by decide +kernel
theorem dL_law_762 : decode cL_law 762 = .ok (.aload_n 1, 1) := by decide +kernel
theorem dL_law_763 : decode cL_law 763 = .ok (.aload_n 0, 1) := by decide +kernel
theorem dL_law_764 : decode cL_law 764 = .ok (.iload_n 3, 1) := by decide +kernel
theorem dL_law_765 : decode cL_law 765 = .ok (.iconst 1, 1) := by decide +kernel
theorem dL_law_766 : decode cL_law 766 = .ok (.iadd, 1) := by decide +kernel
theorem dL_law_767 : decode cL_law 767 = .ok (.iaload, 1) := by decide +kernel
theorem dL_law_768 : decode cL_law 768 = .ok (.aload_n 0, 1) := by decide +kernel
theorem dL_law_769 : decode cL_law 769 = .ok (.iload_n 3, 1) := by decide +kernel
theorem dL_law_770 : decode cL_law 770 = .ok (.iconst 2, 1) := by decide +kernel
theorem dL_law_771 : decode cL_law 771 = .ok (.iadd, 1) := by decide +kernel
theorem dL_law_772 : decode cL_law 772 = .ok (.iaload, 1) := by decide +kernel
theorem dL_law_773 : decode cL_law 773 = .ok (.invokevirtual 105, 3) := by decide +kernel
theorem dL_law_776 : decode cL_law 776 = .ok (.aload_n 2, 1) := by decide +kernel
theorem dL_law_777 : decode cL_law 777 = .ok (.aload_n 0, 1) := by decide +kernel
theorem dL_law_778 : decode cL_law 778 = .ok (.iload_n 3, 1) := by decide +kernel
theorem dL_law_779 : decode cL_law 779 = .ok (.iconst 1, 1) := by decide +kernel
theorem dL_law_780 : decode cL_law 780 = .ok (.iadd, 1) := by decide +kernel
theorem dL_law_781 : decode cL_law 781 = .ok (.iaload, 1) := by decide +kernel
theorem dL_law_782 : decode cL_law 782 = .ok (.aload_n 0, 1) := by decide +kernel
theorem dL_law_783 : decode cL_law 783 = .ok (.iload_n 3, 1) := by decide +kernel
theorem dL_law_784 : decode cL_law 784 = .ok (.iconst 2, 1) := by decide +kernel
theorem dL_law_785 : decode cL_law 785 = .ok (.iadd, 1) := by decide +kernel
theorem dL_law_786 : decode cL_law 786 = .ok (.iaload, 1) := by decide +kernel
theorem dL_law_787 : decode cL_law 787 = .ok (.invokevirtual 108, 3) := by decide +kernel
theorem dL_law_790 : decode cL_law 790 = .ok (.if_icmp .eq 87, 3) := by decide +kernel
theorem dL_law_793 : decode cL_law 793 = .ok (.iconst 0, 1) := by decide +kernel
theorem dL_law_794 : decode cL_law 794 = .ok (.ireturn, 1) := by decide +kernel
theorem dL_law_795 : decode cL_law 795 = .ok (.aload_n 1, 1) := by decide +kernel
theorem dL_law_796 : decode cL_law 796 = .ok (.aload_n 0, 1) := by decide +kernel
theorem dL_law_797 : decode cL_law 797 = .ok (.iload_n 3, 1) := by decide +kernel
theorem dL_law_798 : decode cL_law 798 = .ok (.iconst 1, 1) := by decide +kernel
theorem dL_law_799 : decode cL_law 799 = .ok (.iadd, 1) := by decide +kernel
theorem dL_law_800 : decode cL_law 800 = .ok (.iaload, 1) := by decide +kernel
theorem dL_law_801 : decode cL_law 801 = .ok (.aload_n 0, 1) := by decide +kernel
theorem dL_law_802 : decode cL_law 802 = .ok (.iload_n 3, 1) := by decide +kernel
theorem dL_law_803 : decode cL_law 803 = .ok (.iconst 2, 1) := by decide +kernel
theorem dL_law_804 : decode cL_law 804 = .ok (.iadd, 1) := by decide +kernel
theorem dL_law_805 : decode cL_law 805 = .ok (.iaload, 1) := by decide +kernel
theorem dL_law_806 : decode cL_law 806 = .ok (.invokevirtual 109, 3) := by decide +kernel
theorem dL_law_809 : decode cL_law 809 = .ok (.aload_n 2, 1) := by decide +kernel
theorem dL_law_810 : decode cL_law 810 = .ok (.aload_n 0, 1) := by decide +kernel
theorem dL_law_811 : decode cL_law 811 = .ok (.iload_n 3, 1) := by decide +kernel
theorem dL_law_812 : decode cL_law 812 = .ok (.iconst 1, 1) := by decide +kernel
theorem dL_law_813 : decode cL_law 813 = .ok (.iadd, 1) := by decide +kernel
theorem dL_law_814 : decode cL_law 814 = .ok (.iaload, 1) := by decide +kernel
theorem dL_law_815 : decode cL_law 815 = .ok (.aload_n 0, 1) := by decide +kernel
theorem dL_law_816 : decode cL_law 816 = .ok (.iload_n 3, 1) := by decide +kernel
theorem dL_law_817 : decode cL_law 817 = .ok (.iconst 2, 1) := by decide +kernel
theorem dL_law_818 : decode cL_law 818 = .ok (.iadd, 1) := by decide +kernel
theorem dL_law_819 : decode cL_law 819 = .ok (.iaload, 1) := by decide +kernel
theorem dL_law_820 : decode cL_law 820 = .ok (.invokevirtual 112, 3) := by decide +kernel
theorem dL_law_823 : decode cL_law 823 = .ok (.if_icmp .eq 54, 3) := by decide +kernel
theorem dL_law_826 : decode cL_law 826 = .ok (.iconst 0, 1) := by decide +kernel
theorem dL_law_827 : decode cL_law 827 = .ok (.ireturn, 1) := by decide +kernel
theorem dL_law_828 : decode cL_law 828 = .ok (.aload_n 1, 1) := by decide +kernel
theorem dL_law_829 : decode cL_law 829 = .ok (.invokevirtual 113, 3) := by decide +kernel
theorem dL_law_832 : decode cL_law 832 = .ok (.aload_n 2, 1) := by decide +kernel
theorem dL_law_833 : decode cL_law 833 = .ok (.invokevirtual 116, 3) := by decide +kernel
theorem dL_law_836 : decode cL_law 836 = .ok (.if_icmp .eq 41, 3) := by decide +kernel
theorem dL_law_839 : decode cL_law 839 = .ok (.iconst 0, 1) := by decide +kernel
theorem dL_law_840 : decode cL_law 840 = .ok (.ireturn, 1) := by decide +kernel
theorem dL_law_841 : decode cL_law 841 = .ok (.aload_n 1, 1) := by decide +kernel
theorem dL_law_842 : decode cL_law 842 = .ok (.invokevirtual 117, 3) := by decide +kernel
theorem dL_law_845 : decode cL_law 845 = .ok (.aload_n 2, 1) := by decide +kernel
theorem dL_law_846 : decode cL_law 846 = .ok (.invokevirtual 120, 3) := by decide +kernel
theorem dL_law_849 : decode cL_law 849 = .ok (.if_icmp .eq 28, 3) := by decide +kernel
theorem dL_law_852 : decode cL_law 852 = .ok (.iconst 0, 1) := by decide +kernel
theorem dL_law_853 : decode cL_law 853 = .ok (.ireturn, 1) := by decide +kernel
theorem dL_law_854 : decode cL_law 854 = .ok (.aload_n 1, 1) := by decide +kernel
theorem dL_law_855 : decode cL_law 855 = .ok (.aload_n 0, 1) := by decide +kernel
theorem dL_law_856 : decode cL_law 856 = .ok (.iload_n 3, 1) := by decide +kernel
theorem dL_law_857 : decode cL_law 857 = .ok (.iconst 1, 1) := by decide +kernel
theorem dL_law_858 : decode cL_law 858 = .ok (.iadd, 1) := by decide +kernel
theorem dL_law_859 : decode cL_law 859 = .ok (.iaload, 1) := by decide +kernel
theorem dL_law_860 : decode cL_law 860 = .ok (.invokevirtual 121, 3) := by decide +kernel
theorem dL_law_863 : decode cL_law 863 = .ok (.aload_n 2, 1) := by decide +kernel
theorem dL_law_864 : decode cL_law 864 = .ok (.aload_n 0, 1) := by decide +kernel
theorem dL_law_865 : decode cL_law 865 = .ok (.iload_n 3, 1) := by decide +kernel
theorem dL_law_866 : decode cL_law 866 = .ok (.iconst 1, 1) := by decide +kernel
theorem dL_law_867 : decode cL_law 867 = .ok (.iadd, 1) := by decide +kernel
theorem dL_law_868 : decode cL_law 868 = .ok (.iaload, 1) := by decide +kernel
theorem dL_law_869 : decode cL_law 869 = .ok (.invokevirtual 124, 3) := by decide +kernel
theorem dL_law_872 : decode cL_law 872 = .ok (.if_icmp .eq 5, 3) := by decide +kernel
theorem dL_law_875 : decode cL_law 875 = .ok (.iconst 0, 1) := by decide +kernel
theorem dL_law_876 : decode cL_law 876 = .ok (.ireturn, 1) := by decide +kernel
theorem dL_law_877 : decode cL_law 877 = .ok (.iinc 3 4, 3) := by decide +kernel
theorem dL_law_880 : decode cL_law 880 = .ok (.goto (-862), 3) := by decide +kernel
theorem dL_law_883 : decode cL_law 883 = .ok (.iconst 1, 1) := by decide +kernel
theorem dL_law_884 : decode cL_law 884 = .ok (.ireturn, 1) := by decide +kernel
end
section
/-! The layer Z over W: a world is a function of addresses counted from the law's start; every method's contract is a Z at its entry. -/
abbrev ZO : Type := (Nat × List Value) ⊕ ((Nat × (Nat → Int32)) ⊕ (Nat × Nat × (Nat → Option Nat)))
abbrev ZW : Type := (Nat → ZO) × Nat
/-- name, code, maxLocals, return type, frames, locals -/
abbrev ZD : Type := MethodName × ByteArray × Nat × Option FieldType × Nat × Nat
def zup {α : Type} (f : Nat → α) (k : Nat) (v : α) : Nat → α := fun j => if j = k then v else f j
theorem zup_same {α : Type} (f : Nat → α) (k : Nat) (v : α) : zup f k v k = v := by simp [zup]
theorem zup_ne {α : Type} (f : Nat → α) {k j : Nat} (v : α) (h : j ≠ k) : zup f k v j = f j := by simp [zup, h]
def vsh (lo : Nat) (v : Value) : Value := match v with
  | .ref a => .ref (lo + a)
  | v => v
theorem vsh_cat (lo : Nat) (v : Value) : (vsh lo v).category = v.category := by cases v <;> rfl
def vE (lo : Nat) (cA : Nat → ClassId) (o : ZO) : va_E := match o with
  | .inl (ci, fs) => .inr (ci, fs.map (vsh lo))
  | .inr (.inl (n, f)) => .inl (cA 0, n, .inl f)
  | .inr (.inr (t, n, f)) => .inl (cA t, n, .inr (.inr (.inr (.inr (fun i => (f i).map (lo + ·))))))
def vws (lo : Nat) (cA : Nat → ClassId) (ω : ZW) : va_W := (List.range ω.2).map fun i => (lo + i, vE lo cA (ω.1 i))
def vtys (cA : Nat → ClassId) : List (ClassId × FieldType) := [(cA 0, .int), (cA 1, .object RX9), (cA 2, .object RX6)]
def vA (lo : Nat) : Nat → Prop := fun q => lo ≤ q
def vls (lo : Nat) (ls : List (Option Value)) : List (Nat × Value) := (List.range ls.length).filterMap fun k => (ls.getD k none).map fun v => (k, vsh lo v)
theorem vls_mem {lo : Nat} {ls : List (Option Value)} {q : Nat × Value} : q ∈ vls lo ls ↔ ∃ v, ls[q.1]? = some (some v) ∧ q.2 = vsh lo v := by
  unfold vls
  rw [List.mem_filterMap]
  constructor
  · rintro ⟨k, hk, h⟩
    rw [List.mem_range] at hk
    cases hg : ls.getD k none with
    | none => rw [hg] at h; cases h
    | some v =>
      rw [hg] at h
      cases h
      refine ⟨v, ?_, rfl⟩
      rw [List.getD_eq_getElem?_getD] at hg
      rw [List.getElem?_eq_getElem hk] at hg ⊢
      exact congrArg some hg
  · rintro ⟨v, h1, h2⟩
    refine ⟨q.1, List.mem_range.mpr (List.getElem?_eq_some_iff.mp h1).1, ?_⟩
    rw [List.getD_eq_getElem?_getD, h1]
    show some (q.1, vsh lo v) = some q
    rw [← h2]
theorem vls_at {lo nL : Nat} {lsA : Array Slot} {ls : List (Option Value)} (h : lv_has lsA nL (vls lo ls)) {k : Nat} {v : Value} (hk : ls[k]? = some (some v)) : lsA[k]? = some (.val (vsh lo v)) := h.2.2 (k, vsh lo v) (vls_mem.mpr ⟨v, hk, rfl⟩)
theorem vls_to {lo nL : Nat} {lsA : Array Slot} {l : List (Nat × Value)} {ls : List (Option Value)} (h : lv_has lsA nL l) (hm : ∀ k v, ls[k]? = some (some v) → (k, vsh lo v) ∈ l) : lv_has lsA nL (vls lo ls) := by
  refine ⟨h.1, h.2.1, fun q hq => ?_⟩
  obtain ⟨v, h1, h2⟩ := vls_mem.mp hq
  have h3 := h.2.2 _ (hm q.1 v h1)
  rw [h2]
  exact h3
theorem vws_get {lo : Nat} {cA : Nat → ClassId} {ω : ZW} {a : Nat} (h : a < ω.2) : (vws lo cA ω)[a]? = some (lo + a, vE lo cA (ω.1 a)) := by
  simp [vws, List.getElem?_range h]
theorem vws_len {lo : Nat} {cA : Nat → ClassId} {ω : ZW} : (vws lo cA ω).length = ω.2 := by simp [vws]
theorem vws_some {lo : Nat} {cA : Nat → ClassId} {ω : ZW} {a : Nat} {q : Nat × va_E} (h : (vws lo cA ω)[a]? = some q) : a < ω.2 ∧ q = (lo + a, vE lo cA (ω.1 a)) := by
  have hl := (List.getElem?_eq_some_iff.mp h).1
  rw [vws_len] at hl
  rw [vws_get hl] at h
  exact ⟨hl, (Option.some.inj h).symm⟩
theorem vws_set {lo : Nat} {cA : Nat → ClassId} {σ : Nat → ZO} {n a : Nat} {o : ZO} (h : a < n) : (vws lo cA (σ, n)).set a (lo + a, vE lo cA o) = vws lo cA (zup σ a o, n) := by
  apply List.ext_getElem?
  intro i
  rw [List.getElem?_set, vws_len]
  by_cases hi : a = i
  · subst hi
    rw [if_pos rfl, if_pos h, vws_get (ω := (zup σ a o, n)) h]
    show _ = some (lo + a, vE lo cA (zup σ a o a))
    rw [zup_same]
  · rw [if_neg hi]
    by_cases hn : i < n
    · rw [vws_get (ω := (σ, n)) hn, vws_get (ω := (zup σ a o, n)) hn]
      show some (lo + i, vE lo cA (σ i)) = some (lo + i, vE lo cA (zup σ a o i))
      rw [zup_ne _ _ (fun e => hi e.symm)]
    · rw [List.getElem?_eq_none (by rw [vws_len]; exact Nat.not_lt.mp hn), List.getElem?_eq_none (by rw [vws_len]; exact Nat.not_lt.mp hn)]
theorem vws_push {lo : Nat} {cA : Nat → ClassId} {σ : Nat → ZO} {n : Nat} {o : ZO} : vws lo cA (σ, n) ++ [(lo + n, vE lo cA o)] = vws lo cA (zup σ n o, n + 1) := by
  unfold vws
  show List.map _ (List.range n) ++ _ = List.map _ (List.range (n + 1))
  rw [List.range_succ, List.map_append]
  congr 1
  · apply List.map_congr_left
    intro i hi
    rw [List.mem_range] at hi
    show (lo + i, vE lo cA (σ i)) = (lo + i, vE lo cA (zup σ n o i))
    rw [zup_ne _ _ (Nat.ne_of_lt hi)]
  · show [(lo + n, vE lo cA o)] = [(lo + n, vE lo cA (zup σ n o n))]
    rw [zup_same]
theorem vws_congr {lo : Nat} {cA : Nat → ClassId} {σ τ : Nat → ZO} {n : Nat} (h : ∀ a, a < n → σ a = τ a) : vws lo cA (σ, n) = vws lo cA (τ, n) := by
  unfold vws
  apply List.map_congr_left
  intro i hi
  show (lo + i, vE lo cA (σ i)) = (lo + i, vE lo cA (τ i))
  rw [h i (List.mem_range.mp hi)]
theorem vws_D {lo : Nat} {cA : Nat → ClassId} {ω : ZW} : va_D (vA lo) (vws lo cA ω) := by
  refine ⟨fun i j p q hp hq h => ?_, fun k q hq => ?_⟩
  · obtain ⟨-, rfl⟩ := vws_some hp
    obtain ⟨-, rfl⟩ := vws_some hq
    exact Nat.add_left_cancel h
  · obtain ⟨-, rfl⟩ := vws_some hq
    exact Nat.le_add_right _ _
/-! the tables' words: those that any call keeps, and the others -/
def ztb : List Cond := lw_tbl.filter goodWord
def zisN (w : Cond) : Bool := match w with
  | .fieldLinkNest .. => true
  | .methodLinkNest .. => true
  | .declares .. => true
  | .castable .. => true
  | .arrayOver (.object _) => true
  | _ => false
def ztbN : List Cond := lw_tbl.filter zisN
theorem zgm {w : Cond} (i : Nat) (h : lw_tbl[i]? = some w) (hg : goodWord w = true) : w ∈ ztb := List.mem_filter.mpr ⟨List.mem_of_getElem? h, hg⟩
theorem zgn {w : Cond} (i : Nat) (h : lw_tbl[i]? = some w) (hg : zisN w = true) : w ∈ ztbN := List.mem_filter.mpr ⟨List.mem_of_getElem? h, hg⟩
theorem zgood {ws : List Cond} (h : ∀ w ∈ ws, w ∈ ztb) : GoodIn ztb ws := fun w hw => ⟨h w hw, good_of_word (List.mem_filter.mp (h w hw)).2⟩
theorem zN_warm {s U : State} (hW : s.WarmedH U.vm) (h : ∀ w ∈ ztbN, va_Nw w s) : ∀ w ∈ ztbN, va_Nw w U := by
  intro w hw
  have h1 := h w hw
  have h2 : zisN w = true := (List.mem_filter.mp hw).2
  cases w <;> first | exact va_Nw.warmF hW h1 | exact va_Nw.warmM hW h1 | exact va_Nw.warmD hW h1 | exact va_Nw.warmC hW h1 | (simp [zisN] at h2; done) | (rename_i t; cases t <;> first | exact va_AO.moved hW.alike h1 | (simp [zisN] at h2; done))
theorem zN_same {u U : State} (hv : u.vm = U.vm) (h : ∀ w ∈ ztbN, va_Nw w u) : ∀ w ∈ ztbN, va_Nw w U := by
  intro w hw
  have h1 := h w hw
  have h2 : zisN w = true := (List.mem_filter.mp hw).2
  cases w <;> first | exact va_Nw.same rfl hv h1 | (simp [zisN] at h2; done) | (rename_i t; cases t <;> first | exact va_AO.moved (by rw [hv]; exact Vm.Alike.refl _) h1 | (simp [zisN] at h2; done))
/-! the judgement -/
abbrev zC (d : ZD) (args : Array Value) (s : State) (p : Program) (m : MethodId) (meth : Method) (c : Code) (lo : Nat) (cA : Nat → ClassId) (D : va_G) : Prop :=
  p.tables.exec = Jvm.exec ∧ c.code = d.2.1 ∧ meth.sig.returnType = d.2.2.2.1 ∧ c.maxLocals = d.2.2.1 ∧ s.vm.findClass d.1.cls = some m.cls ∧ meth.locks = false ∧ meth.name = d.1.name ∧ (∀ w ∈ ztb, w.before args s = true) ∧ (∀ w ∈ ztbN, va_Nw w s) ∧ va_K D vwCl (vtys cA) s ∧ lo ≤ s.heap.size
def zQ (lo : Nat) (cA : Nat → ClassId) (D : va_G) (R : Option Value → ZW → Prop) : Array Value → State → Outcome → State → Prop := fun _ s o t => (∃ (r : Option Value) (ω : ZW), o = .returned (r.map (vsh lo)) ∧ R r ω ∧ t.heap.size = lo + ω.2 ∧ va_P D vwCl (vws lo cA ω) t.heap) ∧ va_F (vA lo) s t
abbrev zR (d : ZD) (RC RS : Nat) : Room := { frames := d.2.2.2.2.1, cells := RC, slots := RS, locals := d.2.2.2.2.2 }
def Z (d : ZD) (kc ks : Nat) (R : Option Value → ZW → Prop) (pc : Nat) (ls : List (Option Value)) (st : List Value) (ω : ZW) : Prop :=
  ∀ (p : Program) (l : Launch) (e : Env) (s : State) (m : MethodId) (args : Array Value) (below : List Frame) (meth : Method) (c : Code) (H : Heap) (locs : List Loc) (cells slots RC RS lo : Nat) (cA : Nat → ClassId) (D : va_G) (lsA : Array Slot),
    zC d args s p m meth c lo cA D → cells + kc ≤ RC → slots + ks ≤ RS → H.size = lo + ω.2 → va_P D vwCl (vws lo cA ω) H → va_S (vA lo) s.heap H locs → lv_has lsA d.2.2.1 (vls lo ls) →
    W p l e (zR d RC RS) s m args below meth c H locs cells slots (MQ below (zQ lo cA D R) args s RC RS (vA lo)) (F0 m pc lsA (st.map (vsh lo)))
section ZROWS
variable {d : ZD} {kc ks : Nat} {R : Option Value → ZW → Prop} {pc pc' : Nat} {ls ls' : List (Option Value)} {st : List Value} {ω : ZW}
theorem Z_iconst {n : Int} {v : Int32} (hd : decode d.2.1 pc = .ok (.iconst n, 1)) (hv : Int32.ofInt n = v) (hp : pc + 1 = pc') (k : Z d kc ks R pc' ls (.int v :: st) ω) : Z d kc ks R pc ls (st) ω := by
  subst hp
  intro p l e s m args below meth c H locs cells slots RC RS lo cA D lsA C h1 h2 h3 h4 h5 h6
  exact lv_iconst C.1 C.2.1 hd hv (k p l e s m args below meth c H locs cells slots RC RS lo cA D lsA C h1 h2 h3 h4 h5 h6)
theorem Z_bipush {n : Int} {v : Int32} (hd : decode d.2.1 pc = .ok (.bipush n, 2)) (hv : (Int8.ofInt n).toInt32 = v) (hp : pc + 2 = pc') (k : Z d kc ks R pc' ls (.int v :: st) ω) : Z d kc ks R pc ls (st) ω := by
  subst hp
  intro p l e s m args below meth c H locs cells slots RC RS lo cA D lsA C h1 h2 h3 h4 h5 h6
  exact lv_bipush C.1 C.2.1 hd hv (k p l e s m args below meth c H locs cells slots RC RS lo cA D lsA C h1 h2 h3 h4 h5 h6)
theorem Z_sipush {n : Int} {v : Int32} (hd : decode d.2.1 pc = .ok (.sipush n, 3)) (hv : (Int16.ofInt n).toInt32 = v) (hp : pc + 3 = pc') (k : Z d kc ks R pc' ls (.int v :: st) ω) : Z d kc ks R pc ls (st) ω := by
  subst hp
  intro p l e s m args below meth c H locs cells slots RC RS lo cA D lsA C h1 h2 h3 h4 h5 h6
  exact lv_sipush C.1 C.2.1 hd hv (k p l e s m args below meth c H locs cells slots RC RS lo cA D lsA C h1 h2 h3 h4 h5 h6)
theorem Z_lconst {n : Fin 2} {v : Int64} (hd : decode d.2.1 pc = .ok (.lconst n, 1)) (hv : Int64.ofNat (n : Nat) = v) (hp : pc + 1 = pc') (k : Z d kc ks R pc' ls (.long v :: st) ω) : Z d kc ks R pc ls (st) ω := by
  subst hp
  intro p l e s m args below meth c H locs cells slots RC RS lo cA D lsA C h1 h2 h3 h4 h5 h6
  exact lv_lconst C.1 C.2.1 hd hv (k p l e s m args below meth c H locs cells slots RC RS lo cA D lsA C h1 h2 h3 h4 h5 h6)
theorem Z_iload_n {n : Fin 4} {x : Int32} (hd : decode d.2.1 pc = .ok (.iload_n n, 1)) (hl : ls[(n : Nat)]? = some (some (.int x))) (hp : pc + 1 = pc') (k : Z d kc ks R pc' ls (.int x :: st) ω) : Z d kc ks R pc ls st ω := by
  subst hp
  intro p l e s m args below meth c H locs cells slots RC RS lo cA D lsA C h1 h2 h3 h4 h5 h6
  exact lv_iload_n C.1 C.2.1 hd rfl (vls_at h6 hl) (k p l e s m args below meth c H locs cells slots RC RS lo cA D lsA C h1 h2 h3 h4 h5 h6)
theorem Z_iload {n : Nat} {x : Int32} (hd : decode d.2.1 pc = .ok (.iload n, 2)) (hl : ls[n]? = some (some (.int x))) (hp : pc + 2 = pc') (k : Z d kc ks R pc' ls (.int x :: st) ω) : Z d kc ks R pc ls st ω := by
  subst hp
  intro p l e s m args below meth c H locs cells slots RC RS lo cA D lsA C h1 h2 h3 h4 h5 h6
  exact lv_iload C.1 C.2.1 hd (vls_at h6 hl) (k p l e s m args below meth c H locs cells slots RC RS lo cA D lsA C h1 h2 h3 h4 h5 h6)
theorem Z_lload_n {n : Fin 4} {x : Int64} (hd : decode d.2.1 pc = .ok (.lload_n n, 1)) (hl : ls[(n : Nat)]? = some (some (.long x))) (hp : pc + 1 = pc') (k : Z d kc ks R pc' ls (.long x :: st) ω) : Z d kc ks R pc ls st ω := by
  subst hp
  intro p l e s m args below meth c H locs cells slots RC RS lo cA D lsA C h1 h2 h3 h4 h5 h6
  exact lv_lload_n C.1 C.2.1 hd rfl (vls_at h6 hl) (k p l e s m args below meth c H locs cells slots RC RS lo cA D lsA C h1 h2 h3 h4 h5 h6)
theorem Z_lload {n : Nat} {x : Int64} (hd : decode d.2.1 pc = .ok (.lload n, 2)) (hl : ls[n]? = some (some (.long x))) (hp : pc + 2 = pc') (k : Z d kc ks R pc' ls (.long x :: st) ω) : Z d kc ks R pc ls st ω := by
  subst hp
  intro p l e s m args below meth c H locs cells slots RC RS lo cA D lsA C h1 h2 h3 h4 h5 h6
  exact lv_lload C.1 C.2.1 hd (vls_at h6 hl) (k p l e s m args below meth c H locs cells slots RC RS lo cA D lsA C h1 h2 h3 h4 h5 h6)
theorem Z_aload_n {n : Fin 4} {v : Value} (hd : decode d.2.1 pc = .ok (.aload_n n, 1)) (hl : ls[(n : Nat)]? = some (some v)) (hr : v = .null ∨ ∃ a, v = .ref a) (hp : pc + 1 = pc') (k : Z d kc ks R pc' ls (v :: st) ω) : Z d kc ks R pc ls st ω := by
  subst hp
  intro p l e s m args below meth c H locs cells slots RC RS lo cA D lsA C h1 h2 h3 h4 h5 h6
  rcases hr with rfl | ⟨a, rfl⟩
  · exact lv_aload_nN C.1 C.2.1 hd rfl (vls_at h6 hl) (k p l e s m args below meth c H locs cells slots RC RS lo cA D lsA C h1 h2 h3 h4 h5 h6)
  · exact lv_aload_n C.1 C.2.1 hd rfl (vls_at h6 hl) (k p l e s m args below meth c H locs cells slots RC RS lo cA D lsA C h1 h2 h3 h4 h5 h6)
theorem Z_aload {n : Nat} {v : Value} (hd : decode d.2.1 pc = .ok (.aload n, 2)) (hl : ls[n]? = some (some v)) (hr : v = .null ∨ ∃ a, v = .ref a) (hp : pc + 2 = pc') (k : Z d kc ks R pc' ls (v :: st) ω) : Z d kc ks R pc ls st ω := by
  subst hp
  intro p l e s m args below meth c H locs cells slots RC RS lo cA D lsA C h1 h2 h3 h4 h5 h6
  rcases hr with rfl | ⟨a, rfl⟩
  · exact lv_aloadN C.1 C.2.1 hd (vls_at h6 hl) (k p l e s m args below meth c H locs cells slots RC RS lo cA D lsA C h1 h2 h3 h4 h5 h6)
  · exact lv_aload C.1 C.2.1 hd (vls_at h6 hl) (k p l e s m args below meth c H locs cells slots RC RS lo cA D lsA C h1 h2 h3 h4 h5 h6)
theorem z_isref (a : Nat) : Value.ref a = .null ∨ ∃ b, Value.ref a = .ref b := Or.inr ⟨a, rfl⟩
theorem z_isrf (r : Option Nat) : va_rf r = .null ∨ ∃ b, va_rf r = .ref b := by
  cases r with
  | none => exact Or.inl rfl
  | some a => exact Or.inr ⟨a, rfl⟩
/-- a store of one word at place k: nothing before it may be a long -/
def zok (ls : List (Option Value)) (k : Nat) : Bool := match k with
  | 0 => true
  | k + 1 => match ls[k]? with
    | some (some (.long _)) => false
    | some (some (.double _)) => false
    | _ => true
def lset1 (ls : List (Option Value)) (k : Nat) (v : Value) : List (Option Value) := ls.take k ++ some v :: ls.drop (k + 1)
def lset2 (ls : List (Option Value)) (k : Nat) (v : Value) : List (Option Value) := ls.take k ++ some v :: none :: ls.drop (k + 2)
theorem lset1_get {ls : List (Option Value)} {k : Nat} {v : Value} (hk : k ≤ ls.length) {j : Nat} {u : Value} (h : (lset1 ls k v)[j]? = some (some u)) : (j = k ∧ u = v) ∨ (j ≠ k ∧ ls[j]? = some (some u)) := by
  unfold lset1 at h
  have hl : (ls.take k).length = k := by rw [List.length_take]; omega
  rcases Nat.lt_trichotomy j k with q | q | q
  · right
    rw [List.getElem?_append_left (by rw [hl]; exact q), List.getElem?_take_of_lt q] at h
    exact ⟨Nat.ne_of_lt q, h⟩
  · left
    subst q
    rw [List.getElem?_append_right (by rw [hl]; exact Nat.le_refl _), hl, Nat.sub_self] at h
    simp at h
    exact ⟨rfl, h.symm⟩
  · right
    rw [List.getElem?_append_right (by rw [hl]; omega), hl] at h
    obtain ⟨i, rfl⟩ : ∃ i, j = k + 1 + i := ⟨j - (k + 1), by omega⟩
    rw [show k + 1 + i - k = i + 1 by omega, List.getElem?_cons_succ, List.getElem?_drop] at h
    exact ⟨by omega, h⟩
theorem lset2_get {ls : List (Option Value)} {k : Nat} {v : Value} (hk : k ≤ ls.length) {j : Nat} {u : Value} (h : (lset2 ls k v)[j]? = some (some u)) : (j = k ∧ u = v) ∨ (j ≠ k ∧ j ≠ k + 1 ∧ ls[j]? = some (some u)) := by
  unfold lset2 at h
  have hl : (ls.take k).length = k := by rw [List.length_take]; omega
  rcases Nat.lt_trichotomy j k with q | q | q
  · right
    rw [List.getElem?_append_left (by rw [hl]; exact q), List.getElem?_take_of_lt q] at h
    exact ⟨Nat.ne_of_lt q, by omega, h⟩
  · left
    subst q
    rw [List.getElem?_append_right (by rw [hl]; exact Nat.le_refl _), hl, Nat.sub_self] at h
    simp at h
    exact ⟨rfl, h.symm⟩
  · right
    rw [List.getElem?_append_right (by rw [hl]; omega), hl] at h
    obtain ⟨i, rfl⟩ : ∃ i, j = k + 1 + i := ⟨j - (k + 1), by omega⟩
    rw [show k + 1 + i - k = i + 1 by omega, List.getElem?_cons_succ] at h
    cases i with
    | zero => simp at h
    | succ i =>
      rw [List.getElem?_cons_succ, List.getElem?_drop] at h
      exact ⟨by omega, by omega, by rw [show k + 1 + (i + 1) = k + 2 + i by omega]; exact h⟩
theorem zok_cat {ls : List (Option Value)} {k j : Nat} {u : Value} (h : zok ls k = true) (hj : j + 1 = k) (hu : ls[j]? = some (some u)) : u.category = 1 := by
  subst hj
  simp only [zok, hu] at h
  cases u <;> first | rfl | (simp at h)
theorem zst1 {lo nL : Nat} {ls : List (Option Value)} {i : Nat} {v : Value} (hk : i ≤ ls.length) (hz : zok ls i = true) {lsA : Array Slot} (h : lv_has lsA nL ((i, vsh lo v) :: (vls lo ls).filter (fun q => !(q.1 == i) && !(q.1 + 1 == i && q.2.category == 2)))) : lv_has lsA nL (vls lo (lset1 ls i v)) := by
  refine vls_to h fun k u hku => ?_
  rcases lset1_get hk hku with ⟨rfl, rfl⟩ | ⟨hne, hu⟩
  · exact List.mem_cons_self
  · refine List.mem_cons_of_mem _ (List.mem_filter.mpr ⟨vls_mem.mpr ⟨u, hu, rfl⟩, ?_⟩)
    by_cases hj : k + 1 = i
    · have hc := zok_cat hz hj hu
      simp [hne, vsh_cat, hc]
    · simp [hne, hj]
theorem zst2 {lo nL : Nat} {ls : List (Option Value)} {i : Nat} {v : Value} (hk : i ≤ ls.length) (hz : zok ls i = true) {lsA : Array Slot} (h : lv_has lsA nL ((i, vsh lo v) :: (vls lo ls).filter (fun q => !(q.1 == i) && (!(q.1 == i + 1) && !(q.1 + 1 == i && q.2.category == 2))))) : lv_has lsA nL (vls lo (lset2 ls i v)) := by
  refine vls_to h fun k u hku => ?_
  rcases lset2_get hk hku with ⟨rfl, rfl⟩ | ⟨hne, hne2, hu⟩
  · exact List.mem_cons_self
  · refine List.mem_cons_of_mem _ (List.mem_filter.mpr ⟨vls_mem.mpr ⟨u, hu, rfl⟩, ?_⟩)
    by_cases hj : k + 1 = i
    · have hc := zok_cat hz hj hu
      simp [hne, hne2, vsh_cat, hc]
    · simp [hne, hne2, hj]
theorem Z_istore_n {n : Fin 4} {x : Int32} (hd : decode d.2.1 pc = .ok (.istore_n n, 1)) (hn : (n : Nat) < d.2.2.1) (hk : (n : Nat) ≤ ls.length) (hz : zok ls (n : Nat) = true) (hl : lset1 ls (n : Nat) (.int x) = ls') (hp : pc + 1 = pc') (k : Z d kc ks R pc' ls' st ω) : Z d kc ks R pc ls (.int x :: st) ω := by
  subst hp; subst hl
  intro p l e s m args below meth c H locs cells slots RC RS lo cA D lsA C h1 h2 h3 h4 h5 h6
  exact lv_istore_n C.1 C.2.1 hd rfl h6 hn rfl (fun lsB hB => (k p l e s m args below meth c H locs cells slots RC RS lo cA D lsB C h1 h2 h3 h4 h5 (zst1 hk hz hB)))
theorem Z_istore {n : Nat} {x : Int32} (hd : decode d.2.1 pc = .ok (.istore n, 2)) (hn : n < d.2.2.1) (hk : n ≤ ls.length) (hz : zok ls n = true) (hl : lset1 ls n (.int x) = ls') (hp : pc + 2 = pc') (k : Z d kc ks R pc' ls' st ω) : Z d kc ks R pc ls (.int x :: st) ω := by
  subst hp; subst hl
  intro p l e s m args below meth c H locs cells slots RC RS lo cA D lsA C h1 h2 h3 h4 h5 h6
  exact lv_istore C.1 C.2.1 hd h6 hn rfl (fun lsB hB => (k p l e s m args below meth c H locs cells slots RC RS lo cA D lsB C h1 h2 h3 h4 h5 (zst1 hk hz hB)))
theorem Z_lstore_n {n : Fin 4} {x : Int64} (hd : decode d.2.1 pc = .ok (.lstore_n n, 1)) (hn : (n : Nat) + 1 < d.2.2.1) (hk : (n : Nat) ≤ ls.length) (hz : zok ls (n : Nat) = true) (hl : lset2 ls (n : Nat) (.long x) = ls') (hp : pc + 1 = pc') (k : Z d kc ks R pc' ls' st ω) : Z d kc ks R pc ls (.long x :: st) ω := by
  subst hp; subst hl
  intro p l e s m args below meth c H locs cells slots RC RS lo cA D lsA C h1 h2 h3 h4 h5 h6
  exact lv_lstore_n C.1 C.2.1 hd rfl h6 hn rfl (fun lsB hB => (k p l e s m args below meth c H locs cells slots RC RS lo cA D lsB C h1 h2 h3 h4 h5 (zst2 hk hz hB)))
theorem Z_lstore {n : Nat} {x : Int64} (hd : decode d.2.1 pc = .ok (.lstore n, 2)) (hn : n + 1 < d.2.2.1) (hk : n ≤ ls.length) (hz : zok ls n = true) (hl : lset2 ls n (.long x) = ls') (hp : pc + 2 = pc') (k : Z d kc ks R pc' ls' st ω) : Z d kc ks R pc ls (.long x :: st) ω := by
  subst hp; subst hl
  intro p l e s m args below meth c H locs cells slots RC RS lo cA D lsA C h1 h2 h3 h4 h5 h6
  exact lv_lstore C.1 C.2.1 hd h6 hn rfl (fun lsB hB => (k p l e s m args below meth c H locs cells slots RC RS lo cA D lsB C h1 h2 h3 h4 h5 (zst2 hk hz hB)))
theorem Z_astore_n {n : Fin 4} {v : Value} (hd : decode d.2.1 pc = .ok (.astore_n n, 1)) (hn : (n : Nat) < d.2.2.1) (hk : (n : Nat) ≤ ls.length) (hz : zok ls (n : Nat) = true) (hl : lset1 ls (n : Nat) (v) = ls') (hr : v = .null ∨ ∃ a, v = .ref a) (hp : pc + 1 = pc') (k : Z d kc ks R pc' ls' st ω) : Z d kc ks R pc ls (v :: st) ω := by
  subst hp; subst hl
  intro p l e s m args below meth c H locs cells slots RC RS lo cA D lsA C h1 h2 h3 h4 h5 h6
  rcases hr with rfl | ⟨a, rfl⟩
  · exact lv_astore_nN C.1 C.2.1 hd rfl h6 hn rfl (fun lsB hB => (k p l e s m args below meth c H locs cells slots RC RS lo cA D lsB C h1 h2 h3 h4 h5 (zst1 hk hz hB)))
  · exact lv_astore_n C.1 C.2.1 hd rfl h6 hn rfl (fun lsB hB => (k p l e s m args below meth c H locs cells slots RC RS lo cA D lsB C h1 h2 h3 h4 h5 (zst1 hk hz hB)))
theorem Z_astore {n : Nat} {v : Value} (hd : decode d.2.1 pc = .ok (.astore n, 2)) (hn : n < d.2.2.1) (hk : n ≤ ls.length) (hz : zok ls n = true) (hl : lset1 ls n (v) = ls') (hr : v = .null ∨ ∃ a, v = .ref a) (hp : pc + 2 = pc') (k : Z d kc ks R pc' ls' st ω) : Z d kc ks R pc ls (v :: st) ω := by
  subst hp; subst hl
  intro p l e s m args below meth c H locs cells slots RC RS lo cA D lsA C h1 h2 h3 h4 h5 h6
  rcases hr with rfl | ⟨a, rfl⟩
  · exact lv_astoreN C.1 C.2.1 hd h6 hn rfl (fun lsB hB => (k p l e s m args below meth c H locs cells slots RC RS lo cA D lsB C h1 h2 h3 h4 h5 (zst1 hk hz hB)))
  · exact lv_astore C.1 C.2.1 hd h6 hn rfl (fun lsB hB => (k p l e s m args below meth c H locs cells slots RC RS lo cA D lsB C h1 h2 h3 h4 h5 (zst1 hk hz hB)))
theorem Z_iinc {i : Nat} {n : Int} {x v : Int32} (hd : decode d.2.1 pc = .ok (.iinc i n, 3)) (hx : ls[i]? = some (some (.int x))) (hv : x + Int32.ofInt n = v) (hn : i < d.2.2.1) (hz : zok ls i = true) (hl : lset1 ls i (.int v) = ls') (hp : pc + 3 = pc') (k : Z d kc ks R pc' ls' st ω) : Z d kc ks R pc ls st ω := by
  subst hp; subst hl
  intro p l e s m args below meth c H locs cells slots RC RS lo cA D lsA C h1 h2 h3 h4 h5 h6
  obtain ⟨k0, hk0⟩ := List.getElem?_of_mem (vls_mem (lo := lo) (q := (i, .int x)) |>.mpr ⟨_, hx, rfl⟩)
  exact lv_iinc C.1 C.2.1 hd h6 hk0 hv hn rfl (fun lsB hB => (k p l e s m args below meth c H locs cells slots RC RS lo cA D lsB C h1 h2 h3 h4 h5 (zst1 (Nat.le_of_lt (List.getElem?_eq_some_iff.mp hx).1) hz hB)))
/-- fewer locals are told -/
theorem Z_fewer (hl : ∀ (k : Nat) (v : Value), ls'[k]? = some (some v) → ls[k]? = some (some v)) (k : Z d kc ks R pc ls' st ω) : Z d kc ks R pc ls st ω := by
  intro p l e s m args below meth c H locs cells slots RC RS lo cA D lsA C h1 h2 h3 h4 h5 h6
  exact k p l e s m args below meth c H locs cells slots RC RS lo cA D lsA C h1 h2 h3 h4 h5 (vls_to h6 fun j v hj => vls_mem.mpr ⟨v, hl j v hj, rfl⟩)
theorem Z_take (n : Nat) (hl : ls.take n = ls') (k : Z d kc ks R pc ls' st ω) : Z d kc ks R pc ls st ω := by
  subst hl
  refine Z_fewer (fun j v hj => ?_) k
  rw [List.getElem?_take] at hj
  split at hj
  · exact hj
  · cases hj
theorem Z_iadd {x y : Int32} (hd : decode d.2.1 pc = .ok (.iadd, 1)) (hp : pc + 1 = pc') (k : Z d kc ks R pc' ls (.int (x + y) :: st) ω) : Z d kc ks R pc ls (.int y :: .int x :: st) ω := by
  subst hp
  intro p l e s m args below meth c H locs cells slots RC RS lo cA D lsA C h1 h2 h3 h4 h5 h6
  exact lv_iadd C.1 C.2.1 hd  (k p l e s m args below meth c H locs cells slots RC RS lo cA D lsA C h1 h2 h3 h4 h5 h6)
theorem Z_isub {x y : Int32} (hd : decode d.2.1 pc = .ok (.isub, 1)) (hp : pc + 1 = pc') (k : Z d kc ks R pc' ls (.int (x - y) :: st) ω) : Z d kc ks R pc ls (.int y :: .int x :: st) ω := by
  subst hp
  intro p l e s m args below meth c H locs cells slots RC RS lo cA D lsA C h1 h2 h3 h4 h5 h6
  exact lv_isub C.1 C.2.1 hd  (k p l e s m args below meth c H locs cells slots RC RS lo cA D lsA C h1 h2 h3 h4 h5 h6)
theorem Z_imul {x y : Int32} (hd : decode d.2.1 pc = .ok (.imul, 1)) (hp : pc + 1 = pc') (k : Z d kc ks R pc' ls (.int (x * y) :: st) ω) : Z d kc ks R pc ls (.int y :: .int x :: st) ω := by
  subst hp
  intro p l e s m args below meth c H locs cells slots RC RS lo cA D lsA C h1 h2 h3 h4 h5 h6
  exact lv_imul C.1 C.2.1 hd  (k p l e s m args below meth c H locs cells slots RC RS lo cA D lsA C h1 h2 h3 h4 h5 h6)
theorem Z_iand {x y : Int32} (hd : decode d.2.1 pc = .ok (.iand, 1)) (hp : pc + 1 = pc') (k : Z d kc ks R pc' ls (.int (x &&& y) :: st) ω) : Z d kc ks R pc ls (.int y :: .int x :: st) ω := by
  subst hp
  intro p l e s m args below meth c H locs cells slots RC RS lo cA D lsA C h1 h2 h3 h4 h5 h6
  exact lv_iand C.1 C.2.1 hd  (k p l e s m args below meth c H locs cells slots RC RS lo cA D lsA C h1 h2 h3 h4 h5 h6)
theorem Z_ior {x y : Int32} (hd : decode d.2.1 pc = .ok (.ior, 1)) (hp : pc + 1 = pc') (k : Z d kc ks R pc' ls (.int (x ||| y) :: st) ω) : Z d kc ks R pc ls (.int y :: .int x :: st) ω := by
  subst hp
  intro p l e s m args below meth c H locs cells slots RC RS lo cA D lsA C h1 h2 h3 h4 h5 h6
  exact lv_ior C.1 C.2.1 hd  (k p l e s m args below meth c H locs cells slots RC RS lo cA D lsA C h1 h2 h3 h4 h5 h6)
theorem Z_ixor {x y : Int32} (hd : decode d.2.1 pc = .ok (.ixor, 1)) (hp : pc + 1 = pc') (k : Z d kc ks R pc' ls (.int (x ^^^ y) :: st) ω) : Z d kc ks R pc ls (.int y :: .int x :: st) ω := by
  subst hp
  intro p l e s m args below meth c H locs cells slots RC RS lo cA D lsA C h1 h2 h3 h4 h5 h6
  exact lv_ixor C.1 C.2.1 hd  (k p l e s m args below meth c H locs cells slots RC RS lo cA D lsA C h1 h2 h3 h4 h5 h6)
theorem Z_idiv {x y : Int32} (hd : decode d.2.1 pc = .ok (.idiv, 1)) (hne : ¬ y = 0) (hp : pc + 1 = pc') (k : Z d kc ks R pc' ls (.int (x / y) :: st) ω) : Z d kc ks R pc ls (.int y :: .int x :: st) ω := by
  subst hp
  intro p l e s m args below meth c H locs cells slots RC RS lo cA D lsA C h1 h2 h3 h4 h5 h6
  exact lv_idiv C.1 C.2.1 hd hne (k p l e s m args below meth c H locs cells slots RC RS lo cA D lsA C h1 h2 h3 h4 h5 h6)
theorem Z_irem {x y : Int32} (hd : decode d.2.1 pc = .ok (.irem, 1)) (hne : ¬ y = 0) (hp : pc + 1 = pc') (k : Z d kc ks R pc' ls (.int (x - x / y * y) :: st) ω) : Z d kc ks R pc ls (.int y :: .int x :: st) ω := by
  subst hp
  intro p l e s m args below meth c H locs cells slots RC RS lo cA D lsA C h1 h2 h3 h4 h5 h6
  exact lv_irem C.1 C.2.1 hd hne (k p l e s m args below meth c H locs cells slots RC RS lo cA D lsA C h1 h2 h3 h4 h5 h6)
theorem Z_ineg {x : Int32} (hd : decode d.2.1 pc = .ok (.ineg, 1)) (hp : pc + 1 = pc') (k : Z d kc ks R pc' ls (.int (-x) :: st) ω) : Z d kc ks R pc ls (.int x :: st) ω := by
  subst hp
  intro p l e s m args below meth c H locs cells slots RC RS lo cA D lsA C h1 h2 h3 h4 h5 h6
  exact lv_ineg C.1 C.2.1 hd  (k p l e s m args below meth c H locs cells slots RC RS lo cA D lsA C h1 h2 h3 h4 h5 h6)
theorem Z_ladd {x y : Int64} (hd : decode d.2.1 pc = .ok (.ladd, 1)) (hp : pc + 1 = pc') (k : Z d kc ks R pc' ls (.long (x + y) :: st) ω) : Z d kc ks R pc ls (.long y :: .long x :: st) ω := by
  subst hp
  intro p l e s m args below meth c H locs cells slots RC RS lo cA D lsA C h1 h2 h3 h4 h5 h6
  exact lv_ladd C.1 C.2.1 hd  (k p l e s m args below meth c H locs cells slots RC RS lo cA D lsA C h1 h2 h3 h4 h5 h6)
theorem Z_lsub {x y : Int64} (hd : decode d.2.1 pc = .ok (.lsub, 1)) (hp : pc + 1 = pc') (k : Z d kc ks R pc' ls (.long (x - y) :: st) ω) : Z d kc ks R pc ls (.long y :: .long x :: st) ω := by
  subst hp
  intro p l e s m args below meth c H locs cells slots RC RS lo cA D lsA C h1 h2 h3 h4 h5 h6
  exact lv_lsub C.1 C.2.1 hd  (k p l e s m args below meth c H locs cells slots RC RS lo cA D lsA C h1 h2 h3 h4 h5 h6)
theorem Z_land {x y : Int64} (hd : decode d.2.1 pc = .ok (.land, 1)) (hp : pc + 1 = pc') (k : Z d kc ks R pc' ls (.long (x &&& y) :: st) ω) : Z d kc ks R pc ls (.long y :: .long x :: st) ω := by
  subst hp
  intro p l e s m args below meth c H locs cells slots RC RS lo cA D lsA C h1 h2 h3 h4 h5 h6
  exact lv_land C.1 C.2.1 hd  (k p l e s m args below meth c H locs cells slots RC RS lo cA D lsA C h1 h2 h3 h4 h5 h6)
theorem Z_lor {x y : Int64} (hd : decode d.2.1 pc = .ok (.lor, 1)) (hp : pc + 1 = pc') (k : Z d kc ks R pc' ls (.long (x ||| y) :: st) ω) : Z d kc ks R pc ls (.long y :: .long x :: st) ω := by
  subst hp
  intro p l e s m args below meth c H locs cells slots RC RS lo cA D lsA C h1 h2 h3 h4 h5 h6
  exact lv_lor C.1 C.2.1 hd  (k p l e s m args below meth c H locs cells slots RC RS lo cA D lsA C h1 h2 h3 h4 h5 h6)
theorem Z_lxor {x y : Int64} (hd : decode d.2.1 pc = .ok (.lxor, 1)) (hp : pc + 1 = pc') (k : Z d kc ks R pc' ls (.long (x ^^^ y) :: st) ω) : Z d kc ks R pc ls (.long y :: .long x :: st) ω := by
  subst hp
  intro p l e s m args below meth c H locs cells slots RC RS lo cA D lsA C h1 h2 h3 h4 h5 h6
  exact lv_lxor C.1 C.2.1 hd  (k p l e s m args below meth c H locs cells slots RC RS lo cA D lsA C h1 h2 h3 h4 h5 h6)
theorem Z_ishl {x y : Int32} (hd : decode d.2.1 pc = .ok (.ishl, 1)) (hp : pc + 1 = pc') (k : Z d kc ks R pc' ls (.int (x <<< (y &&& 31)) :: st) ω) : Z d kc ks R pc ls (.int y :: .int x :: st) ω := by
  subst hp
  intro p l e s m args below meth c H locs cells slots RC RS lo cA D lsA C h1 h2 h3 h4 h5 h6
  exact lv_ishl C.1 C.2.1 hd  (k p l e s m args below meth c H locs cells slots RC RS lo cA D lsA C h1 h2 h3 h4 h5 h6)
theorem Z_ishr {x y : Int32} (hd : decode d.2.1 pc = .ok (.ishr, 1)) (hp : pc + 1 = pc') (k : Z d kc ks R pc' ls (.int (x >>> (y &&& 31)) :: st) ω) : Z d kc ks R pc ls (.int y :: .int x :: st) ω := by
  subst hp
  intro p l e s m args below meth c H locs cells slots RC RS lo cA D lsA C h1 h2 h3 h4 h5 h6
  exact lv_ishr C.1 C.2.1 hd  (k p l e s m args below meth c H locs cells slots RC RS lo cA D lsA C h1 h2 h3 h4 h5 h6)
theorem Z_iushr {x y : Int32} (hd : decode d.2.1 pc = .ok (.iushr, 1)) (hp : pc + 1 = pc') (k : Z d kc ks R pc' ls (.int (x.toUInt32 >>> (y.toUInt32 &&& Int32.toUInt32 31)).toInt32 :: st) ω) : Z d kc ks R pc ls (.int y :: .int x :: st) ω := by
  subst hp
  intro p l e s m args below meth c H locs cells slots RC RS lo cA D lsA C h1 h2 h3 h4 h5 h6
  exact lv_iushr C.1 C.2.1 hd rfl (k p l e s m args below meth c H locs cells slots RC RS lo cA D lsA C h1 h2 h3 h4 h5 h6)
theorem Z_lushr {x : Int64} {y : Int32} (hd : decode d.2.1 pc = .ok (.lushr, 1)) (hp : pc + 1 = pc') (k : Z d kc ks R pc' ls (.long (x.toUInt64 >>> (y.toInt64.toUInt64 &&& Int64.toUInt64 63)).toInt64 :: st) ω) : Z d kc ks R pc ls (.int y :: .long x :: st) ω := by
  subst hp
  intro p l e s m args below meth c H locs cells slots RC RS lo cA D lsA C h1 h2 h3 h4 h5 h6
  exact lv_lushr C.1 C.2.1 hd rfl (k p l e s m args below meth c H locs cells slots RC RS lo cA D lsA C h1 h2 h3 h4 h5 h6)
theorem Z_lshl {x : Int64} {y : Int32} (hd : decode d.2.1 pc = .ok (.lshl, 1)) (hp : pc + 1 = pc') (k : Z d kc ks R pc' ls (.long (x <<< (y.toInt64 &&& 63)) :: st) ω) : Z d kc ks R pc ls (.int y :: .long x :: st) ω := by
  subst hp
  intro p l e s m args below meth c H locs cells slots RC RS lo cA D lsA C h1 h2 h3 h4 h5 h6
  exact lv_lshl C.1 C.2.1 hd rfl (k p l e s m args below meth c H locs cells slots RC RS lo cA D lsA C h1 h2 h3 h4 h5 h6)
theorem Z_lshr {x : Int64} {y : Int32} (hd : decode d.2.1 pc = .ok (.lshr, 1)) (hp : pc + 1 = pc') (k : Z d kc ks R pc' ls (.long (x >>> (y.toInt64 &&& 63)) :: st) ω) : Z d kc ks R pc ls (.int y :: .long x :: st) ω := by
  subst hp
  intro p l e s m args below meth c H locs cells slots RC RS lo cA D lsA C h1 h2 h3 h4 h5 h6
  exact lv_lshr C.1 C.2.1 hd rfl (k p l e s m args below meth c H locs cells slots RC RS lo cA D lsA C h1 h2 h3 h4 h5 h6)
theorem Z_l2i {x : Int64} (hd : decode d.2.1 pc = .ok (.l2i, 1)) (hp : pc + 1 = pc') (k : Z d kc ks R pc' ls (.int x.toInt32 :: st) ω) : Z d kc ks R pc ls (.long x :: st) ω := by
  subst hp
  intro p l e s m args below meth c H locs cells slots RC RS lo cA D lsA C h1 h2 h3 h4 h5 h6
  exact lv_l2i C.1 C.2.1 hd rfl (k p l e s m args below meth c H locs cells slots RC RS lo cA D lsA C h1 h2 h3 h4 h5 h6)
theorem Z_lcmp {x y : Int64} (hd : decode d.2.1 pc = .ok (.lcmp, 1)) (hp : pc + 1 = pc') (k : Z d kc ks R pc' ls (.int (lg_cmp x y) :: st) ω) : Z d kc ks R pc ls (.long y :: .long x :: st) ω := by
  subst hp
  intro p l e s m args below meth c H locs cells slots RC RS lo cA D lsA C h1 h2 h3 h4 h5 h6
  exact W.lcmp C.1 C.2.1 hd  (k p l e s m args below meth c H locs cells slots RC RS lo cA D lsA C h1 h2 h3 h4 h5 h6)
theorem Z_null  (hd : decode d.2.1 pc = .ok (.aconst_null, 1)) (hp : pc + 1 = pc') (k : Z d kc ks R pc' ls (.null :: st) ω) : Z d kc ks R pc ls (st) ω := by
  subst hp
  intro p l e s m args below meth c H locs cells slots RC RS lo cA D lsA C h1 h2 h3 h4 h5 h6
  exact lv_null C.1 C.2.1 hd  (k p l e s m args below meth c H locs cells slots RC RS lo cA D lsA C h1 h2 h3 h4 h5 h6)
theorem Z_dup {v : Value} (hd : decode d.2.1 pc = .ok (.dup, 1)) (hv : v.category = 1) (hp : pc + 1 = pc') (k : Z d kc ks R pc' ls (v :: v :: st) ω) : Z d kc ks R pc ls (v :: st) ω := by
  subst hp
  intro p l e s m args below meth c H locs cells slots RC RS lo cA D lsA C h1 h2 h3 h4 h5 h6
  exact lv_dup C.1 C.2.1 hd ((vsh_cat lo v).trans hv) (k p l e s m args below meth c H locs cells slots RC RS lo cA D lsA C h1 h2 h3 h4 h5 h6)
theorem Z_pop {v : Value} (hd : decode d.2.1 pc = .ok (.pop, 1)) (hv : v.category = 1) (hp : pc + 1 = pc') (k : Z d kc ks R pc' ls st ω) : Z d kc ks R pc ls (v :: st) ω := by
  subst hp
  intro p l e s m args below meth c H locs cells slots RC RS lo cA D lsA C h1 h2 h3 h4 h5 h6
  exact lv_pop C.1 C.2.1 hd ((vsh_cat lo v).trans hv) (k p l e s m args below meth c H locs cells slots RC RS lo cA D lsA C h1 h2 h3 h4 h5 h6)
theorem Z_dup2 {v u : Value} (hd : decode d.2.1 pc = .ok (.dup2, 1)) (hv : v.category = 1) (hu : u.category = 1) (hp : pc + 1 = pc') (k : Z d kc ks R pc' ls (v :: u :: v :: u :: st) ω) : Z d kc ks R pc ls (v :: u :: st) ω := by
  subst hp
  intro p l e s m args below meth c H locs cells slots RC RS lo cA D lsA C h1 h2 h3 h4 h5 h6
  exact lv_dup2_11 C.1 C.2.1 hd ((vsh_cat lo v).trans hv) ((vsh_cat lo u).trans hu) (k p l e s m args below meth c H locs cells slots RC RS lo cA D lsA C h1 h2 h3 h4 h5 h6)
theorem Z_goto {off : Int} {tgt : Nat} (hd : decode d.2.1 pc = .ok (.goto off, 3)) (ht : (pc : Int) + off = (tgt : Int)) (k : Z d kc ks R tgt ls st ω) : Z d kc ks R pc ls st ω := by
  intro p l e s m args below meth c H locs cells slots RC RS lo cA D lsA C h1 h2 h3 h4 h5 h6
  exact lv_goto C.1 C.2.1 hd ht (k p l e s m args below meth c H locs cells slots RC RS lo cA D lsA C h1 h2 h3 h4 h5 h6)
theorem Z_ldc {own : String} {index : Nat} {v : Int32} (hd : decode d.2.1 pc = .ok (.ldc index, 2)) (ho : d.1.cls = own) (hw : Cond.constant own index v ∈ ztb) (hp : pc + 2 = pc') (k : Z d kc ks R pc' ls (.int v :: st) ω) : Z d kc ks R pc ls st ω := by
  subst hp; subst ho
  intro p l e s m args below meth c H locs cells slots RC RS lo cA D lsA C h1 h2 h3 h4 h5 h6
  exact lv_ldc C.1 C.2.1 C.2.2.2.2.1 (C.2.2.2.2.2.2.2.1 _ hw) hd (k p l e s m args below meth c H locs cells slots RC RS lo cA D lsA C h1 h2 h3 h4 h5 h6)
theorem Z_ldcw {own : String} {index : Nat} {v : Int32} (hd : decode d.2.1 pc = .ok (.ldc_w index, 3)) (ho : d.1.cls = own) (hw : Cond.constant own index v ∈ ztb) (hp : pc + 3 = pc') (k : Z d kc ks R pc' ls (.int v :: st) ω) : Z d kc ks R pc ls st ω := by
  subst hp; subst ho
  intro p l e s m args below meth c H locs cells slots RC RS lo cA D lsA C h1 h2 h3 h4 h5 h6
  exact lv_ldcw C.1 C.2.1 C.2.2.2.2.1 (C.2.2.2.2.2.2.2.1 _ hw) hd (k p l e s m args below meth c H locs cells slots RC RS lo cA D lsA C h1 h2 h3 h4 h5 h6)
theorem Z_ldc2 {own : String} {index : Nat} {v : Int64} (hd : decode d.2.1 pc = .ok (.ldc2_w index, 3)) (ho : d.1.cls = own) (hw : Cond.constantLong own index v ∈ ztb) (hp : pc + 3 = pc') (k : Z d kc ks R pc' ls (.long v :: st) ω) : Z d kc ks R pc ls st ω := by
  subst hp; subst ho
  intro p l e s m args below meth c H locs cells slots RC RS lo cA D lsA C h1 h2 h3 h4 h5 h6
  exact lv_ldc2 C.1 C.2.1 C.2.2.2.2.1 (C.2.2.2.2.2.2.2.1 _ hw) hd (k p l e s m args below meth c H locs cells slots RC RS lo cA D lsA C h1 h2 h3 h4 h5 h6)
theorem Z_if_eq {x : Int32} {off : Int} {tgt : Nat} (hd : decode d.2.1 pc = .ok (.ifCond .eq off, 3)) (ht : (pc : Int) + off = (tgt : Int)) (hp : pc + 3 = pc') (kt : x = 0 → Z d kc ks R tgt ls st ω) (kf : ¬ x = 0 → Z d kc ks R pc' ls st ω) : Z d kc ks R pc ls (.int x :: st) ω := by
  subst hp
  intro p l e s m args below meth c H locs cells slots RC RS lo cA D lsA C h1 h2 h3 h4 h5 h6
  exact lv_if_eq C.1 C.2.1 hd ht (fun q => kt q p l e s m args below meth c H locs cells slots RC RS lo cA D lsA C h1 h2 h3 h4 h5 h6) (fun q => kf q p l e s m args below meth c H locs cells slots RC RS lo cA D lsA C h1 h2 h3 h4 h5 h6)
theorem Z_icmp_eq {x y : Int32} {off : Int} {tgt : Nat} (hd : decode d.2.1 pc = .ok (.if_icmp .eq off, 3)) (ht : (pc : Int) + off = (tgt : Int)) (hp : pc + 3 = pc') (kt : x = y → Z d kc ks R tgt ls st ω) (kf : ¬ x = y → Z d kc ks R pc' ls st ω) : Z d kc ks R pc ls (.int y :: .int x :: st) ω := by
  subst hp
  intro p l e s m args below meth c H locs cells slots RC RS lo cA D lsA C h1 h2 h3 h4 h5 h6
  exact lv_icmp_eq C.1 C.2.1 hd ht (fun q => kt q p l e s m args below meth c H locs cells slots RC RS lo cA D lsA C h1 h2 h3 h4 h5 h6) (fun q => kf q p l e s m args below meth c H locs cells slots RC RS lo cA D lsA C h1 h2 h3 h4 h5 h6)
theorem Z_if_ne {x : Int32} {off : Int} {tgt : Nat} (hd : decode d.2.1 pc = .ok (.ifCond .ne off, 3)) (ht : (pc : Int) + off = (tgt : Int)) (hp : pc + 3 = pc') (kt : ¬ x = 0 → Z d kc ks R tgt ls st ω) (kf : x = 0 → Z d kc ks R pc' ls st ω) : Z d kc ks R pc ls (.int x :: st) ω := by
  subst hp
  intro p l e s m args below meth c H locs cells slots RC RS lo cA D lsA C h1 h2 h3 h4 h5 h6
  exact lv_if_ne C.1 C.2.1 hd ht (fun q => kt q p l e s m args below meth c H locs cells slots RC RS lo cA D lsA C h1 h2 h3 h4 h5 h6) (fun q => kf q p l e s m args below meth c H locs cells slots RC RS lo cA D lsA C h1 h2 h3 h4 h5 h6)
theorem Z_icmp_ne {x y : Int32} {off : Int} {tgt : Nat} (hd : decode d.2.1 pc = .ok (.if_icmp .ne off, 3)) (ht : (pc : Int) + off = (tgt : Int)) (hp : pc + 3 = pc') (kt : ¬ x = y → Z d kc ks R tgt ls st ω) (kf : x = y → Z d kc ks R pc' ls st ω) : Z d kc ks R pc ls (.int y :: .int x :: st) ω := by
  subst hp
  intro p l e s m args below meth c H locs cells slots RC RS lo cA D lsA C h1 h2 h3 h4 h5 h6
  exact lv_icmp_ne C.1 C.2.1 hd ht (fun q => kt q p l e s m args below meth c H locs cells slots RC RS lo cA D lsA C h1 h2 h3 h4 h5 h6) (fun q => kf q p l e s m args below meth c H locs cells slots RC RS lo cA D lsA C h1 h2 h3 h4 h5 h6)
theorem Z_if_lt {x : Int32} {off : Int} {tgt : Nat} (hd : decode d.2.1 pc = .ok (.ifCond .lt off, 3)) (ht : (pc : Int) + off = (tgt : Int)) (hp : pc + 3 = pc') (kt : x < 0 → Z d kc ks R tgt ls st ω) (kf : ¬ x < 0 → Z d kc ks R pc' ls st ω) : Z d kc ks R pc ls (.int x :: st) ω := by
  subst hp
  intro p l e s m args below meth c H locs cells slots RC RS lo cA D lsA C h1 h2 h3 h4 h5 h6
  exact lv_if_lt C.1 C.2.1 hd ht (fun q => kt q p l e s m args below meth c H locs cells slots RC RS lo cA D lsA C h1 h2 h3 h4 h5 h6) (fun q => kf q p l e s m args below meth c H locs cells slots RC RS lo cA D lsA C h1 h2 h3 h4 h5 h6)
theorem Z_icmp_lt {x y : Int32} {off : Int} {tgt : Nat} (hd : decode d.2.1 pc = .ok (.if_icmp .lt off, 3)) (ht : (pc : Int) + off = (tgt : Int)) (hp : pc + 3 = pc') (kt : x < y → Z d kc ks R tgt ls st ω) (kf : ¬ x < y → Z d kc ks R pc' ls st ω) : Z d kc ks R pc ls (.int y :: .int x :: st) ω := by
  subst hp
  intro p l e s m args below meth c H locs cells slots RC RS lo cA D lsA C h1 h2 h3 h4 h5 h6
  exact lv_icmp_lt C.1 C.2.1 hd ht (fun q => kt q p l e s m args below meth c H locs cells slots RC RS lo cA D lsA C h1 h2 h3 h4 h5 h6) (fun q => kf q p l e s m args below meth c H locs cells slots RC RS lo cA D lsA C h1 h2 h3 h4 h5 h6)
theorem Z_if_ge {x : Int32} {off : Int} {tgt : Nat} (hd : decode d.2.1 pc = .ok (.ifCond .ge off, 3)) (ht : (pc : Int) + off = (tgt : Int)) (hp : pc + 3 = pc') (kt : 0 ≤ x → Z d kc ks R tgt ls st ω) (kf : ¬ 0 ≤ x → Z d kc ks R pc' ls st ω) : Z d kc ks R pc ls (.int x :: st) ω := by
  subst hp
  intro p l e s m args below meth c H locs cells slots RC RS lo cA D lsA C h1 h2 h3 h4 h5 h6
  exact lv_if_ge C.1 C.2.1 hd ht (fun q => kt q p l e s m args below meth c H locs cells slots RC RS lo cA D lsA C h1 h2 h3 h4 h5 h6) (fun q => kf q p l e s m args below meth c H locs cells slots RC RS lo cA D lsA C h1 h2 h3 h4 h5 h6)
theorem Z_icmp_ge {x y : Int32} {off : Int} {tgt : Nat} (hd : decode d.2.1 pc = .ok (.if_icmp .ge off, 3)) (ht : (pc : Int) + off = (tgt : Int)) (hp : pc + 3 = pc') (kt : y ≤ x → Z d kc ks R tgt ls st ω) (kf : ¬ y ≤ x → Z d kc ks R pc' ls st ω) : Z d kc ks R pc ls (.int y :: .int x :: st) ω := by
  subst hp
  intro p l e s m args below meth c H locs cells slots RC RS lo cA D lsA C h1 h2 h3 h4 h5 h6
  exact lv_icmp_ge C.1 C.2.1 hd ht (fun q => kt q p l e s m args below meth c H locs cells slots RC RS lo cA D lsA C h1 h2 h3 h4 h5 h6) (fun q => kf q p l e s m args below meth c H locs cells slots RC RS lo cA D lsA C h1 h2 h3 h4 h5 h6)
theorem Z_if_gt {x : Int32} {off : Int} {tgt : Nat} (hd : decode d.2.1 pc = .ok (.ifCond .gt off, 3)) (ht : (pc : Int) + off = (tgt : Int)) (hp : pc + 3 = pc') (kt : 0 < x → Z d kc ks R tgt ls st ω) (kf : ¬ 0 < x → Z d kc ks R pc' ls st ω) : Z d kc ks R pc ls (.int x :: st) ω := by
  subst hp
  intro p l e s m args below meth c H locs cells slots RC RS lo cA D lsA C h1 h2 h3 h4 h5 h6
  exact lv_if_gt C.1 C.2.1 hd ht (fun q => kt q p l e s m args below meth c H locs cells slots RC RS lo cA D lsA C h1 h2 h3 h4 h5 h6) (fun q => kf q p l e s m args below meth c H locs cells slots RC RS lo cA D lsA C h1 h2 h3 h4 h5 h6)
theorem Z_icmp_gt {x y : Int32} {off : Int} {tgt : Nat} (hd : decode d.2.1 pc = .ok (.if_icmp .gt off, 3)) (ht : (pc : Int) + off = (tgt : Int)) (hp : pc + 3 = pc') (kt : y < x → Z d kc ks R tgt ls st ω) (kf : ¬ y < x → Z d kc ks R pc' ls st ω) : Z d kc ks R pc ls (.int y :: .int x :: st) ω := by
  subst hp
  intro p l e s m args below meth c H locs cells slots RC RS lo cA D lsA C h1 h2 h3 h4 h5 h6
  exact lv_icmp_gt C.1 C.2.1 hd ht (fun q => kt q p l e s m args below meth c H locs cells slots RC RS lo cA D lsA C h1 h2 h3 h4 h5 h6) (fun q => kf q p l e s m args below meth c H locs cells slots RC RS lo cA D lsA C h1 h2 h3 h4 h5 h6)
theorem Z_if_le {x : Int32} {off : Int} {tgt : Nat} (hd : decode d.2.1 pc = .ok (.ifCond .le off, 3)) (ht : (pc : Int) + off = (tgt : Int)) (hp : pc + 3 = pc') (kt : x ≤ 0 → Z d kc ks R tgt ls st ω) (kf : ¬ x ≤ 0 → Z d kc ks R pc' ls st ω) : Z d kc ks R pc ls (.int x :: st) ω := by
  subst hp
  intro p l e s m args below meth c H locs cells slots RC RS lo cA D lsA C h1 h2 h3 h4 h5 h6
  exact lv_if_le C.1 C.2.1 hd ht (fun q => kt q p l e s m args below meth c H locs cells slots RC RS lo cA D lsA C h1 h2 h3 h4 h5 h6) (fun q => kf q p l e s m args below meth c H locs cells slots RC RS lo cA D lsA C h1 h2 h3 h4 h5 h6)
theorem Z_icmp_le {x y : Int32} {off : Int} {tgt : Nat} (hd : decode d.2.1 pc = .ok (.if_icmp .le off, 3)) (ht : (pc : Int) + off = (tgt : Int)) (hp : pc + 3 = pc') (kt : x ≤ y → Z d kc ks R tgt ls st ω) (kf : ¬ x ≤ y → Z d kc ks R pc' ls st ω) : Z d kc ks R pc ls (.int y :: .int x :: st) ω := by
  subst hp
  intro p l e s m args below meth c H locs cells slots RC RS lo cA D lsA C h1 h2 h3 h4 h5 h6
  exact lv_icmp_le C.1 C.2.1 hd ht (fun q => kt q p l e s m args below meth c H locs cells slots RC RS lo cA D lsA C h1 h2 h3 h4 h5 h6) (fun q => kf q p l e s m args below meth c H locs cells slots RC RS lo cA D lsA C h1 h2 h3 h4 h5 h6)
theorem Z_ifnonnull {off : Int} {tgt : Nat} {r : Option Nat} (hd : decode d.2.1 pc = .ok (.ifnonnull off, 3)) (ht : (pc : Int) + off = (tgt : Int)) (hp : pc + 3 = pc') (kt : ∀ a, r = some a → Z d kc ks R tgt ls st ω) (kf : r = none → Z d kc ks R pc' ls st ω) : Z d kc ks R pc ls (va_rf r :: st) ω := by
  subst hp
  intro p l e s m args below meth c H locs cells slots RC RS lo cA D lsA C h1 h2 h3 h4 h5 h6
  cases r with
  | none => exact lv_ifnonnullN C.1 C.2.1 hd (kf rfl p l e s m args below meth c H locs cells slots RC RS lo cA D lsA C h1 h2 h3 h4 h5 h6)
  | some a => exact lv_ifnonnull C.1 C.2.1 hd ht (kt a rfl p l e s m args below meth c H locs cells slots RC RS lo cA D lsA C h1 h2 h3 h4 h5 h6)
theorem Z_ifnull {off : Int} {tgt : Nat} {r : Option Nat} (hd : decode d.2.1 pc = .ok (.ifnull off, 3)) (ht : (pc : Int) + off = (tgt : Int)) (hp : pc + 3 = pc') (kt : r = none → Z d kc ks R tgt ls st ω) (kf : ∀ a, r = some a → Z d kc ks R pc' ls st ω) : Z d kc ks R pc ls (va_rf r :: st) ω := by
  subst hp
  intro p l e s m args below meth c H locs cells slots RC RS lo cA D lsA C h1 h2 h3 h4 h5 h6
  cases r with
  | none => exact lv_ifnullN C.1 C.2.1 hd ht (kt rfl p l e s m args below meth c H locs cells slots RC RS lo cA D lsA C h1 h2 h3 h4 h5 h6)
  | some a => exact lv_ifnull C.1 C.2.1 hd (kf a rfl p l e s m args below meth c H locs cells slots RC RS lo cA D lsA C h1 h2 h3 h4 h5 h6)
theorem Z_lookup {dflt : Int} {ps : Array (Int × Int)} {len : Nat} {x : Int32} {off : Int} {tgt : Nat} (hd : decode d.2.1 pc = .ok (.lookupswitch dflt ps, len)) (hq : (ps.toList.zip (ps.toList.drop 1)).all (fun (a, next) => a.1 < next.1) = true) (ho : Op.lookupswitch.offset ps.toList dflt x.toInt = off) (ht : (pc : Int) + off = (tgt : Int)) (k : Z d kc ks R tgt ls st ω) : Z d kc ks R pc ls (.int x :: st) ω := by
  intro p l e s m args below meth c H locs cells slots RC RS lo cA D lsA C h1 h2 h3 h4 h5 h6
  exact lv_lookup C.1 C.2.1 hd hq ho ht (k p l e s m args below meth c H locs cells slots RC RS lo cA D lsA C h1 h2 h3 h4 h5 h6)
theorem Z_tableOut {dflt lo hi : Int} {offs : Array Int} {len : Nat} {x : Int32} {tgt : Nat} (hd : decode d.2.1 pc = .ok (.tableswitch dflt lo hi offs, len)) (h : x.toInt < lo ∨ hi < x.toInt) (ht : (pc : Int) + dflt = (tgt : Int)) (k : Z d kc ks R tgt ls st ω) : Z d kc ks R pc ls (.int x :: st) ω := by
  intro p l e s m args below meth c H locs cells slots RC RS lo0 cA D lsA C h1 h2 h3 h4 h5 h6
  exact lv_tableOut C.1 C.2.1 hd h ht (k p l e s m args below meth c H locs cells slots RC RS lo0 cA D lsA C h1 h2 h3 h4 h5 h6)
theorem Z_tableIn {dflt lo hi : Int} {offs : Array Int} {len : Nat} {x : Int32} {off : Int} {tgt : Nat} (hd : decode d.2.1 pc = .ok (.tableswitch dflt lo hi offs, len)) (g1 : ¬ x.toInt < lo) (g2 : ¬ hi < x.toInt) (ho : offs[(x.toInt - lo).toNat]? = some off) (ht : (pc : Int) + off = (tgt : Int)) (k : Z d kc ks R tgt ls st ω) : Z d kc ks R pc ls (.int x :: st) ω := by
  intro p l e s m args below meth c H locs cells slots RC RS lo0 cA D lsA C h1 h2 h3 h4 h5 h6
  exact lv_tableIn C.1 C.2.1 hd g1 g2 ho ht (k p l e s m args below meth c H locs cells slots RC RS lo0 cA D lsA C h1 h2 h3 h4 h5 h6)
theorem Z_widen {kc' ks' : Nat} (hc : kc' ≤ kc) (hs : ks' ≤ ks) (k : Z d kc' ks' R pc ls st ω) : Z d kc ks R pc ls st ω := by
  intro p l e s m args below meth c H locs cells slots RC RS lo cA D lsA C h1 h2 h3 h4 h5 h6
  exact k p l e s m args below meth c H locs cells slots RC RS lo cA D lsA C (Nat.le_trans (Nat.add_le_add_left hc _) h1) (Nat.le_trans (Nat.add_le_add_left hs _) h2) h3 h4 h5 h6
theorem Z_world {σ τ : Nat → ZO} {n : Nat} (hσ : ∀ a, a < n → σ a = τ a) (k : Z d kc ks R pc ls st (τ, n)) : Z d kc ks R pc ls st (σ, n) := by
  intro p l e s m args below meth c H locs cells slots RC RS lo cA D lsA C h1 h2 h3 h4 h5 h6
  exact k p l e s m args below meth c H locs cells slots RC RS lo cA D lsA C h1 h2 h3 (by rw [← vws_congr hσ]; exact h4) h5 h6
theorem Z_ireturn {x : Int32} {ty : FieldType} (hd : decode d.2.1 pc = .ok (.ireturn, 1)) (hr : d.2.2.2.1 = some ty) (hn : narrow ty (.int x) = .int x) (hR : R (some (.int x)) ω) : Z d kc ks R pc ls [.int x] ω := by
  intro p l e s m args below meth c H locs cells slots RC RS lo cA D lsA C h1 h2 h3 h4 h5 h6
  refine W.widen (k := RC) (n := RS) (Nat.le_trans (Nat.le_add_right _ _) h1) (Nat.le_trans (Nat.le_add_right _ _) h2) ?_
  exact W.zret C.1 C.2.1 (C.2.2.1.trans hr) hn (fun t ht hW => ⟨⟨some (.int x), ω, rfl, hR, by rw [ht]; exact h3, by rw [ht]; exact h4⟩, h5.F ht⟩) h5.2.2 hd C.2.2.2.2.2.1
theorem Z_lreturn {x : Int64} (hd : decode d.2.1 pc = .ok (.lreturn, 1)) (hr : d.2.2.2.1 = some .long) (hR : R (some (.long x)) ω) : Z d kc ks R pc ls [.long x] ω := by
  intro p l e s m args below meth c H locs cells slots RC RS lo cA D lsA C h1 h2 h3 h4 h5 h6
  refine W.widen (k := RC) (n := RS) (Nat.le_trans (Nat.le_add_right _ _) h1) (Nat.le_trans (Nat.le_add_right _ _) h2) ?_
  exact W.lret C.1 C.2.1 (C.2.2.1.trans hr) (fun t ht hW => ⟨⟨some (.long x), ω, rfl, hR, by rw [ht]; exact h3, by rw [ht]; exact h4⟩, h5.F ht⟩) h5.2.2 hd C.2.2.2.2.2.1
theorem Z_return (hd : decode d.2.1 pc = .ok (.return_, 1)) (hr : d.2.2.2.1 = none) (hR : R none ω) : Z d kc ks R pc ls [] ω := by
  intro p l e s m args below meth c H locs cells slots RC RS lo cA D lsA C h1 h2 h3 h4 h5 h6
  refine W.widen (k := RC) (n := RS) (Nat.le_trans (Nat.le_add_right _ _) h1) (Nat.le_trans (Nat.le_add_right _ _) h2) ?_
  exact W.vret C.1 C.2.1 (C.2.2.1.trans hr) (fun t ht hW => ⟨⟨none, ω, rfl, hR, by rw [ht]; exact h3, by rw [ht]; exact h4⟩, h5.F ht⟩) h5.2.2 hd C.2.2.2.2.2.1
theorem Z_areturn {v : Value} {rt : FieldType} (hd : decode d.2.1 pc = .ok (.areturn, 1)) (hr : d.2.2.2.1 = some rt) (hrt : (∃ n, rt = .object n) ∨ ∃ t, rt = .array t) (hv : v = .null ∨ ∃ a, v = .ref a) (hR : R (some v) ω) : Z d kc ks R pc ls [v] ω := by
  intro p l e s m args below meth c H locs cells slots RC RS lo cA D lsA C h1 h2 h3 h4 h5 h6
  refine W.widen (k := RC) (n := RS) (Nat.le_trans (Nat.le_add_right _ _) h1) (Nat.le_trans (Nat.le_add_right _ _) h2) ?_
  have hv' : vsh lo v = .null ∨ ∃ a, vsh lo v = .ref a := by
    rcases hv with rfl | ⟨a, rfl⟩
    · exact Or.inl rfl
    · exact Or.inr ⟨lo + a, rfl⟩
  exact W.aret C.1 C.2.1 (C.2.2.1.trans hr) hrt hv' (fun t ht hW => ⟨⟨some v, ω, rfl, hR, by rw [ht]; exact h3, by rw [ht]; exact h4⟩, h5.F ht⟩) h5.2.2 hd C.2.2.2.2.2.1
end ZROWS
end
section
theorem vsh_rf (lo : Nat) (r : Option Nat) : vsh lo (va_rf r) = va_rf (r.map (lo + ·)) := by cases r <;> rfl
/-- field k of the objects of class number ci, as the entry 'index' of the class 'own' names it -/
def zFd (own : String) (index ci k : Nat) (T : u_T) (N : Nat) (C : String) : Prop :=
  vwCl[ci]? = some (C, T, N) ∧ (∀ w ∈ u_ws C T N, w ∈ ztb) ∧ k < N ∧ ∃ ref, (Cond.fieldLink own index ref (T k).2.1 (T k).2.2.1 ∈ ztb) ∧ (ref = (T k).1 ∨ Cond.sameField ref (T k).1 (T k).2.1 (T k).2.2.1 ∈ ztb)
/-- the same across nest mates -/
def zFn (own : String) (index ci k : Nat) (T : u_T) (N : Nat) (C : String) : Prop :=
  vwCl[ci]? = some (C, T, N) ∧ (∀ w ∈ u_ws C T N, w ∈ ztb) ∧ k < N ∧ ∃ ref host, (Cond.fieldLinkNest own index ref (T k).2.1 (T k).2.2.1 host ∈ ztbN) ∧ (ref = (T k).1 ∨ Cond.sameField ref (T k).1 (T k).2.1 (T k).2.2.1 ∈ ztb)
/-- what a class's table says of its fields, for a store -/
def zFt (T : u_T) (N : Nat) (ty : Nat → FieldType) : Prop := (∀ k, k < N → parseFieldDescriptor (T k).2.2.1 = some (ty k)) ∧ (∀ a, a < N → ∀ b, b < N → a ≠ b → (T a).2.1 ≠ (T b).2.1)
theorem zsame {args : Array Value} {s : State} {ref owner n t : String} (hts : ∀ w ∈ ztb, w.before args s = true) (h : ref = owner ∨ Cond.sameField ref owner n t ∈ ztb) (x : ClassId × Class × Nat × Field) (hx : s.fieldFound? owner n t = some x) : s.fieldFound? ref n t = some x := by
  rcases h with rfl | h
  · exact hx
  · exact u_same (hts _ h) x hx
theorem z_putP {lo : Nat} {cA : Nat → ClassId} {D : va_G} {σ : Nat → ZO} {n o ci k N : Nat} {fs : List Value} {v : Value} {T : u_T} {C : String} {H H' : Heap} {cell : Cell} (h4 : va_P D vwCl (vws lo cA (σ, n)) H) (hlt : o < n) (hσ : σ o = .inl (ci, fs)) (hc : vwCl[ci]? = some (C, T, N)) (hl : k < fs.length) (hk : k < N) (hap : ∀ x y, x < N → y < N → x ≠ y → D.2 ci x ≠ D.2 ci y)
    (q2 : cell.cls = D.1 ci) (q3 : cell.vm = .none) (q4 : ∀ j, j < N → cell.slots[D.2 ci j]? = some (vp_V (fs.map (vsh lo)) j)) (e1 : H'[lo + o]? = some (cell.setSlot (D.2 ci k) (vsh lo v))) (e3 : ∀ q, q ≠ lo + o → H'[q]? = H[q]?) : va_P D vwCl (vws lo cA (zup σ o (.inl (ci, fs.set k v)), n)) H' := by
  have he := vws_get (lo := lo) (cA := cA) (ω := (σ, n)) hlt
  rw [← vws_set hlt]
  refine h4.set vws_D he ?_ e3
  refine ⟨_, hc, t_OB.to (V := updV (vp_V (fs.map (vsh lo))) k (vsh lo v)) ⟨_, e1, q2, q3, t_set q4 hap hk _⟩ (fun j _ => ?_)⟩
  rw [vp_updV_set (by simpa using hl) (vsh lo v) j, List.map_set]
section ZHEAP
variable {d : ZD} {kc ks : Nat} {R : Option Value → ZW → Prop} {pc pc' : Nat} {ls ls' : List (Option Value)} {st : List Value} {ω : ZW} {σ : Nat → ZO} {n : Nat}
theorem Z_getfield {own C0 : String} {T : u_T} {N ci k index o : Nat} {fs : List Value} {v : Value} (hd : decode d.2.1 pc = .ok (.getfield index, 3)) (ho : d.1.cls = own) (F : zFd own index ci k T N C0) (hlt : o < n) (hσ : σ o = .inl (ci, fs)) (hv : fs[k]? = some v) (hp : pc + 3 = pc') (kk : Z d kc ks R pc' ls (v :: st) (σ, n)) : Z d kc ks R pc ls (.ref o :: st) (σ, n) := by
  subst hp; subst ho
  intro p l e s m args below meth c H locs cells slots RC RS lo cA D lsA C h1 h2 h3 h4 h5 h6
  obtain ⟨hc, hin, hk, ref, hlink, hsame⟩ := F
  have hts := C.2.2.2.2.2.2.2.1
  have he := vws_get (lo := lo) (cA := cA) (ω := (σ, n)) hlt
  have hh : vE lo cA (σ o) = .inr (ci, fs.map (vsh lo)) := by rw [hσ]; rfl
  rw [show (σ, n).1 o = σ o from rfl, hh] at he
  exact va_get C.1 C.2.1 hts hin C.2.2.2.2.1 C.2.2.2.2.2.2.2.2.2.1 h4 o he hc k hk (hts _ hlink) (zsame hts hsame) (v := vsh lo v) (by rw [List.getElem?_map, hv]; rfl) hd (kk p l e s m args below meth c H locs cells slots RC RS lo cA D lsA C h1 h2 h3 h4 h5 h6)
theorem Z_getfieldN {own C0 : String} {T : u_T} {N ci k index o : Nat} {fs : List Value} {v : Value} (hd : decode d.2.1 pc = .ok (.getfield index, 3)) (ho : d.1.cls = own) (F : zFn own index ci k T N C0) (hlt : o < n) (hσ : σ o = .inl (ci, fs)) (hv : fs[k]? = some v) (hp : pc + 3 = pc') (kk : Z d kc ks R pc' ls (v :: st) (σ, n)) : Z d kc ks R pc ls (.ref o :: st) (σ, n) := by
  subst hp; subst ho
  intro p l e s m args below meth c H locs cells slots RC RS lo cA D lsA C h1 h2 h3 h4 h5 h6
  obtain ⟨hc, hin, hk, ref, host, hlink, hsame⟩ := F
  have hts := C.2.2.2.2.2.2.2.1
  have he := vws_get (lo := lo) (cA := cA) (ω := (σ, n)) hlt
  have hh : vE lo cA (σ o) = .inr (ci, fs.map (vsh lo)) := by rw [hσ]; rfl
  rw [show (σ, n).1 o = σ o from rfl, hh] at he
  exact va_getN C.1 C.2.1 hts hin C.2.2.2.2.1 C.2.2.2.2.2.2.2.2.2.1 h4 o he hc k hk (va_Nw.use rfl (C.2.2.2.2.2.2.2.2.1 _ hlink)) (zsame hts hsame) (v := vsh lo v) (by rw [List.getElem?_map, hv]; rfl) hd (kk p l e s m args below meth c H locs cells slots RC RS lo cA D lsA C h1 h2 h3 h4 h5 h6)
theorem Z_putfield {own C0 : String} {T : u_T} {N ci k index o : Nat} {fs : List Value} {v : Value} {ty0 : Nat → FieldType} (hd : decode d.2.1 pc = .ok (.putfield index, 3)) (ho : d.1.cls = own) (F : zFd own index ci k T N C0) (hty : zFt T N ty0) (hfin : (T k).2.2.2 = false) (hlt : o < n) (hσ : σ o = .inl (ci, fs)) (hl : k < fs.length) (hnv : ∀ lo, narrow (ty0 k) (vsh lo v) = vsh lo v) (hfv : ∀ lo, fits (ty0 k) (vsh lo v) = true) (hp : pc + 3 = pc') (kk : Z d kc ks R pc' ls st (zup σ o (.inl (ci, fs.set k v)), n)) : Z d kc ks R pc ls (v :: .ref o :: st) (σ, n) := by
  subst hp; subst ho
  intro p l e s m args below meth c H locs cells slots RC RS lo cA D lsA C h1 h2 h3 h4 h5 h6
  obtain ⟨hc, hin, hk, ref, hlink, hsame⟩ := F
  have hts := C.2.2.2.2.2.2.2.1
  have hK := C.2.2.2.2.2.2.2.2.2.1
  have he := vws_get (lo := lo) (cA := cA) (ω := (σ, n)) hlt
  have hh : vE lo cA (σ o) = .inr (ci, fs.map (vsh lo)) := by rw [hσ]; rfl
  rw [show (σ, n).1 o = σ o from rfl, hh] at he
  have hap := va_apart (own := d.1.cls) hts hin ty0 hty.1 hty.2 hK hc
  obtain ⟨r, g1, cell, q1, q2, q3, q4⟩ := h4 o _ he
  have hr : r = (C0, T, N) := Option.some.inj (g1.symm.trans hc)
  subst hr
  obtain ⟨hSl, hfc, kC, hkC, hkind⟩ := hK.1 ci _ hc
  obtain ⟨cf, kf, fi, f, hi, hsl⟩ := hSl k hk
  have hlay := hts _ (hin _ (u_in_lay hk))
  unfold u_lay at hlay
  have hst := (u_facts hfc hkC (u_lays hts hin hk) hi).1
  have hdt := hty.1 k hk
  rw [if_neg (by rw [hfin]; decide)] at hlay
  have h9 := u_store hfc hkC hkind hlay hi hdt (hnv lo) (hfv lo)
  refine W.putK C.1 C.2.1 (f := f) ⟨C.2.2.2.2.1, hts _ hlink, ⟨_, _, _, zsame hts hsame _ hi⟩, hst⟩ (by rw [q2]; exact h9) q1 q3 (by rw [hsl]; exact k2_hasslot (q4 k hk)) rfl rfl hd fun H' e1 e2 e3 => ?_
  rw [hsl] at e1 ⊢
  exact kk p l e s m args below meth c H' _ cells slots RC RS lo cA D lsA C h1 h2 (by rw [e2]; exact h3) (z_putP h4 hlt hσ hc hl hk hap q2 q3 q4 e1 e3) (h5.put e2 e3 (Nat.le_add_right _ _)) h6
theorem Z_putfieldN {own C0 : String} {T : u_T} {N ci k index o : Nat} {fs : List Value} {v : Value} {ty0 : Nat → FieldType} (hd : decode d.2.1 pc = .ok (.putfield index, 3)) (ho : d.1.cls = own) (F : zFn own index ci k T N C0) (hty : zFt T N ty0) (hfin : (T k).2.2.2 = false) (hlt : o < n) (hσ : σ o = .inl (ci, fs)) (hl : k < fs.length) (hnv : ∀ lo, narrow (ty0 k) (vsh lo v) = vsh lo v) (hfv : ∀ lo, fits (ty0 k) (vsh lo v) = true) (hp : pc + 3 = pc') (kk : Z d kc ks R pc' ls st (zup σ o (.inl (ci, fs.set k v)), n)) : Z d kc ks R pc ls (v :: .ref o :: st) (σ, n) := by
  subst hp; subst ho
  intro p l e s m args below meth c H locs cells slots RC RS lo cA D lsA C h1 h2 h3 h4 h5 h6
  obtain ⟨hc, hin, hk, ref, host, hlink, hsame⟩ := F
  have hts := C.2.2.2.2.2.2.2.1
  have hK := C.2.2.2.2.2.2.2.2.2.1
  have he := vws_get (lo := lo) (cA := cA) (ω := (σ, n)) hlt
  have hh : vE lo cA (σ o) = .inr (ci, fs.map (vsh lo)) := by rw [hσ]; rfl
  rw [show (σ, n).1 o = σ o from rfl, hh] at he
  have hap := va_apart (own := d.1.cls) hts hin ty0 hty.1 hty.2 hK hc
  obtain ⟨r, g1, cell, q1, q2, q3, q4⟩ := h4 o _ he
  have hr : r = (C0, T, N) := Option.some.inj (g1.symm.trans hc)
  subst hr
  obtain ⟨hSl, hfc, kC, hkC, hkind⟩ := hK.1 ci _ hc
  obtain ⟨cf, kf, fi, f, hi, hsl⟩ := hSl k hk
  have hlay := hts _ (hin _ (u_in_lay hk))
  unfold u_lay at hlay
  have hst := (u_facts hfc hkC (u_lays hts hin hk) hi).1
  have hdt := hty.1 k hk
  rw [if_neg (by rw [hfin]; decide)] at hlay
  have h9 := u_store hfc hkC hkind hlay hi hdt (hnv lo) (hfv lo)
  refine va_WputK C.1 C.2.1 (f := f) C.2.2.2.2.1 (va_Nw.use rfl (C.2.2.2.2.2.2.2.2.1 _ hlink)) (zsame hts hsame _ hi) hst (by rw [q2]; exact h9) q1 q3 (by rw [hsl]; exact k2_hasslot (q4 k hk)) rfl rfl hd fun H' e1 e2 e3 => ?_
  rw [hsl] at e1 ⊢
  exact kk p l e s m args below meth c H' _ cells slots RC RS lo cA D lsA C h1 h2 (by rw [e2]; exact h3) (z_putP h4 hlt hσ hc hl hk hap q2 q3 q4 e1 e3) (h5.put e2 e3 (Nat.le_add_right _ _)) h6
theorem Z_putfieldF {own C0 : String} {T : u_T} {N ci k index o : Nat} {fs : List Value} {v : Value} {ty0 : Nat → FieldType} (hd : decode d.2.1 pc = .ok (.putfield index, 3)) (ho : d.1.cls = own) (F : zFd own index ci k T N C0) (hty : zFt T N ty0) (hfin : (T k).2.2.2 = true) (hini : d.1.name = "<init>") (hdecl : (T k).1 = own) (hlt : o < n) (hσ : σ o = .inl (ci, fs)) (hl : k < fs.length) (hnv : ∀ lo, narrow (ty0 k) (vsh lo v) = vsh lo v) (hfv : ∀ lo, fits (ty0 k) (vsh lo v) = true) (hp : pc + 3 = pc') (kk : Z d kc ks R pc' ls st (zup σ o (.inl (ci, fs.set k v)), n)) : Z d kc ks R pc ls (v :: .ref o :: st) (σ, n) := by
  subst hp; subst ho
  intro p l e s m args below meth c H locs cells slots RC RS lo cA D lsA C h1 h2 h3 h4 h5 h6
  obtain ⟨hc, hin, hk, ref, hlink, hsame⟩ := F
  have hts := C.2.2.2.2.2.2.2.1
  have hK := C.2.2.2.2.2.2.2.2.2.1
  have he := vws_get (lo := lo) (cA := cA) (ω := (σ, n)) hlt
  have hh : vE lo cA (σ o) = .inr (ci, fs.map (vsh lo)) := by rw [hσ]; rfl
  rw [show (σ, n).1 o = σ o from rfl, hh] at he
  have hap := va_apart (own := d.1.cls) hts hin ty0 hty.1 hty.2 hK hc
  obtain ⟨r, g1, cell, q1, q2, q3, q4⟩ := h4 o _ he
  have hr : r = (C0, T, N) := Option.some.inj (g1.symm.trans hc)
  subst hr
  obtain ⟨hSl, hfc, kC, hkC, hkind⟩ := hK.1 ci _ hc
  obtain ⟨cf, kf, fi, f, hi, hsl⟩ := hSl k hk
  have hlay := hts _ (hin _ (u_in_lay hk))
  unfold u_lay at hlay
  have hst := (u_facts hfc hkC (u_lays hts hin hk) hi).1
  have hdt := hty.1 k hk
  rw [if_pos hfin] at hlay
  have hcf : m.cls = cf := by
    obtain ⟨_, _, c', _, _, _, -, -, hf', -, -, -, hown2, -⟩ := Cond.laysFinal_spec hlay
    have e1 : c' = cf := by have := hi.symm.trans hf'; simp at this; exact this.1.symm
    rw [hdecl] at hown2
    rw [← e1]; exact Option.some.inj (C.2.2.2.2.1.symm.trans hown2)
  have h9 := u_fits hfc hkC hkind (Or.inr hlay) hi hdt (hnv lo) (hfv lo)
  refine W.putFinK C.1 C.2.1 C.2.2.2.2.1 (hts _ hlink) (zsame hts hsame _ hi) hst hcf (C.2.2.2.2.2.2.1.trans hini) (by rw [q2]; exact h9) q1 q3 (by rw [hsl]; exact k2_hasslot (q4 k hk)) rfl rfl hd fun H' e1 e2 e3 => ?_
  rw [hsl] at e1 ⊢
  exact kk p l e s m args below meth c H' _ cells slots RC RS lo cA D lsA C h1 h2 (by rw [e2]; exact h3) (z_putP h4 hlt hσ hc hl hk hap q2 q3 q4 e1 e3) (h5.put e2 e3 (Nat.le_add_right _ _)) h6
theorem Z_alen {o N : Nat} {f : Nat → Int32} {v : Int32} (hd : decode d.2.1 pc = .ok (.arraylength, 1)) (hlt : o < n) (hσ : σ o = .inr (.inl (N, f))) (hv : Int32.ofNat N = v) (hp : pc + 1 = pc') (k : Z d kc ks R pc' ls (.int v :: st) (σ, n)) : Z d kc ks R pc ls (.ref o :: st) (σ, n) := by
  subst hp
  intro p l e s m args below meth c H locs cells slots RC RS lo cA D lsA C h1 h2 h3 h4 h5 h6
  have he := vws_get (lo := lo) (cA := cA) (ω := (σ, n)) hlt
  rw [show (σ, n).1 o = σ o from rfl, hσ] at he
  exact va_alen C.1 C.2.1 C.2.2.2.2.2.2.2.2.2.1 h4 o 0 (x := (N, .inl f)) he (ty := .int) rfl hv hd (k p l e s m args below meth c H locs cells slots RC RS lo cA D lsA C h1 h2 h3 h4 h5 h6)
theorem Z_alenq {o N t : Nat} {f : Nat → Option Nat} {v : Int32} {ty : FieldType} (hd : decode d.2.1 pc = .ok (.arraylength, 1)) (hlt : o < n) (hσ : σ o = .inr (.inr (t, N, f))) (ht : ∀ cA : Nat → ClassId, (vtys cA)[t]? = some (cA t, ty)) (hv : Int32.ofNat N = v) (hp : pc + 1 = pc') (k : Z d kc ks R pc' ls (.int v :: st) (σ, n)) : Z d kc ks R pc ls (.ref o :: st) (σ, n) := by
  subst hp
  intro p l e s m args below meth c H locs cells slots RC RS lo cA D lsA C h1 h2 h3 h4 h5 h6
  have he := vws_get (lo := lo) (cA := cA) (ω := (σ, n)) hlt
  rw [show (σ, n).1 o = σ o from rfl, hσ] at he
  exact va_alen C.1 C.2.1 C.2.2.2.2.2.2.2.2.2.1 h4 o t (x := (N, .inr (.inr (.inr (.inr (fun i => (f i).map (lo + ·))))))) he (ht cA) hv hd (k p l e s m args below meth c H locs cells slots RC RS lo cA D lsA C h1 h2 h3 h4 h5 h6)
theorem Z_iaload {o N : Nat} {f : Nat → Int32} {i : Int32} (hd : decode d.2.1 pc = .ok (.iaload, 1)) (hlt : o < n) (hσ : σ o = .inr (.inl (N, f))) (hi : vp_in i N) (hp : pc + 1 = pc') (k : Z d kc ks R pc' ls (.int (f i.toNatClampNeg) :: st) (σ, n)) : Z d kc ks R pc ls (.int i :: .ref o :: st) (σ, n) := by
  subst hp
  intro p l e s m args below meth c H locs cells slots RC RS lo cA D lsA C h1 h2 h3 h4 h5 h6
  have he := vws_get (lo := lo) (cA := cA) (ω := (σ, n)) hlt
  rw [show (σ, n).1 o = σ o from rfl, hσ] at he
  exact va_iald C.1 C.2.1 C.2.2.2.2.2.2.2.2.2.1 h4 o 0 he rfl hi hd (k p l e s m args below meth c H locs cells slots RC RS lo cA D lsA C h1 h2 h3 h4 h5 h6)
theorem Z_iastore {o N : Nat} {f : Nat → Int32} {i x : Int32} (hd : decode d.2.1 pc = .ok (.iastore, 1)) (hlt : o < n) (hσ : σ o = .inr (.inl (N, f))) (hi : vp_in i N) (hp : pc + 1 = pc') (k : Z d kc ks R pc' ls st (zup σ o (.inr (.inl (N, zup f i.toNatClampNeg x))), n)) : Z d kc ks R pc ls (.int x :: .int i :: .ref o :: st) (σ, n) := by
  subst hp
  intro p l e s m args below meth c H locs cells slots RC RS lo cA D lsA C h1 h2 h3 h4 h5 h6
  have he := vws_get (lo := lo) (cA := cA) (ω := (σ, n)) hlt
  rw [show (σ, n).1 o = σ o from rfl, hσ] at he
  refine W.iast C.1 C.2.1 (h4 o _ he) ((C.2.2.2.2.2.2.2.2.2.1.2 0 _ rfl).1 N (fun j => .int (f j))) (fun q => by cases q) (by show ¬ (i < 0 ∨ (arrV _ _ _).slots.size ≤ _); rw [arrV_size]; exact hi) rfl rfl hd fun H1 e1 z oq => ?_
  refine k p l e s m args below meth c H1 _ cells slots RC RS lo cA D lsA C h1 h2 (by rw [z]; exact h3) ?_ (h5.put z oq (Nat.le_add_right _ _)) h6
  rw [← vws_set hlt]
  refine h4.set vws_D (vws_get (lo := lo) (cA := cA) (ω := (σ, n)) hlt) ?_ oq
  show H1[lo + o]? = some (vp_cell _ _)
  rw [e1, vp_cell_i, vp_cell_i, arrV_store]
  congr 2
  funext q
  by_cases hq : q = i.toNatClampNeg
  · subst hq
    simp [updV, zup]
  · simp [updV, zup, hq]
theorem Z_aaload {o N t : Nat} {f : Nat → Option Nat} {i : Int32} {E : String} (hd : decode d.2.1 pc = .ok (.aaload, 1)) (hlt : o < n) (hσ : σ o = .inr (.inr (t, N, f))) (ht : ∀ cA : Nat → ClassId, (vtys cA)[t]? = some (cA t, .object E)) (hi : vp_in i N) (hp : pc + 1 = pc') (k : Z d kc ks R pc' ls (va_rf (f i.toNatClampNeg) :: st) (σ, n)) : Z d kc ks R pc ls (.int i :: .ref o :: st) (σ, n) := by
  subst hp
  intro p l e s m args below meth c H locs cells slots RC RS lo cA D lsA C h1 h2 h3 h4 h5 h6
  have he := vws_get (lo := lo) (cA := cA) (ω := (σ, n)) hlt
  rw [show (σ, n).1 o = σ o from rfl, hσ] at he
  have kk := k p l e s m args below meth c H locs cells slots RC RS lo cA D lsA C h1 h2 h3 h4 h5 h6
  rw [List.map_cons, vsh_rf] at kk
  exact va_aldq C.1 C.2.1 C.2.2.2.2.2.2.2.2.2.1 h4 o t he (ht cA) hi hd kk
theorem Z_aastoreN {o N t : Nat} {f : Nat → Option Nat} {i : Int32} {E : String} (hd : decode d.2.1 pc = .ok (.aastore, 1)) (hlt : o < n) (hσ : σ o = .inr (.inr (t, N, f))) (ht : ∀ cA : Nat → ClassId, (vtys cA)[t]? = some (cA t, .object E)) (hi : vp_in i N) (hp : pc + 1 = pc') (k : Z d kc ks R pc' ls st (zup σ o (.inr (.inr (t, N, zup f i.toNatClampNeg none))), n)) : Z d kc ks R pc ls (.null :: .int i :: .ref o :: st) (σ, n) := by
  subst hp
  intro p l e s m args below meth c H locs cells slots RC RS lo cA D lsA C h1 h2 h3 h4 h5 h6
  have he := vws_get (lo := lo) (cA := cA) (ω := (σ, n)) hlt
  rw [show (σ, n).1 o = σ o from rfl, hσ] at he
  refine va_WaastN C.1 C.2.1 (h4 o _ he) ((C.2.2.2.2.2.2.2.2.2.1.2 t _ (ht cA)).1 N (fun j => va_rf ((f j).map (lo + ·)))) (fun q => by cases q) (by show ¬ (i < 0 ∨ (arrV _ _ _).slots.size ≤ _); rw [arrV_size]; exact hi) rfl rfl hd fun H1 e1 z oq => ?_
  refine k p l e s m args below meth c H1 _ cells slots RC RS lo cA D lsA C h1 h2 (by rw [z]; exact h3) ?_ (h5.put z oq (Nat.le_add_right _ _)) h6
  rw [← vws_set hlt]
  refine h4.set vws_D (vws_get (lo := lo) (cA := cA) (ω := (σ, n)) hlt) ?_ oq
  show H1[lo + o]? = some (vp_cell _ _)
  rw [e1, vp_cell_q, vp_cell_q, arrV_store]
  congr 2
  funext q
  by_cases hq : q = i.toNatClampNeg
  · subst hq
    simp [updV, zup, va_rf]
  · simp [updV, zup, hq]
theorem Z_aastore {o N t a ci : Nat} {f : Nat → Option Nat} {i : Int32} {E : String} {fs : List Value} {r : vw_C} (hd : decode d.2.1 pc = .ok (.aastore, 1)) (hlt : o < n) (hσ : σ o = .inr (.inr (t, N, f))) (ht : ∀ cA : Nat → ClassId, (vtys cA)[t]? = some (cA t, .object E)) (hla : a < n) (hσa : σ a = .inl (ci, fs)) (hc : vwCl[ci]? = some r) (hca : r.1 = E ∨ Cond.castable r.1 E ∈ ztbN) (hi : vp_in i N) (hp : pc + 1 = pc') (k : Z d kc ks R pc' ls st (zup σ o (.inr (.inr (t, N, zup f i.toNatClampNeg (some a)))), n)) : Z d kc ks R pc ls (.ref a :: .int i :: .ref o :: st) (σ, n) := by
  subst hp
  intro p l e s m args below meth c H locs cells slots RC RS lo cA D lsA C h1 h2 h3 h4 h5 h6
  have hK := C.2.2.2.2.2.2.2.2.2.1
  have he := vws_get (lo := lo) (cA := cA) (ω := (σ, n)) hlt
  rw [show (σ, n).1 o = σ o from rfl, hσ] at he
  have hea := vws_get (lo := lo) (cA := cA) (ω := (σ, n)) hla
  rw [show (σ, n).1 a = σ a from rfl, hσa] at hea
  have hlt' : i.toNatClampNeg < N := Nat.not_le.mp fun q => hi (Or.inr q)
  have h0 : ¬ i < 0 := fun q => hi (Or.inl q)
  obtain ⟨cellV, g1, g3, ⟨kC, hkC⟩, hasg⟩ := va_rAny (E := E) hK h4 hea hc (by
    rcases hca with rfl | hca
    · intro comp c0 z1 z2
      cases z1.symm.trans z2
      exact va_assign (hK.1 ci r hc).2 |> fun z => by rw [← Option.some.inj ((hK.1 ci r hc).2.1.symm.trans z1)]; exact z
    · exact vb_asgC (C.2.2.2.2.2.2.2.2.1 _ hca))
  obtain ⟨kA, comp, k1, k2, k3, -⟩ := (hK.2 t _ (ht cA)).2
  obtain ⟨kE, hkE, -⟩ := Vm.findClass_spec k3
  refine W.aast C.1 C.2.1 (h4 o _ he) (fun q h => by cases h) (fun h => by cases h) k1 k2 rfl hkE ⟨h0, by show _ < (arrV _ _ _).slots.size; rw [arrV_size]; exact hlt'⟩ g1 (fun q h => by rw [h] at g3; cases g3) hkC (hasg _ k3) rfl rfl hd fun H1 e1 z oq => ?_
  refine k p l e s m args below meth c H1 _ cells slots RC RS lo cA D lsA C h1 h2 (by rw [z]; exact h3) ?_ (h5.put z oq (Nat.le_add_right _ _)) h6
  rw [← vws_set hlt]
  refine h4.set vws_D (vws_get (lo := lo) (cA := cA) (ω := (σ, n)) hlt) ?_ oq
  show H1[lo + o]? = some (vp_cell _ _)
  rw [e1, vp_cell_q, vp_cell_q, arrV_store]
  congr 2
  funext q
  by_cases hq : q = i.toNatClampNeg
  · subst hq
    simp [updV, zup, va_rf]
  · simp [updV, zup, hq]
theorem z_pushP {lo : Nat} {cA : Nat → ClassId} {D : va_G} {x : ZO} {H H1 : Heap} (h3 : H.size = lo + n) (h4 : va_P D vwCl (vws lo cA (σ, n)) H) (o1 : ∀ q, q < H.size → H1[q]? = H[q]?) (hx : va_at D vwCl (lo + n, vE lo cA x) H1) : va_P D vwCl (vws lo cA (zup σ n x, n + 1)) H1 := by
  rw [← vws_push]
  refine (h4.kept fun k q hq => ?_).app fun k q hq => ?_
  · obtain ⟨hl, rfl⟩ := vws_some hq
    exact o1 _ (by rw [h3]; exact Nat.add_lt_add_left hl lo)
  · have hz : k < 1 := (List.getElem?_eq_some_iff.mp hq).1
    rw [show k = 0 by omega] at hq
    cases hq
    exact hx
theorem z_pushS {lo : Nat} {H0 H H1 : Heap} {locs : List Loc} (h5 : va_S (vA lo) H0 H locs) (z1 : H1.size = H.size + 1) (o1 : ∀ q, q < H.size → H1[q]? = H[q]?) : va_S (vA lo) H0 H1 locs := ⟨Nat.le_trans h5.1 (by omega), fun x g1 g2 => (o1 x (Nat.lt_of_lt_of_le g1 h5.1)).trans (h5.2.1 x g1 g2), h5.2.2⟩
theorem Z_new {own C0 : String} {T : u_T} {N ci index : Nat} {fs : List Value} {ty : Nat → FieldType} (hd : decode d.2.1 pc = .ok (.new index, 3)) (ho : d.1.cls = own) (hc : vwCl[ci]? = some (C0, T, N)) (hin : ∀ w ∈ u_ws C0 T N, w ∈ ztb) (hty : zFt T N ty) (hcl : Cond.classLink own index C0 ∈ ztb) (hinst : Cond.instantiable C0 N ∈ ztb) (hini : Cond.initialized C0 ∈ ztb) (hfs : ∀ lo j, j < N → defaultValue (ty j) = vp_V (fs.map (vsh lo)) j) (hp : pc + 3 = pc') (k : Z d kc ks R pc' ls (.ref n :: st) (zup σ n (.inl (ci, fs)), n + 1)) : Z d (kc + 1) (ks + N) R pc ls st (σ, n) := by
  subst hp; subst ho
  intro p l e s m args below meth c H locs cells slots RC RS lo cA D lsA C h1 h2 h3 h4 h5 h6
  have hts := C.2.2.2.2.2.2.2.1
  have hK := C.2.2.2.2.2.2.2.2.2.1
  have hKn := hK.1 ci _ hc
  refine W.newcK C.1 C.2.1 C.2.2.2.2.1 (hts _ hcl) (hts _ hinst) (hts _ hini) rfl hd (by show cells + 1 ≤ RC; omega) (by show slots + N ≤ RS; omega) hKn.2.1 h3 fun H1 kC hkC e1 z1 o1 => ?_
  have o1' : ∀ q, q < H.size → H1[q]? = H[q]? := fun q hq => o1 q (by rw [← h3]; exact hq)
  exact k p l e s m args below meth c H1 locs (cells + 1) (slots + N) RC RS lo cA D lsA C (by omega) (by omega) (by rw [z1]; rfl) (z_pushP h3 h4 o1' ⟨_, hc, (u_born ty hts hin hKn hkC e1 hty.1).to (hfs lo)⟩) (z_pushS h5 (by rw [z1, h3]) o1') h6
theorem Z_newint {v : Int32} {N : Nat} (hd : decode d.2.1 pc = .ok (.newarray .int, 2)) (hw : Cond.arrayClass .int ∈ ztb) (hv : ¬ v < 0) (hN : v.toNatClampNeg = N) (hb : N ≤ 100000) (hp : pc + 2 = pc') (k : Z d kc ks R pc' ls (.ref n :: st) (zup σ n (.inr (.inl (N, fun _ => 0))), n + 1)) : Z d (kc + 1) (ks + N) R pc ls (.int v :: st) (σ, n) := by
  subst hp
  intro p l e s m args below meth c H locs cells slots RC RS lo cA D lsA C h1 h2 h3 h4 h5 h6
  have hts := C.2.2.2.2.2.2.2.1
  have hK := C.2.2.2.2.2.2.2.2.2.1
  refine va_newaK C.1 C.2.1 (atype := .int) (hts _ hw) rfl hd rfl hv hN (by show N * 4 ≤ 536870912; omega) (by show cells + 1 ≤ RC; omega) (by show slots + N ≤ RS; omega) h3 fun H1 cX e1 z1 o1 hAr hNm => ?_
  have hcX : cX = cA 0 := Option.some.inj (hNm.symm.trans (hK.2 0 _ rfl).2)
  subst hcX
  have o1' : ∀ q, q < H.size → H1[q]? = H[q]? := fun q hq => o1 q (by rw [← h3]; exact hq)
  exact k p l e s m args below meth c H1 locs (cells + 1) (slots + N) RC RS lo cA D lsA C (by omega) (by omega) (by rw [z1]; rfl) (z_pushP h3 h4 o1' (by
    show H1[lo + n]? = some (vp_cell _ _)
    rw [e1, vp_cell_i]; rfl)) (z_pushS h5 (by rw [z1, h3]) o1') h6
theorem Z_newref {own E : String} {index t : Nat} {v : Int32} {N : Nat} (hd : decode d.2.1 pc = .ok (.anewarray index, 3)) (ho : d.1.cls = own) (hcl : Cond.classLink own index E ∈ ztb) (hov : Cond.arrayOver (.object E) ∈ ztbN) (ht : ∀ cA : Nat → ClassId, (vtys cA)[t]? = some (cA t, .object E)) (h1t : 1 ≤ t) (hv : ¬ v < 0) (hN : v.toNatClampNeg = N) (hb : N ≤ 100000) (hp : pc + 3 = pc') (k : Z d kc ks R pc' ls (.ref n :: st) (zup σ n (.inr (.inr (t, N, fun _ => none))), n + 1)) : Z d (kc + 1) (ks + N) R pc ls (.int v :: st) (σ, n) := by
  subst hp; subst ho; subst hN
  intro p l e s m args below meth c H locs cells slots RC RS lo cA D lsA C h1 h2 h3 h4 h5 h6
  have hts := C.2.2.2.2.2.2.2.1
  have hK := C.2.2.2.2.2.2.2.2.2.1
  refine W.anew C.1 C.2.1 C.2.2.2.2.1 (hts _ hcl) (va_AO.use (C.2.2.2.2.2.2.2.2.1 _ hov)) rfl hd rfl hv (by omega) (by show cells + 1 ≤ RC; omega) (by show slots + _ ≤ RS; omega) fun cX kA comp f1 f2 f3 f4 => ?_
  obtain ⟨kA', comp', k1, k2, k3, k4⟩ := (hK.2 t _ (ht cA)).2
  have hcX : cX = cA t := Option.some.inj (f1.symm.trans k4)
  subst hcX
  generalize hH1 : H.push ({ cls := cA t, slots := Array.replicate v.toNatClampNeg .null, vm := .none } : Cell) = H1
  have z1 : H1.size = H.size + 1 := by rw [← hH1, Array.size_push]
  have e1 : H1[H.size]? = some (arrV (cA t) v.toNatClampNeg (fun _ => .null)) := by rw [← hH1, Array.getElem?_push_size, ← arrV_new]
  have o1 : ∀ q : Nat, q < H.size → H1[q]? = H[q]? := fun q hq => by rw [← hH1, Array.getElem?_push, if_neg (Nat.ne_of_lt hq)]
  have kk := k p l e s m args below meth c H1 locs (cells + 1) (slots + v.toNatClampNeg) RC RS lo cA D lsA C (by omega) (by omega) (by rw [z1, h3]; rfl) (z_pushP h3 h4 o1 (by
    show H1[lo + n]? = some (vp_cell _ _)
    rw [h3] at e1
    rw [e1, vp_cell_q]; rfl)) (z_pushS h5 z1 o1) h6
  rw [h3]
  exact kk
theorem Z_objInit {own : String} {idx o : Nat} (hd : decode d.2.1 pc = .ok (.invokespecial idx, 3)) (ho : d.1.cls = own) (hl : Cond.methodLink own idx Lib.objectInit ∈ ztb) (hi : Cond.instanceMethod Lib.objectInit ∈ ztb) (hcd : Cond.code Lib.objectInit ⟨#[0xb1]⟩ 1 none ∈ ztb) (hf : 1 ≤ d.2.2.2.2.1) (hc : (st.map fun v => v.category).sum + 12 ≤ d.2.2.2.2.2) (hp : pc + 3 = pc') (k : Z d kc ks R pc' ls st ω) : Z d kc ks R pc ls (.ref o :: st) ω := by
  subst hp; subst ho
  intro p l e s m args below meth c H locs cells slots RC RS lo cA D lsA C h1 h2 h3 h4 h5 h6
  have hts := C.2.2.2.2.2.2.2.1
  refine W.objInit C.1 C.2.1 C.2.2.2.2.1 (hts _ hl) (hts _ hi) (hts _ hcd) rfl (h6.1.trans C.2.2.2.1.symm) rfl hd hf ?_ (k p l e s m args below meth c H locs cells slots RC RS lo cA D lsA C h1 h2 h3 h4 h5 h6)
  show 2 * 0 + _ + 12 ≤ d.2.2.2.2.2
  rw [List.map_map]
  have e9 : ((fun v : Value => v.category) ∘ vsh lo) = fun v : Value => v.category := funext fun v => vsh_cat lo v
  rw [e9]
  omega
end ZHEAP
end
section
/-- the locals with which a method begins -/
def zent : List Value → List (Option Value)
  | [] => []
  | v :: r => if v.category = 2 then some v :: none :: zent r else some v :: zent r
theorem zent_mem (lo : Nat) : ∀ (vs : List Value) (i k : Nat) (v : Value), (zent vs)[k]? = some (some v) → (i + k, vsh lo v) ∈ lv_args i (vs.map (vsh lo))
  | [], _, _, _, h => by cases h
  | u :: r, i, k, v, h => by
    unfold zent at h
    rw [List.map_cons, lv_args, vsh_cat]
    split at h
    · rename_i hc
      rw [if_pos hc]
      cases k with
      | zero => cases h; exact List.mem_cons_self
      | succ k =>
        cases k with
        | zero => simp at h
        | succ k =>
          rw [List.getElem?_cons_succ, List.getElem?_cons_succ] at h
          have := zent_mem lo r (i + 2) k v h
          rw [show i + 2 + k = i + (k + 1 + 1) by omega] at this
          exact List.mem_cons_of_mem _ this
    · rename_i hc
      rw [if_neg hc]
      cases k with
      | zero => cases h; exact List.mem_cons_self
      | succ k =>
        rw [List.getElem?_cons_succ] at h
        have := zent_mem lo r (i + 1) k v h
        rw [show i + 1 + k = i + (k + 1) by omega] at this
        exact List.mem_cons_of_mem _ this
theorem zsl_len (lo : Nat) : ∀ vs : List Value, (lg_sl (vs.map (vsh lo))).length = (lg_sl vs).length
  | [] => rfl
  | u :: r => by
    unfold lg_sl
    rw [List.map_cons, List.flatMap_cons, List.flatMap_cons, List.length_append, List.length_append, vsh_cat]
    have := zsl_len lo r
    unfold lg_sl at this
    rw [this]
    split <;> rfl
/-- a contract: the method d, called with args in the world ω, may make kc cells of ks slots, and returns so that R -/
def zM (d : ZD) (kc ks : Nat) (As : List Value) (ω : ZW) (R : Option Value → ZW → Prop) : Prop := Z d kc ks R 0 (zent As) [] ω
abbrev zws (d : ZD) : List Cond := Cond.code d.1 d.2.1 d.2.2.1 d.2.2.2.1 :: ztb
def zP (lo : Nat) (cA : Nat → ClassId) (D : va_G) (As : List Value) (ω : ZW) : Array Value → State → Prop := fun a U =>
  a = (As.map (vsh lo)).toArray ∧ U.heap.size = lo + ω.2 ∧ va_P D vwCl (vws lo cA ω) U.heap ∧ va_K D vwCl (vtys cA) U ∧ ∀ w ∈ ztbN, va_Nw w U
theorem zP_blind (lo : Nat) (cA : Nat → ClassId) (D : va_G) (As : List Value) (ω : ZW) : FrameBlind (zP lo cA D As ω) := fun a U g mk q => by
  obtain ⟨q1, q2, q3, q4, q5⟩ := q
  exact ⟨q1, q2, q3, va_K.moved (u := U) (U := U.calling g mk a) (Vm.Alike.refl U.vm) q4, zN_same (u := U) (U := U.calling g mk a) rfl q5⟩
/-- what a method's own numbers must be -/
def zOK (d : ZD) (As : List Value) : Prop := plainName d.1.cls = true ∧ (lg_sl As).length ≤ d.2.2.1
theorem zMet {d : ZD} {kc ks : Nat} {As : List Value} {ω : ZW} {R : Option Value → ZW → Prop} (h : zM d kc ks As ω R) (ok : zOK d As) (l : Launch) (lo : Nat) (cA : Nat → ClassId) (D : va_G) : Met l d.1 (zws d) (zR d kc ks) (zP lo cA D As ω) (zQ lo cA D R) kc ks (vA lo) := by
  refine Met.ofW (cc := d.2.1) (maxL := d.2.2.1) (ret := d.2.2.2.1) (ws' := ztb) ok.1 rfl ?_
  intro p e s m args below meth c s₁ B hml hv
  obtain ⟨rfl, hsz, hP, hK, hN⟩ := hv
  have hts := atoms_spec (ws := zws d) B.pre
  have hown : s.vm.findClass d.1.cls = some m.cls := findClass_of_methodNamed B.named
  have hl := lv_entry (As.map (vsh lo)) (n := d.2.2.1) (by rw [zsl_len]; exact ok.2)
  rw [lg_entry_eq]
  generalize (lg_sl (As.map (vsh lo)) ++ List.replicate (d.2.2.1 - (lg_sl (As.map (vsh lo))).length) Slot.unset).toArray = ls at hl ⊢
  exact h p l e s m _ below meth c s.heap [] 0 0 kc ks lo cA D ls ⟨B.exec, B.bytes, B.returns, hml, hown, B.notSynchronized, (name_of_methodNamed B.named B.method).1, fun w hw => hts w (List.mem_cons_of_mem _ hw), hN, hK, by rw [hsz]; exact Nat.le_add_right _ _⟩ (by omega) (by omega) hsz hP va_S.rf
    (vls_to hl fun k v hk => by
      have := zent_mem lo As 0 k v hk
      rw [Nat.zero_add] at this
      exact this)
section ZCALL
variable {d d' : ZD} {kc ks kc' ks' : Nat} {R R' : Option Value → ZW → Prop} {pc pc' : Nat} {ls : List (Option Value)} {As st rest : List Value} {ω : ZW}
/-- behind a call of any kind -/
theorem Z_ran (st0 : List Value)
    (hrun : ∀ (p : Program) (l : Launch) (e : Env) (s : State) (m : MethodId) (args : Array Value) (below : List Frame) (meth : Method) (c : Code) (H : Heap) (locs : List Loc) (cells slots RC RS lo : Nat) (cA : Nat → ClassId) (D : va_G) (lsA : Array Slot),
      zC d args s p m meth c lo cA D → cells + kc' ≤ RC → slots + ks' ≤ RS → H.size = lo + ω.2 → va_P D vwCl (vws lo cA ω) H → lv_has lsA d.2.2.1 (vls lo ls) → ∃ a : Array Value,
      va_Run p l e (zR d RC RS) s m args below meth c H locs cells slots kc' ks' (F0 m pc lsA (st0.map (vsh lo))) (rest.map (vsh lo)) (zQ lo cA D R' a) (vA lo))
    (hp : pc + 3 = pc') (kk : ∀ (r : Option Value) (ω' : ZW), R' r ω' → Z d kc ks R pc' ls (r.toList ++ rest) ω') : Z d (kc' + kc) (ks' + ks) R pc ls st0 ω := by
  subst hp
  intro p l e s m args below meth c H locs cells slots RC RS lo cA D lsA C h1 h2 h3 h4 h5 h6
  intro T hT X
  obtain ⟨a, hr⟩ := hrun p l e s m args below meth c H locs cells slots RC RS lo cA D lsA C (by omega) (by omega) h3 h4 h6
  obtain ⟨v, st₀, t, T', L, e0, X', hL, e1, e2, ⟨⟨r, ω', hv, hR, hs, hP⟩, hz, hk⟩, hgo⟩ := hr T hT X
  cases hv
  rw [e0] at hz hk
  have h3' : T'.heap.size = lo + ω'.2 := by rw [e1]; exact hs
  have h4' : va_P D vwCl (vws lo cA ω') T'.heap := by rw [e1]; exact hP
  have h5' : va_S (vA lo) s.heap T'.heap (locs ++ L) := by
    refine ⟨Nat.le_trans h5.1 (by rw [e1]; exact hz), fun q g1 g2 => ?_, fun q hq => ?_⟩
    · rw [e1, hk q (Nat.lt_of_lt_of_le g1 h5.1) g2]; exact h5.2.1 q g1 g2
    · rcases List.mem_append.mp hq with h | h
      · exact h5.2.2 q h
      · exact hL q h
  obtain ⟨t2, a1, b1⟩ := kk r ω' hR p l e s m args below meth c T'.heap (locs ++ L) (cells + kc') (slots + ks') RC RS lo cA D lsA C (by omega) (by omega) h3' h4' h5' h6 T' rfl X'
  refine ⟨t2, hgo t2 ?_, b1⟩
  have e9 : (r.map (vsh lo)).toList ++ rest.map (vsh lo) = (r.toList ++ rest).map (vsh lo) := by cases r <;> simp
  rw [e9]
  exact a1
def zrest (rest : List Value) : Nat := (rest.map fun v => v.category).sum
theorem zrest_map (lo : Nat) (rest : List Value) : ((rest.map (vsh lo)).map fun v => v.category).sum = zrest rest := by
  unfold zrest
  rw [List.map_map]
  have e9 : ((fun v : Value => v.category) ∘ vsh lo) = fun v : Value => v.category := funext fun v => vsh_cat lo v
  rw [e9]
/-- the words of a call, apart from the link -/
def zCw (d' : ZD) (n : Nat) : Prop := Cond.code d'.1 d'.2.1 d'.2.2.1 d'.2.2.2.1 ∈ ztb ∧ Cond.initialized d'.1.cls ∈ ztb ∧ (d'.1.cls ≠ "java/lang/invoke/MethodHandle" ∧ d'.1.cls ≠ "java/lang/invoke/VarHandle") ∧ (parseMethodDescriptor d'.1.desc).map (fun q => q.parameters.length) = some n ∧ plainName d'.1.cls = true
/-- the callee's room fits into the caller's -/
def zFit (d d' : ZD) : Prop := d'.2.2.2.2.1 + 1 ≤ d.2.2.2.2.1 ∧ 8 + (d'.2.2.1 + 11) + d'.2.2.2.2.2 ≤ d.2.2.2.2.2
theorem zws_good {w : Cond} (h : w ∈ ztb) {ws : List Cond} (hw : GoodIn ztb ws) : GoodIn ztb (w :: ws) := fun v hv => (List.mem_cons.mp hv).elim (fun e => e ▸ ⟨h, good_of_word (List.mem_filter.mp h).2⟩) (hw v)
theorem ztb_good : GoodIn ztb ztb := zgood fun _ h => h
theorem zfix {args : Array Value} {s : State} {p : Program} {m : MethodId} {meth : Method} {c : Code} {lo : Nat} {cA : Nat → ClassId} {D : va_G} (C : zC d args s p m meth c lo cA D) : CallFix p m c d.2.1 d.2.2.1 s args ztb d.1.cls := ⟨C.1, C.2.1, C.2.2.2.1, C.2.2.2.2.1, C.2.2.2.2.2.2.2.1⟩
theorem zpre {args : Array Value} {s : State} {p : Program} {m : MethodId} {meth : Method} {c : Code} {H : Heap} {lo : Nat} {cA : Nat → ClassId} {D : va_G} (C : zC d args s p m meth c lo cA D) (h3 : H.size = lo + ω.2) (h4 : va_P D vwCl (vws lo cA ω) H) (As : List Value) (U : State) (hU : U.heap = H) (hW : s.WarmedH U.vm) : zP lo cA D As ω (As.map (vsh lo)).toArray U :=
  ⟨rfl, by rw [hU]; exact h3, by rw [hU]; exact h4, va_K.moved hW.alike C.2.2.2.2.2.2.2.2.2.1, zN_warm hW C.2.2.2.2.2.2.2.2.1⟩
theorem zrev (lo : Nat) (As rest : List Value) : (As.reverse ++ rest).map (vsh lo) = (As.map (vsh lo)).reverse ++ rest.map (vsh lo) := by rw [List.map_append, List.map_reverse]
theorem Z_static {own : String} {index nn : Nat} (hd : decode d.2.1 pc = .ok (.invokestatic index, 3)) (ho : d.1.cls = own) (cw : zCw d' nn) (hn : As.length = nn) (hfit : zFit d d') (hrest : zrest rest ≤ 8) (ok : zOK d' As) (hl : Cond.methodLink own index d'.1 ∈ ztb) (hst : Cond.static d'.1 ∈ ztb) (hm : zM d' kc' ks' As ω R') (hp : pc + 3 = pc') (kk : ∀ (r : Option Value) (ω' : ZW), R' r ω' → Z d kc ks R pc' ls (r.toList ++ rest) ω') : Z d (kc' + kc) (ks' + ks) R pc ls (As.reverse ++ rest) ω := by
  obtain ⟨cw1, cw2, cw3, cw4, cw5⟩ := cw
  subst ho
  refine Z_ran (R' := R') (rest := rest) _ (fun p l e s m args below meth c H locs cells slots RC RS lo cA D lsA C h1 h2 h3 h4 h6 => ?_) hp kk
  have hM := zMet hm ok l lo cA D
  have hts := C.2.2.2.2.2.2.2.1
  have cwS' := va_cwS (R := zR d RC RS) (own := d.1.cls) (index := index) (y := d'.1) (bytes := d'.2.1) (maxL := d'.2.2.1) (ret := d'.2.2.2.1) (rm := zR d' kc' ks') (mc := kc') (ms := ks') nn hts (ws := zws d') (zws_good hl (zws_good hst (zws_good cw2 (zws_good cw1 ztb_good)))) rfl rfl rfl ⟨cw3.1, cw3.2, cw4⟩ hfit
  exact ⟨_, va_runS (As := As.map (vsh lo)) (zfix C) hM cwS' ⟨zP_blind _ _ _ _ _, fun U hU hW => zpre C h3 h4 As U hU hW⟩ rfl (by rw [List.length_map]; exact hn) h6.1 (by show List.map _ _ = _; rw [zrev]) (by show 2 * 0 + _ ≤ 8; rw [zrest_map]; omega) hd ⟨h1, h2⟩⟩
theorem Z_staticN {own host : String} {index nn : Nat} (hd : decode d.2.1 pc = .ok (.invokestatic index, 3)) (ho : d.1.cls = own) (cw : zCw d' nn) (hn : As.length = nn) (hfit : zFit d d') (hrest : zrest rest ≤ 8) (ok : zOK d' As) (hl : Cond.methodLinkNest own index d'.1 host ∈ ztbN) (hst : Cond.static d'.1 ∈ ztb) (hm : zM d' kc' ks' As ω R') (hp : pc + 3 = pc') (kk : ∀ (r : Option Value) (ω' : ZW), R' r ω' → Z d kc ks R pc' ls (r.toList ++ rest) ω') : Z d (kc' + kc) (ks' + ks) R pc ls (As.reverse ++ rest) ω := by
  obtain ⟨cw1, cw2, cw3, cw4, cw5⟩ := cw
  subst ho
  refine Z_ran (R' := R') (rest := rest) _ (fun p l e s m args below meth c H locs cells slots RC RS lo cA D lsA C h1 h2 h3 h4 h6 => ?_) hp kk
  have hM := zMet hm ok l lo cA D
  have hts := C.2.2.2.2.2.2.2.1
  have cwN := va_cnB (R := zR d RC RS) (own := d.1.cls) (index := index) (y := d'.1) (bytes := d'.2.1) (maxL := d'.2.2.1) (ret := d'.2.2.2.1) (rm := zR d' kc' ks') (mc := kc') (ms := ks') nn hts (ws := zws d') (zws_good cw1 ztb_good) rfl rfl rfl (C.2.2.2.2.2.2.2.2.1 _ hl) (hts _ cw2) ⟨cw3.1, cw3.2, cw4⟩ hfit
  exact ⟨_, va_runSN (As := As.map (vsh lo)) (zfix C) hM ⟨cwN, hts _ hst, trivial⟩ ⟨zP_blind _ _ _ _ _, fun U hU hW => zpre C h3 h4 As U hU hW⟩ rfl (by rw [List.length_map]; exact hn) h6.1 (by show List.map _ _ = _; rw [zrev]) (by show 2 * 0 + _ ≤ 8; rw [zrest_map]; omega) hd ⟨h1, h2⟩⟩
theorem Z_virtual {own : String} {index nn : Nat} (hd : decode d.2.1 pc = .ok (.invokevirtual index, 3)) (ho : d.1.cls = own) (cw : zCw d' nn) (hn : As.length = nn) (hfit : zFit d d') (hrest : zrest rest ≤ 8) {o ci : Nat} {fs : List Value} {r : vw_C} (hrc : o < ω.2 ∧ ω.1 o = .inl (ci, fs) ∧ vwCl[ci]? = some r) (hcls : r.1 = d'.1.cls) (ok : zOK d' (.ref o :: As)) (hl : Cond.methodLink own index d'.1 ∈ ztb) (hin : Cond.instanceMethod d'.1 ∈ ztb) (hse : Cond.selects d'.1.cls d'.1 d'.1 ∈ ztb) (hm : zM d' kc' ks' (.ref o :: As) ω R') (hp : pc + 3 = pc') (kk : ∀ (r : Option Value) (ω' : ZW), R' r ω' → Z d kc ks R pc' ls (r.toList ++ rest) ω') : Z d (kc' + kc) (ks' + ks) R pc ls (As.reverse ++ .ref o :: rest) ω := by
  obtain ⟨cw1, cw2, cw3, cw4, cw5⟩ := cw
  subst ho
  refine Z_ran (R' := R') (rest := rest) _ (fun p l e s m args below meth c H locs cells slots RC RS lo cA D lsA C h1 h2 h3 h4 h6 => ?_) hp kk
  have hM := zMet hm ok l lo cA D
  have hts := C.2.2.2.2.2.2.2.1
  obtain ⟨hlt, hσ, hc⟩ := hrc
  have he := vws_get (lo := lo) (cA := cA) (ω := ω) hlt
  have hh : vE lo cA (ω.1 o) = .inr (ci, fs.map (vsh lo)) := by rw [hσ]; rfl
  rw [hh] at he
  have hw2 : Cond.initialized d'.1.cls ∈ ztb := cw2
  have cwV' := cwV (R := zR d RC RS) (own := d.1.cls) (C := d'.1.cls) (index := index) (y := d'.1) (bytes := d'.2.1) (maxL := d'.2.2.1) (ret := d'.2.2.2.1) (rm := zR d' kc' ks') (mc := kc') (ms := ks') nn hts (ws := zws d') (zws_good hl (zws_good hin (zws_good hse (zws_good cw2 (zws_good cw1 ztb_good))))) rfl rfl rfl ⟨rfl, cw3.1, cw3.2, cw4⟩ hfit
  exact ⟨_, va_runV (As := As.map (vsh lo)) (b := lo + o) (zfix C) hM cwV' ⟨zP_blind _ _ _ _ _, hcls ▸ va_recv C.2.2.2.2.2.2.2.2.2.1 h4 hc he, fun U hU hW => zpre C h3 h4 (.ref o :: As) U hU hW⟩ rfl (by rw [List.length_map]; exact hn) h6.1 (by show List.map _ _ = _; rw [zrev]; rfl) (by show 2 * 0 + _ ≤ 8; rw [zrest_map]; omega) hd ⟨h1, h2⟩⟩
theorem Z_virtualN {own host : String} {index nn : Nat} (hd : decode d.2.1 pc = .ok (.invokevirtual index, 3)) (ho : d.1.cls = own) (cw : zCw d' nn) (hn : As.length = nn) (hfit : zFit d d') (hrest : zrest rest ≤ 8) {o ci : Nat} {fs : List Value} {r : vw_C} (hrc : o < ω.2 ∧ ω.1 o = .inl (ci, fs) ∧ vwCl[ci]? = some r) (hcls : r.1 = d'.1.cls) (ok : zOK d' (.ref o :: As)) (hl : Cond.methodLinkNest own index d'.1 host ∈ ztbN) (hin : Cond.instanceMethod d'.1 ∈ ztb) (hse : Cond.selects d'.1.cls d'.1 d'.1 ∈ ztb) (hm : zM d' kc' ks' (.ref o :: As) ω R') (hp : pc + 3 = pc') (kk : ∀ (r : Option Value) (ω' : ZW), R' r ω' → Z d kc ks R pc' ls (r.toList ++ rest) ω') : Z d (kc' + kc) (ks' + ks) R pc ls (As.reverse ++ .ref o :: rest) ω := by
  obtain ⟨cw1, cw2, cw3, cw4, cw5⟩ := cw
  subst ho
  refine Z_ran (R' := R') (rest := rest) _ (fun p l e s m args below meth c H locs cells slots RC RS lo cA D lsA C h1 h2 h3 h4 h6 => ?_) hp kk
  have hM := zMet hm ok l lo cA D
  have hts := C.2.2.2.2.2.2.2.1
  obtain ⟨hlt, hσ, hc⟩ := hrc
  have he := vws_get (lo := lo) (cA := cA) (ω := ω) hlt
  have hh : vE lo cA (ω.1 o) = .inr (ci, fs.map (vsh lo)) := by rw [hσ]; rfl
  rw [hh] at he
  have cwN := va_cnB (R := zR d RC RS) (own := d.1.cls) (index := index) (y := d'.1) (bytes := d'.2.1) (maxL := d'.2.2.1) (ret := d'.2.2.2.1) (rm := zR d' kc' ks') (mc := kc') (ms := ks') nn hts (ws := zws d') (zws_good cw1 ztb_good) rfl rfl rfl (C.2.2.2.2.2.2.2.2.1 _ hl) (hts _ cw2) ⟨cw3.1, cw3.2, cw4⟩ hfit
  exact ⟨_, va_runVN (As := As.map (vsh lo)) (b := lo + o) (zfix C) hM ⟨cwN, hts _ hin, hts _ hse⟩ ⟨zP_blind _ _ _ _ _, hcls ▸ va_recv C.2.2.2.2.2.2.2.2.2.1 h4 hc he, fun U hU hW => zpre C h3 h4 (.ref o :: As) U hU hW⟩ rfl (by rw [List.length_map]; exact hn) h6.1 (by show List.map _ _ = _; rw [zrev]; rfl) (by show 2 * 0 + _ ≤ 8; rw [zrest_map]; omega) hd ⟨h1, h2⟩⟩
/-- a method that the receiver's class has from above or overrides: x as the call names it, d' what runs; 'decl' is known by code or by a declares word -/
theorem Z_over {own owner : String} {x : MethodName} {index nn : Nat} (hd : decode d.2.1 pc = .ok (.invokevirtual index, 3)) (ho : d.1.cls = own) (cw : zCw d' nn) (hn : As.length = nn) (hfit : zFit d d') (hrest : zrest rest ≤ 8) {o ci : Nat} {fs : List Value} {r : vw_C} (hrc : o < ω.2 ∧ ω.1 o = .inl (ci, fs) ∧ vwCl[ci]? = some r) (ok : zOK d' (.ref o :: As)) (hl : Cond.methodLink own index x ∈ ztb) (hsm : Cond.sameMethod x.cls owner x.name x.desc ∈ ztb) (hin : Cond.instanceMethod d'.1 ∈ ztb) (hse : Cond.selects r.1 x d'.1 ∈ ztb) (how : owner ≠ "java/lang/invoke/MethodHandle" ∧ owner ≠ "java/lang/invoke/VarHandle") (hxd : (parseMethodDescriptor x.desc).map (fun q => q.parameters.length) = some nn)
    (hdecl : (∃ b0 m0 r0, Cond.code ⟨owner, x.name, x.desc⟩ b0 m0 r0 ∈ ztb ∧ Cond.instanceMethod ⟨owner, x.name, x.desc⟩ ∈ ztb) ∨ Cond.declares ⟨owner, x.name, x.desc⟩ ∈ ztbN) (hm : zM d' kc' ks' (.ref o :: As) ω R') (hp : pc + 3 = pc') (kk : ∀ (r : Option Value) (ω' : ZW), R' r ω' → Z d kc ks R pc' ls (r.toList ++ rest) ω') : Z d (kc' + kc) (ks' + ks) R pc ls (As.reverse ++ .ref o :: rest) ω := by
  obtain ⟨cw1, cw2, cw3, cw4, cw5⟩ := cw
  subst ho
  refine Z_ran (R' := R') (rest := rest) _ (fun p l e s m args below meth c H locs cells slots RC RS lo cA D lsA C h1 h2 h3 h4 h6 => ?_) hp kk
  have hM := zMet hm ok l lo cA D
  have hts := C.2.2.2.2.2.2.2.1
  obtain ⟨hlt, hσ, hc⟩ := hrc
  have he := vws_get (lo := lo) (cA := cA) (ω := ω) hlt
  have hh : vE lo cA (ω.1 o) = .inr (ci, fs.map (vsh lo)) := by rw [hσ]; rfl
  rw [hh] at he
  have cwU : va_CU (zR d RC RS) s args d.1.cls r.1 owner index x d'.1 d'.2.1 d'.2.2.1 d'.2.2.2.1 (zws d') (zR d' kc' ks') kc' ks' nn := by
    rcases hdecl with ⟨b0, m0, r0, hcode, hinst⟩ | hdecl
    · exact va_cwO nn hts (zws_good hl (zws_good hsm (zws_good hinst (zws_good hse (zws_good hin (zws_good cw2 (zws_good cw1 ztb_good))))))) rfl rfl rfl hcode ⟨how.1, how.2, hxd⟩ hfit
    · exact va_cwA nn hts (zws_good hl (zws_good hsm (zws_good hse (zws_good hin (zws_good cw2 (zws_good cw1 ztb_good)))))) rfl rfl rfl (C.2.2.2.2.2.2.2.2.1 _ hdecl) ⟨how.1, how.2, hxd⟩ hfit
  exact ⟨_, va_runU (As := As.map (vsh lo)) (b := lo + o) (zfix C) hM cwU ⟨zP_blind _ _ _ _ _, va_recv C.2.2.2.2.2.2.2.2.2.1 h4 hc he, fun U hU hW => zpre C h3 h4 (.ref o :: As) U hU hW⟩ rfl (by rw [List.length_map]; exact hn) h6.1 (by show List.map _ _ = _; rw [zrev]; rfl) (by show 2 * 0 + _ ≤ 8; rw [zrest_map]; omega) hd ⟨h1, h2⟩⟩
/-- a constructor -/
theorem Z_init {own : String} {index nn o : Nat} (hd : decode d.2.1 pc = .ok (.invokespecial index, 3)) (ho : d.1.cls = own) (cw : zCw d' nn) (hn : As.length = nn) (hfit : zFit d d') (hrest : zrest rest ≤ 8) (ok : zOK d' (.ref o :: As)) (hret : d'.2.2.2.1 = none) (hl : Cond.methodLink own index d'.1 ∈ ztb) (hin : Cond.instanceMethod d'.1 ∈ ztb) (hy1 : d'.1.name = "<init>") (hm : zM d' kc' ks' (.ref o :: As) ω R') (hp : pc + 3 = pc') (kk : ∀ (r : Option Value) (ω' : ZW), R' r ω' → Z d kc ks R pc' ls (r.toList ++ rest) ω') : Z d (kc' + kc) (ks' + ks) R pc ls (As.reverse ++ .ref o :: rest) ω := by
  obtain ⟨cw1, cw2, cw3, cw4, cw5⟩ := cw
  subst ho
  refine Z_ran (R' := R') (rest := rest) _ (fun p l e s m args below meth c H locs cells slots RC RS lo cA D lsA C h1 h2 h3 h4 h6 => ?_) hp kk
  have hM := zMet hm ok l lo cA D
  have hts := C.2.2.2.2.2.2.2.1
  have cwI' := cwI (R := zR d RC RS) (own := d.1.cls) (index := index) (y := d'.1) (bytes := d'.2.1) (maxL := d'.2.2.1) (rm := zR d' kc' ks') (mc := kc') (ms := ks') nn hts (ws := zws d') (ws' := ztb) (zws_good cw1 ztb_good) (by rw [← hret]) rfl rfl (hts _ cw2) (hts _ hl) (hts _ hin) hy1 ⟨cw3.1, cw3.2, cw4⟩ hfit
  exact ⟨_, va_runI (As := As.map (vsh lo)) (b := lo + o) (zfix C) hM cwI' ⟨zP_blind _ _ _ _ _, fun U hU hW => zpre C h3 h4 (.ref o :: As) U hU hW⟩ rfl (by rw [List.length_map]; exact hn) h6.1 (by show List.map _ _ = _; rw [zrev]; rfl) (by show 2 * 0 + _ ≤ 8; rw [zrest_map]; omega) hd ⟨h1, h2⟩⟩
theorem Z_initN {own host : String} {index nn o : Nat} (hd : decode d.2.1 pc = .ok (.invokespecial index, 3)) (ho : d.1.cls = own) (cw : zCw d' nn) (hn : As.length = nn) (hfit : zFit d d') (hrest : zrest rest ≤ 8) (ok : zOK d' (.ref o :: As)) (hret : d'.2.2.2.1 = none) (hl : Cond.methodLinkNest own index d'.1 host ∈ ztbN) (hin : Cond.instanceMethod d'.1 ∈ ztb) (hy1 : d'.1.name = "<init>") (hm : zM d' kc' ks' (.ref o :: As) ω R') (hp : pc + 3 = pc') (kk : ∀ (r : Option Value) (ω' : ZW), R' r ω' → Z d kc ks R pc' ls (r.toList ++ rest) ω') : Z d (kc' + kc) (ks' + ks) R pc ls (As.reverse ++ .ref o :: rest) ω := by
  obtain ⟨cw1, cw2, cw3, cw4, cw5⟩ := cw
  subst ho
  refine Z_ran (R' := R') (rest := rest) _ (fun p l e s m args below meth c H locs cells slots RC RS lo cA D lsA C h1 h2 h3 h4 h6 => ?_) hp kk
  have hM := zMet hm ok l lo cA D
  have hts := C.2.2.2.2.2.2.2.1
  have cwN := va_cnB (R := zR d RC RS) (own := d.1.cls) (index := index) (y := d'.1) (bytes := d'.2.1) (maxL := d'.2.2.1) (ret := none) (rm := zR d' kc' ks') (mc := kc') (ms := ks') nn hts (ws := zws d') (ws' := ztb) (zws_good cw1 ztb_good) (by rw [← hret]) rfl rfl (C.2.2.2.2.2.2.2.2.1 _ hl) (hts _ cw2) ⟨cw3.1, cw3.2, cw4⟩ hfit
  exact ⟨_, va_runIN (As := As.map (vsh lo)) (b := lo + o) (zfix C) hM ⟨cwN, hy1, hts _ hin⟩ ⟨zP_blind _ _ _ _ _, fun U hU hW => zpre C h3 h4 (.ref o :: As) U hU hW⟩ rfl (by rw [List.length_map]; exact hn) h6.1 (by show List.map _ _ = _; rw [zrev]; rfl) (by show 2 * 0 + _ ≤ 8; rw [zrest_map]; omega) hd ⟨h1, h2⟩⟩
/-- super.m(..) -/
theorem Z_super {own : String} {index nn : Nat} (hd : decode d.2.1 pc = .ok (.invokespecial index, 3)) (ho : d.1.cls = own) (cw : zCw d' nn) (hn : As.length = nn) (hfit : zFit d d') (hrest : zrest rest ≤ 8) {o ci : Nat} {fs : List Value} {r : vw_C} (hrc : o < ω.2 ∧ ω.1 o = .inl (ci, fs) ∧ vwCl[ci]? = some r) (ok : zOK d' (.ref o :: As)) (hl : Cond.methodLink own index d'.1 ∈ ztb) (hsm : Cond.sameMethod d'.1.cls d'.1.cls d'.1.name d'.1.desc ∈ ztb) (hsu : Cond.superclass own d'.1.cls ∈ ztb) (hin : Cond.instanceMethod d'.1 ∈ ztb) (hy1 : d'.1.name ≠ "<init>") (hm : zM d' kc' ks' (.ref o :: As) ω R') (hp : pc + 3 = pc') (kk : ∀ (r : Option Value) (ω' : ZW), R' r ω' → Z d kc ks R pc' ls (r.toList ++ rest) ω') : Z d (kc' + kc) (ks' + ks) R pc ls (As.reverse ++ .ref o :: rest) ω := by
  obtain ⟨cw1, cw2, cw3, cw4, cw5⟩ := cw
  subst ho
  refine Z_ran (R' := R') (rest := rest) _ (fun p l e s m args below meth c H locs cells slots RC RS lo cA D lsA C h1 h2 h3 h4 h6 => ?_) hp kk
  have hM := zMet hm ok l lo cA D
  have hts := C.2.2.2.2.2.2.2.1
  obtain ⟨hlt, hσ, hc⟩ := hrc
  have he := vws_get (lo := lo) (cA := cA) (ω := ω) hlt
  have hh : vE lo cA (ω.1 o) = .inr (ci, fs.map (vsh lo)) := by rw [hσ]; rfl
  rw [hh] at he
  have cwSU := va_cwSU (R := zR d RC RS) (own := d.1.cls) (index := index) (y := d'.1) (bytes := d'.2.1) (maxL := d'.2.2.1) (ret := d'.2.2.2.1) (rm := zR d' kc' ks') (mc := kc') (ms := ks') nn hts (ws := zws d') (zws_good hl (zws_good hsm (zws_good hsu (zws_good hin (zws_good cw2 (zws_good cw1 ztb_good)))))) rfl rfl rfl ⟨hy1, cw4⟩ hfit
  exact ⟨_, va_runSU (As := As.map (vsh lo)) (b := lo + o) (C.2.2.2.2.2.2.2.2.2.1.1 ci r hc).2 (zfix C) hM cwSU ⟨zP_blind _ _ _ _ _, va_recv C.2.2.2.2.2.2.2.2.2.1 h4 hc he, fun U hU hW => zpre C h3 h4 (.ref o :: As) U hU hW⟩ rfl (by rw [List.length_map]; exact hn) h6.1 (by show List.map _ _ = _; rw [zrev]; rfl) (by show 2 * 0 + _ ≤ 8; rw [zrest_map]; omega) hd ⟨h1, h2⟩⟩
/-- super.m(..) that the superclass itself has from above -/
theorem Z_superUp {own x up : String} {nm ds : String} {index nn : Nat} (hd : decode d.2.1 pc = .ok (.invokespecial index, 3)) (ho : d.1.cls = own) (cw : zCw d' nn) (hn : As.length = nn) (hfit : zFit d d') (hrest : zrest rest ≤ 8) {o ci : Nat} {fs : List Value} {r : vw_C} (hrc : o < ω.2 ∧ ω.1 o = .inl (ci, fs) ∧ vwCl[ci]? = some r) (hd1 : d'.1 = ⟨up, nm, ds⟩) (ok : zOK d' (.ref o :: As)) (hl : Cond.methodLink own index ⟨x, nm, ds⟩ ∈ ztb) (hsm : Cond.sameMethod x up nm ds ∈ ztb) (hsu : Cond.superclass own x ∈ ztb) (hsu2 : Cond.superclass x up ∈ ztb) (hin : Cond.instanceMethod d'.1 ∈ ztb) (hy1 : nm ≠ "<init>") (hm : zM d' kc' ks' (.ref o :: As) ω R') (hp : pc + 3 = pc') (kk : ∀ (r : Option Value) (ω' : ZW), R' r ω' → Z d kc ks R pc' ls (r.toList ++ rest) ω') : Z d (kc' + kc) (ks' + ks) R pc ls (As.reverse ++ .ref o :: rest) ω := by
  obtain ⟨cw1, cw2, cw3, cw4, cw5⟩ := cw
  subst ho
  refine Z_ran (R' := R') (rest := rest) _ (fun p l e s m args below meth c H locs cells slots RC RS lo cA D lsA C h1 h2 h3 h4 h6 => ?_) hp kk
  have hM := zMet hm ok l lo cA D
  have hts := C.2.2.2.2.2.2.2.1
  obtain ⟨hlt, hσ, hc⟩ := hrc
  have he := vws_get (lo := lo) (cA := cA) (ω := ω) hlt
  have hh : vE lo cA (ω.1 o) = .inr (ci, fs.map (vsh lo)) := by rw [hσ]; rfl
  rw [hh] at he
  have hcode := hts _ cw1
  have hinst := hts _ hin
  have hK : Back l (zR d RC RS) p e below s args d'.1 3 8 (PreOf (zR d RC RS) kc' ks' (zP lo cA D (.ref o :: As) ω)) (PostOf (zQ lo cA D R') kc' ks' (vA lo)) := back_of (bytes := d'.2.1) (maxL := d'.2.2.1) (ret := d'.2.2.2.1) hM (zP_blind _ _ _ _ _) rfl rfl hfit.1 hfit.2 (pay_in hts (zws_good cw1 ztb_good)) List.mem_cons_self (fun a' U hW => word_at hW (Or.inl (by first | rfl | simp [Cond.onTables, Cond.keeps, Cond.steady])) (hts _ cw2))
  obtain ⟨cellB, hcB, hoB, hclB⟩ := va_recv C.2.2.2.2.2.2.2.2.2.1 h4 hc he
  obtain ⟨hfc, kB, hkB, -⟩ := (C.2.2.2.2.2.2.2.2.2.1.1 ci r hc).2
  rw [Option.some.inj (hfc.symm.trans hclB)] at hkB
  obtain ⟨mk, methM, hnamed, hmethM, hstM, habM⟩ := Cond.instanceMethod_spec hinst
  obtain ⟨methM', cM, hmethM', -, -, -, -, -, -, hsigM⟩ := Cond.code_spec hnamed hcode
  cases hmethM.symm.trans hmethM'
  obtain ⟨ps, dk, kp, hps, hdk, hkp, hsuper, -, -, hnid⟩ := Cond.superclass_spec C.2.2.2.2.1 (hts _ hsu)
  obtain ⟨ps2, dk2, kp2, hps2, hdk2, hkp2, hsuper2, -, -, -⟩ := Cond.superclass_spec hps (hts _ hsu2)
  have hpm : ps2 = mk.cls := Option.some.inj (hps2.symm.trans (by have := findClass_of_methodNamed hnamed; rw [hd1] at this; exact this))
  have hsz : 0 < s.vm.classes.size := Nat.lt_of_le_of_lt (Nat.zero_le _) (Array.getElem?_eq_some_iff.mp hdk2).1
  have hsub : s.vm.isSubclass ps mk.cls = true := by
    obtain ⟨k0, hk0⟩ : ∃ k0, s.vm.classes.size = k0 + 1 := ⟨s.vm.classes.size - 1, by omega⟩
    rw [← hpm]
    simp [Vm.isSubclass, Vm.isSubclassAux, hk0, hdk2, hsuper2]
  have hn2 : s.methodNamed? ⟨up, nm, ds⟩ = some mk := by rw [← hd1]; exact hnamed
  refine ⟨(Value.ref (lo + o) :: As.map (vsh lo)).toArray, ?_⟩
  intro T hT X
  obtain ⟨vm₁, X₁, hstep₁⟩ := X.invokespecialUp (x := ⟨x, nm, ds⟩) C.1 C.2.2.2.2.1 (hts _ hl) (hts _ hsm) hn2 hmethM hstM habM hy1 hdk hnid hps hsuper hsub (a := lo + o) (cell := cellB) (by rw [hT]; exact hcB)
    (fun z h => by rw [h] at hoB; cases hoB) hkB (g := F0 m pc lsA ((As.reverse ++ .ref o :: rest).map (vsh lo))) rfl (argsL := As.map (vsh lo)) (rest := rest.map (vsh lo)) (by rw [List.length_map, hn]; have h9 := hsigM; rw [h9] at cw4; exact (Option.some.inj cw4).symm) (by show List.map _ _ = _; rw [zrev]; rfl) (by rw [C.2.1]; exact hd)
  obtain ⟨v, B, X', hpost, hsteps⟩ := hK m meth c ⟨T.setVm vm₁, locs, cells, slots⟩ { F0 m pc lsA ((As.reverse ++ .ref o :: rest).map (vsh lo)) with stack := rest.map (vsh lo) } (.invokespecial index) mk (Value.ref (lo + o) :: As.map (vsh lo)).toArray X₁ rfl (h6.1.trans C.2.2.2.1.symm) (by rw [C.2.1]; exact hd) (by show 2 * 0 + _ ≤ 8; rw [zrest_map]; omega) (X₁.named hnamed) ⟨h1, h2, zpre C h3 h4 (.ref o :: As) (T.setVm vm₁) hT X₁.warmed⟩
  obtain ⟨g', mk', t, L, e1, e2, hq, z1, hL, z2, z3⟩ := hpost
  obtain ⟨U', l2, c2, s2⟩ := B
  dsimp only [Pt.U, Pt.locs, Pt.cells, Pt.slots] at X' e1 e2 z1 z2 z3 hsteps
  subst z1; subst z2; subst z3
  exact ⟨v, (T.setVm vm₁).calling g' mk' (Value.ref (lo + o) :: As.map (vsh lo)).toArray, t, U', L, hT, X', hL, e1, e2, hq, fun target h => hstep₁ _ (by rw [doInvoke_state]; exact hsteps.trans h)⟩
end ZCALL
end
section
/-! methods: name, code, locals, answer, room below -/
abbrev m_X0_init : ZD := (yX0_init, cX0_init, 1, none, 1, 20)
abbrev m_X0_roundTrip : ZD := (yX0_roundTrip, cX0_roundTrip, 5, (some .int), 4, 95)
abbrev m_X0_putWays : ZD := (yX0_putWays, cX0_putWays, 5, none, 3, 71)
abbrev m_X0_leastWay : ZD := (yX0_leastWay, cX0_leastWay, 7, (some .int), 2, 45)
abbrev m_X0_wayBy : ZD := (yX0_wayBy, cX0_wayBy, 4, (some .int), 0, 0)
abbrev m_X1_init : ZD := (yX1_init, cX1_init, 4, none, 2, 43)
abbrev m_X1_kind : ZD := (yX1_kind, cX1_kind, 1, (some .int), 0, 0)
abbrev m_X1_fee : ZD := (yX1_fee, cX1_fee, 1, (some .int), 1, 20)
abbrev m_X2_init : ZD := (yX2_init, cX2_init, 1, none, 2, 40)
abbrev m_X2_become : ZD := (yX2_become, cX2_become, 3, none, 2, 43)
abbrev m_X2_stretchAt : ZD := (yX2_stretchAt, cX2_stretchAt, 2, (some (.object "PaidByCoast$Shore")), 0, 0)
abbrev m_X2_appendStretch : ZD := (yX2_appendStretch, cX2_appendStretch, 6, (some .boolean), 4, 89)
abbrev m_X2_appendYard : ZD := (yX2_appendYard, cX2_appendYard, 5, none, 1, 21)
abbrev m_X2_hasPlace : ZD := (yX2_hasPlace, cX2_hasPlace, 2, (some .boolean), 0, 0)
abbrev m_X2_xAt : ZD := (yX2_xAt, cX2_xAt, 2, (some .int), 0, 0)
abbrev m_X2_yAt : ZD := (yX2_yAt, cX2_yAt, 2, (some .int), 0, 0)
abbrev m_X2_shoreNow : ZD := (yX2_shoreNow, cX2_shoreNow, 1, (some .long), 3, 67)
abbrev m_X2_shoreAt : ZD := (yX2_shoreAt, cX2_shoreAt, 6, (some .long), 2, 42)
abbrev m_X2_feesOfStretches : ZD := (yX2_feesOfStretches, cX2_feesOfStretches, 4, (some .int), 3, 60)
abbrev m_X2_feesOf : ZD := (yX2_feesOf, cX2_feesOf, 6, (some .int), 3, 60)
abbrev m_X2_isRodApart : ZD := (yX2_isRodApart, cX2_isRodApart, 6, (some .boolean), 1, 21)
abbrev m_X2_reachedFrom : ZD := (yX2_reachedFrom, cX2_reachedFrom, 9, (some .long), 2, 46)
abbrev m_X2_milesOf : ZD := (yX2_milesOf, cX2_milesOf, 5, (some .int), 3, 74)
abbrev m_X2_milesWithout : ZD := (yX2_milesWithout, cX2_milesWithout, 3, (some .int), 4, 98)
abbrev m_X2_milesOfTwo : ZD := (yX2_milesOfTwo, cX2_milesOfTwo, 12, (some .int), 4, 87)
abbrev m_X2_stepFrom : ZD := (yX2_stepFrom, cX2_stepFrom, 8, (some .int), 2, 46)
abbrev m_X3_init : ZD := (yX3_init, cX3_init, 1, none, 1, 20)
abbrev m_X3_append : ZD := (yX3_append, cX3_append, 2, (some .boolean), 0, 0)
abbrev m_X3_letterAt : ZD := (yX3_letterAt, cX3_letterAt, 2, (some .int), 0, 0)
abbrev m_X3_isDigit : ZD := (yX3_isDigit, cX3_isDigit, 3, (some .boolean), 1, 21)
abbrev m_X3_digitAt : ZD := (yX3_digitAt, cX3_digitAt, 2, (some .int), 1, 21)
abbrev m_X3_pairAt : ZD := (yX3_pairAt, cX3_pairAt, 2, (some .int), 2, 42)
abbrev m_X3_isWay : ZD := (yX3_isWay, cX3_isWay, 3, (some .boolean), 1, 21)
abbrev m_X3_waysFrom : ZD := (yX3_waysFrom, cX3_waysFrom, 3, (some .int), 2, 43)
abbrev m_X3_digitsOf : ZD := (yX3_digitsOf, cX3_digitsOf, 1, (some .int), 0, 0)
abbrev m_X3_behindStatement : ZD := (yX3_behindStatement, cX3_behindStatement, 5, (some .int), 3, 65)
abbrev m_X3_wrongLetter : ZD := (yX3_wrongLetter, cX3_wrongLetter, 4, (some .int), 4, 89)
abbrev m_X3_tell : ZD := (yX3_tell, cX3_tell, 6, (some .boolean), 5, 114)
abbrev m_X4_init : ZD := (yX4_init, cX4_init, 4, none, 3, 66)
abbrev m_X4_kind : ZD := (yX4_kind, cX4_kind, 1, (some .int), 0, 0)
abbrev m_X4_isDry : ZD := (yX4_isDry, cX4_isDry, 2, (some .boolean), 1, 21)
abbrev m_X4_fee : ZD := (yX4_fee, cX4_fee, 1, (some .int), 2, 40)
abbrev m_X5_init : ZD := (yX5_init, cX5_init, 4, none, 2, 43)
abbrev m_X5_kind : ZD := (yX5_kind, cX5_kind, 1, (some .int), 0, 0)
abbrev m_X5_isDry : ZD := (yX5_isDry, cX5_isDry, 2, (some .boolean), 0, 0)
abbrev m_X5_fee : ZD := (yX5_fee, cX5_fee, 1, (some .int), 0, 0)
abbrev m_X6_init : ZD := (yX6_init, cX6_init, 5, none, 1, 20)
abbrev m_X6_isIsland : ZD := (yX6_isIsland, cX6_isIsland, 2, (some .boolean), 0, 0)
abbrev m_X7_init : ZD := (yX7_init, cX7_init, 1, none, 1, 20)
abbrev m_X7_rockAt : ZD := (yX7_rockAt, cX7_rockAt, 2, (some (.object "PaidByCoast$Rock")), 0, 0)
abbrev m_X7_append : ZD := (yX7_append, cX7_append, 5, (some .boolean), 2, 44)
abbrev m_X7_become : ZD := (yX7_become, cX7_become, 3, none, 1, 21)
abbrev m_X7_islandsAt : ZD := (yX7_islandsAt, cX7_islandsAt, 5, (some .int), 1, 21)
abbrev m_X7_fewestHours : ZD := (yX7_fewestHours, cX7_fewestHours, 3, (some .int), 3, 68)
abbrev m_X7_showsAll : ZD := (yX7_showsAll, cX7_showsAll, 4, (some .boolean), 2, 45)
abbrev m_X7_yardsFromHome : ZD := (yX7_yardsFromHome, cX7_yardsFromHome, 3, (some .int), 1, 21)
abbrev m_X7_yardsBetween : ZD := (yX7_yardsBetween, cX7_yardsBetween, 5, (some .int), 1, 21)
abbrev m_X8_init : ZD := (yX8_init, cX8_init, 4, none, 2, 43)
abbrev m_X8_kind : ZD := (yX8_kind, cX8_kind, 1, (some .int), 0, 0)
abbrev m_X8_isDry : ZD := (yX8_isDry, cX8_isDry, 2, (some .boolean), 0, 0)
abbrev m_X8_fee : ZD := (yX8_fee, cX8_fee, 1, (some .int), 1, 20)
abbrev m_X9_init : ZD := (yX9_init, cX9_init, 4, none, 1, 20)
abbrev m_X9_kind : ZD := (yX9_kind, cX9_kind, 1, (some .int), 0, 0)
abbrev m_X9_isDry : ZD := (yX9_isDry, cX9_isDry, 2, (some .boolean), 0, 0)
abbrev m_X9_fee : ZD := (yX9_fee, cX9_fee, 1, (some .int), 0, 0)
abbrev m_X9_places : ZD := (yX9_places, cX9_places, 1, (some .long), 0, 0)
abbrev m_X10_init : ZD := (yX10_init, cX10_init, 4, none, 3, 66)
abbrev m_X10_kind : ZD := (yX10_kind, cX10_kind, 1, (some .int), 0, 0)
abbrev m_X10_isDry : ZD := (yX10_isDry, cX10_isDry, 2, (some .boolean), 1, 21)
abbrev m_X10_fee : ZD := (yX10_fee, cX10_fee, 1, (some .int), 2, 40)
abbrev m_X11_init : ZD := (yX11_init, cX11_init, 1, none, 3, 60)
abbrev m_X11_feed : ZD := (yX11_feed, cX11_feed, 2, (some .int), 1, 22)
abbrev m_X11_coast : ZD := (yX11_coast, cX11_coast, 3, (some .int), 7, 162)
abbrev m_X11_stretch : ZD := (yX11_stretch, cX11_stretch, 4, (some .int), 3, 60)
abbrev m_X11_point : ZD := (yX11_point, cX11_point, 3, (some .int), 1, 22)
abbrev m_X11_shore : ZD := (yX11_shore, cX11_shore, 2, (some .int), 4, 87)
abbrev m_X11_tide : ZD := (yX11_tide, cX11_tide, 3, (some .int), 1, 22)
abbrev m_X11_walk : ZD := (yX11_walk, cX11_walk, 9, (some .int), 5, 110)
abbrev m_X11_place : ZD := (yX11_place, cX11_place, 5, (some .int), 4, 87)
abbrev m_X11_best : ZD := (yX11_best, cX11_best, 13, (some .int), 5, 110)
abbrev m_X11_span : ZD := (yX11_span, cX11_span, 9, (some .int), 4, 98)
abbrev m_X11_finer : ZD := (yX11_finer, cX11_finer, 9, (some .int), 4, 98)
abbrev m_X11_two : ZD := (yX11_two, cX11_two, 4, (some .int), 5, 118)
abbrev m_X11_map : ZD := (yX11_map, cX11_map, 8, (some .int), 4, 98)
abbrev m_X11_rock : ZD := (yX11_rock, cX11_rock, 4, (some .int), 1, 22)
abbrev m_X11_islands : ZD := (yX11_islands, cX11_islands, 1, (some .int), 2, 45)
abbrev m_X11_hours : ZD := (yX11_hours, cX11_hours, 3, (some .int), 4, 90)
abbrev m_X11_boat : ZD := (yX11_boat, cX11_boat, 1, (some .int), 5, 119)
abbrev m_X11_cut : ZD := (yX11_cut, cX11_cut, 5, (some .int), 5, 120)
abbrev m_X11_worstCut : ZD := (yX11_worstCut, cX11_worstCut, 8, (some .int), 5, 120)
abbrev m_X11_copy : ZD := (yX11_copy, cX11_copy, 3, (some .int), 4, 98)
abbrev m_X11_sure : ZD := (yX11_sure, cX11_sure, 8, (some .int), 4, 87)
abbrev m_X11_row : ZD := (yX11_row, cX11_row, 2, (some .int), 1, 22)
abbrev m_X11_judge : ZD := (yX11_judge, cX11_judge, 8, (some .int), 4, 87)
abbrev m_X11_seeds : ZD := (yX11_seeds, cX11_seeds, 9, (some .int), 4, 98)
abbrev m_X11_image : ZD := (yX11_image, cX11_image, 1, (some .int), 3, 65)
abbrev m_X11_restore : ZD := (yX11_restore, cX11_restore, 1, (some .int), 3, 65)
abbrev m_X11_count : ZD := (yX11_count, cX11_count, 2, (some .int), 4, 87)
abbrev m_X11_refuse : ZD := (yX11_refuse, cX11_refuse, 3, (some .int), 0, 0)
abbrev m_X11_refusalsOf : ZD := (yX11_refusalsOf, cX11_refusalsOf, 2, (some .int), 0, 0)
abbrev m_X11_rodRefusal : ZD := (yX11_rodRefusal, cX11_rodRefusal, 1, (some .int), 1, 21)
abbrev m_X11_walkRefusal : ZD := (yX11_walkRefusal, cX11_walkRefusal, 2, (some .int), 0, 0)
abbrev m_X11_readStatements : ZD := (yX11_readStatements, cX11_readStatements, 4, (some .int), 6, 139)
abbrev m_X11_holds : ZD := (yX11_holds, cX11_holds, 3, (some .boolean), 0, 0)
abbrev m_X11_memberOf : ZD := (yX11_memberOf, cX11_memberOf, 5, (some .int), 1, 22)
abbrev m_X11_lastOf : ZD := (yX11_lastOf, cX11_lastOf, 3, (some .int), 1, 22)
abbrev m_X11_eachOf : ZD := (yX11_eachOf, cX11_eachOf, 7, (some .long), 1, 22)
abbrev m_X11_stepsOf : ZD := (yX11_stepsOf, cX11_stepsOf, 2, (some .int), 1, 21)
abbrev m_X11_payOf : ZD := (yX11_payOf, cX11_payOf, 6, (some .int), 4, 85)
abbrev m_X11_overOf : ZD := (yX11_overOf, cX11_overOf, 5, (some .int), 2, 44)
abbrev m_X11_nextState : ZD := (yX11_nextState, cX11_nextState, 1, (some .int), 0, 0)
abbrev m_X11_drawBelow : ZD := (yX11_drawBelow, cX11_drawBelow, 2, (some .int), 0, 0)
abbrev m_X12_init : ZD := (yX12_init, cX12_init, 1, none, 1, 20)
abbrev m_X12_no : ZD := (yX12_no, cX12_no, 2, (some .int), 0, 0)
abbrev m_X12_lower : ZD := (yX12_lower, cX12_lower, 2, (some .int), 0, 0)
abbrev m_X12_isIn : ZD := (yX12_isIn, cX12_isIn, 3, (some .boolean), 0, 0)
abbrev m_X12_bound : ZD := (yX12_bound, cX12_bound, 3, (some .int), 0, 0)
abbrev m_X12_feed : ZD := (yX12_feed, cX12_feed, 3, (some .int), 1, 22)
abbrev m_X12_next : ZD := (yX12_next, cX12_next, 1, (some .int), 0, 0)
abbrev m_X12_readsOnes : ZD := (yX12_readsOnes, cX12_readsOnes, 4, (some .boolean), 1, 22)
abbrev m_X12_wayOf : ZD := (yX12_wayOf, cX12_wayOf, 1, (some .int), 0, 0)
abbrev m_X12_readsStretch : ZD := (yX12_readsStretch, cX12_readsStretch, 3, (some .boolean), 2, 45)
abbrev m_X12_statement : ZD := (yX12_statement, cX12_statement, 3, (some .boolean), 3, 67)
abbrev m_X12_comesStretch : ZD := (yX12_comesStretch, cX12_comesStretch, 5, (some .boolean), 0, 0)
abbrev m_X12_comesRock : ZD := (yX12_comesRock, cX12_comesRock, 2, (some .boolean), 0, 0)
abbrev m_X12_comes : ZD := (yX12_comes, cX12_comes, 3, (some .boolean), 1, 24)
abbrev m_X12_coast : ZD := (yX12_coast, cX12_coast, 3, (some .int), 4, 89)
abbrev m_X12_passes : ZD := (yX12_passes, cX12_passes, 3, none, 0, 0)
abbrev m_X12_passOne : ZD := (yX12_passOne, cX12_passOne, 3, (some .int), 0, 0)
abbrev m_X12_passesAll : ZD := (yX12_passesAll, cX12_passesAll, 3, none, 1, 22)
abbrev m_X12_image : ZD := (yX12_image, cX12_image, 1, (some .int), 2, 44)
abbrev m_X12_restore : ZD := (yX12_restore, cX12_restore, 1, (some .int), 2, 44)
abbrev m_X12_isDry : ZD := (yX12_isDry, cX12_isDry, 3, (some .boolean), 0, 0)
abbrev m_X12_feeOf : ZD := (yX12_feeOf, cX12_feeOf, 2, (some .int), 0, 0)
abbrev m_X12_isStretch : ZD := (yX12_isStretch, cX12_isStretch, 2, (some .boolean), 0, 0)
abbrev m_X12_isPlace : ZD := (yX12_isPlace, cX12_isPlace, 2, (some .boolean), 0, 0)
abbrev m_X12_stretch : ZD := (yX12_stretch, cX12_stretch, 3, (some .int), 1, 22)
abbrev m_X12_point : ZD := (yX12_point, cX12_point, 3, (some .int), 1, 22)
abbrev m_X12_tide : ZD := (yX12_tide, cX12_tide, 4, (some .int), 1, 22)
abbrev m_X12_findShore : ZD := (yX12_findShore, cX12_findShore, 5, none, 1, 22)
abbrev m_X12_isFar : ZD := (yX12_isFar, cX12_isFar, 6, (some .boolean), 0, 0)
abbrev m_X12_walks : ZD := (yX12_walks, cX12_walks, 5, (some .int), 1, 25)
abbrev m_X12_miles : ZD := (yX12_miles, cX12_miles, 3, (some .int), 2, 49)
abbrev m_X12_pay : ZD := (yX12_pay, cX12_pay, 5, (some .int), 3, 71)
abbrev m_X12_over : ZD := (yX12_over, cX12_over, 3, (some .int), 0, 0)
abbrev m_X12_shore : ZD := (yX12_shore, cX12_shore, 2, (some .int), 1, 22)
abbrev m_X12_notWalk : ZD := (yX12_notWalk, cX12_notWalk, 2, (some .int), 0, 0)
abbrev m_X12_walk : ZD := (yX12_walk, cX12_walk, 6, (some .int), 4, 95)
abbrev m_X12_place : ZD := (yX12_place, cX12_place, 5, (some .int), 2, 49)
abbrev m_X12_best : ZD := (yX12_best, cX12_best, 8, (some .int), 4, 95)
abbrev m_X12_span : ZD := (yX12_span, cX12_span, 7, (some .int), 3, 71)
abbrev m_X12_finer : ZD := (yX12_finer, cX12_finer, 5, (some .int), 3, 71)
abbrev m_X12_stepFrom : ZD := (yX12_stepFrom, cX12_stepFrom, 5, (some .int), 1, 25)
abbrev m_X12_two : ZD := (yX12_two, cX12_two, 12, (some .int), 2, 49)
abbrev m_X12_map : ZD := (yX12_map, cX12_map, 7, (some .int), 3, 71)
abbrev m_X12_isIsland : ZD := (yX12_isIsland, cX12_isIsland, 3, (some .boolean), 0, 0)
abbrev m_X12_rock : ZD := (yX12_rock, cX12_rock, 3, (some .int), 1, 22)
abbrev m_X12_islands : ZD := (yX12_islands, cX12_islands, 3, (some .int), 1, 22)
abbrev m_X12_areSeen : ZD := (yX12_areSeen, cX12_areSeen, 5, (some .boolean), 1, 22)
abbrev m_X12_bits : ZD := (yX12_bits, cX12_bits, 3, (some .int), 0, 0)
abbrev m_X12_hours : ZD := (yX12_hours, cX12_hours, 4, (some .int), 2, 46)
abbrev m_X12_nextOrder : ZD := (yX12_nextOrder, cX12_nextOrder, 5, (some .boolean), 1, 23)
abbrev m_X12_changes : ZD := (yX12_changes, cX12_changes, 4, none, 0, 0)
abbrev m_X12_apart : ZD := (yX12_apart, cX12_apart, 2, (some .int), 0, 0)
abbrev m_X12_wayRound : ZD := (yX12_wayRound, cX12_wayRound, 5, (some .int), 1, 21)
abbrev m_X12_boat : ZD := (yX12_boat, cX12_boat, 3, (some .int), 2, 47)
abbrev m_X12_milesWithout : ZD := (yX12_milesWithout, cX12_milesWithout, 3, (some .int), 2, 49)
abbrev m_X12_cut : ZD := (yX12_cut, cX12_cut, 4, (some .int), 3, 71)
abbrev m_X12_worstCut : ZD := (yX12_worstCut, cX12_worstCut, 7, (some .int), 3, 71)
abbrev m_X12_copy : ZD := (yX12_copy, cX12_copy, 4, (some .int), 2, 49)
abbrev m_X12_sure : ZD := (yX12_sure, cX12_sure, 5, (some .int), 2, 49)
abbrev m_X12_row : ZD := (yX12_row, cX12_row, 3, (some .int), 1, 22)
abbrev m_X12_judge : ZD := (yX12_judge, cX12_judge, 6, (some .int), 2, 49)
abbrev m_X12_draw : ZD := (yX12_draw, cX12_draw, 2, (some .int), 0, 0)
abbrev m_X12_seeds : ZD := (yX12_seeds, cX12_seeds, 9, (some .int), 3, 71)
abbrev m_X12_fees : ZD := (yX12_fees, cX12_fees, 3, (some .int), 1, 21)
abbrev m_X12_count : ZD := (yX12_count, cX12_count, 2, (some .int), 2, 46)
abbrev m_J6_bitCount_0f7a4 : ZD := (yJ6_bitCount_0f7a4, cJ6_bitCount_0f7a4, 1, (some .int), 0, 0)
abbrev m_J13_bitCount_95d88 : ZD := (yJ13_bitCount_95d88, cJ13_bitCount_95d88, 2, (some .int), 0, 0)
abbrev m_J9_abs_0f7a4 : ZD := (yJ9_abs_0f7a4, cJ9_abs_0f7a4, 1, (some .int), 0, 0)
abbrev m_J9_max_7cf53 : ZD := (yJ9_max_7cf53, cJ9_max_7cf53, 2, (some .int), 0, 0)
abbrev m_J9_min_7cf53 : ZD := (yJ9_min_7cf53, cJ9_min_7cf53, 2, (some .int), 0, 0)
theorem zw_0 : Cond.selects "PaidByCoast" ⟨"PaidByCoast", "refuse", "(I)I"⟩ ⟨"PaidByCoast", "refuse", "(I)I"⟩ ∈ ztb := zgm 0 (by decide +kernel) (by decide +kernel)
theorem zw_1 : Cond.selects "PaidByCoast$Letters" ⟨"PaidByCoast$Letters", "letterAt", "(I)I"⟩ ⟨"PaidByCoast$Letters", "letterAt", "(I)I"⟩ ∈ ztb := zgm 1 (by decide +kernel) (by decide +kernel)
theorem zw_2 : Cond.selects "PaidByCoast$Letters" ⟨"PaidByCoast$Letters", "isDigit", "(I)Z"⟩ ⟨"PaidByCoast$Letters", "isDigit", "(I)Z"⟩ ∈ ztb := zgm 2 (by decide +kernel) (by decide +kernel)
theorem zw_3 : Cond.selects "PaidByCoast$Letters" ⟨"PaidByCoast$Letters", "waysFrom", "(I)I"⟩ ⟨"PaidByCoast$Letters", "waysFrom", "(I)I"⟩ ∈ ztb := zgm 3 (by decide +kernel) (by decide +kernel)
theorem zw_4 : Cond.selects "PaidByCoast$Letters" ⟨"PaidByCoast$Letters", "isWay", "(I)Z"⟩ ⟨"PaidByCoast$Letters", "isWay", "(I)Z"⟩ ∈ ztb := zgm 4 (by decide +kernel) (by decide +kernel)
theorem zw_5 : Cond.selects "PaidByCoast" ⟨"PaidByCoast", "readStatements", "()I"⟩ ⟨"PaidByCoast", "readStatements", "()I"⟩ ∈ ztb := zgm 5 (by decide +kernel) (by decide +kernel)
theorem zw_6 : Cond.selects "PaidByCoast$Letters" ⟨"PaidByCoast$Letters", "digitAt", "(I)I"⟩ ⟨"PaidByCoast$Letters", "digitAt", "(I)I"⟩ ∈ ztb := zgm 6 (by decide +kernel) (by decide +kernel)
theorem zw_7 : Cond.selects "PaidByCoast$Letters" ⟨"PaidByCoast$Letters", "pairAt", "(I)I"⟩ ⟨"PaidByCoast$Letters", "pairAt", "(I)I"⟩ ∈ ztb := zgm 7 (by decide +kernel) (by decide +kernel)
theorem zw_8 : Cond.selects "PaidByCoast$Coast" ⟨"PaidByCoast$Coast", "isRodApart", "(III)Z"⟩ ⟨"PaidByCoast$Coast", "isRodApart", "(III)Z"⟩ ∈ ztb := zgm 8 (by decide +kernel) (by decide +kernel)
theorem zw_9 : Cond.selects "PaidByCoast" ⟨"PaidByCoast", "payOf", "(JI)I"⟩ ⟨"PaidByCoast", "payOf", "(JI)I"⟩ ∈ ztb := zgm 9 (by decide +kernel) (by decide +kernel)
theorem zw_10 : Cond.selects "PaidByCoast$Coast" ⟨"PaidByCoast$Coast", "stepFrom", "(JIII)I"⟩ ⟨"PaidByCoast$Coast", "stepFrom", "(JIII)I"⟩ ∈ ztb := zgm 10 (by decide +kernel) (by decide +kernel)
theorem zw_11 : Cond.selects "PaidByCoast$Rocks" ⟨"PaidByCoast$Rocks", "showsAll", "(I)Z"⟩ ⟨"PaidByCoast$Rocks", "showsAll", "(I)Z"⟩ ∈ ztb := zgm 11 (by decide +kernel) (by decide +kernel)
theorem zw_12 : Cond.selects "PaidByCoast$Boat" ⟨"PaidByCoast$Boat", "putWays", "(LPaidByCoast$Rocks;I)V"⟩ ⟨"PaidByCoast$Boat", "putWays", "(LPaidByCoast$Rocks;I)V"⟩ ∈ ztb := zgm 12 (by decide +kernel) (by decide +kernel)
theorem zw_13 : Cond.selects "PaidByCoast$Boat" ⟨"PaidByCoast$Boat", "leastWay", "(LPaidByCoast$Rocks;II)I"⟩ ⟨"PaidByCoast$Boat", "leastWay", "(LPaidByCoast$Rocks;II)I"⟩ ∈ ztb := zgm 13 (by decide +kernel) (by decide +kernel)
theorem zw_14 : Cond.selects "PaidByCoast$Boat" ⟨"PaidByCoast$Boat", "wayBy", "(II)I"⟩ ⟨"PaidByCoast$Boat", "wayBy", "(II)I"⟩ ∈ ztb := zgm 14 (by decide +kernel) (by decide +kernel)
theorem zw_15 : Cond.selects "PaidByCoast" ⟨"PaidByCoast", "refusalsOf", "(I)I"⟩ ⟨"PaidByCoast", "refusalsOf", "(I)I"⟩ ∈ ztb := zgm 15 (by decide +kernel) (by decide +kernel)
theorem zw_16 : Cond.selects "PaidByCoastModel" ⟨"PaidByCoastModel", "no", "(I)I"⟩ ⟨"PaidByCoastModel", "no", "(I)I"⟩ ∈ ztb := zgm 16 (by decide +kernel) (by decide +kernel)
theorem zw_17 : Cond.selects "PaidByCoastModel" ⟨"PaidByCoastModel", "statement", "()Z"⟩ ⟨"PaidByCoastModel", "statement", "()Z"⟩ ∈ ztb := zgm 17 (by decide +kernel) (by decide +kernel)
theorem zw_18 : Cond.selects "PaidByCoastModel" ⟨"PaidByCoastModel", "next", "()I"⟩ ⟨"PaidByCoastModel", "next", "()I"⟩ ∈ ztb := zgm 18 (by decide +kernel) (by decide +kernel)
theorem zw_19 : Cond.selects "PaidByCoastModel" ⟨"PaidByCoastModel", "readsStretch", "(I)Z"⟩ ⟨"PaidByCoastModel", "readsStretch", "(I)Z"⟩ ∈ ztb := zgm 19 (by decide +kernel) (by decide +kernel)
theorem zw_20 : Cond.selects "PaidByCoastModel" ⟨"PaidByCoastModel", "readsOnes", "(II)Z"⟩ ⟨"PaidByCoastModel", "readsOnes", "(II)Z"⟩ ∈ ztb := zgm 20 (by decide +kernel) (by decide +kernel)
theorem zw_21 : Cond.selects "PaidByCoastModel" ⟨"PaidByCoastModel", "passesAll", "(IZ)V"⟩ ⟨"PaidByCoastModel", "passesAll", "(IZ)V"⟩ ∈ ztb := zgm 21 (by decide +kernel) (by decide +kernel)
theorem zw_22 : Cond.selects "PaidByCoastModel" ⟨"PaidByCoastModel", "passes", "([I)V"⟩ ⟨"PaidByCoastModel", "passes", "([I)V"⟩ ∈ ztb := zgm 22 (by decide +kernel) (by decide +kernel)
theorem zw_23 : Cond.selects "PaidByCoastModel" ⟨"PaidByCoastModel", "passOne", "(I)I"⟩ ⟨"PaidByCoastModel", "passOne", "(I)I"⟩ ∈ ztb := zgm 23 (by decide +kernel) (by decide +kernel)
theorem zw_24 : Cond.selects "PaidByCoastModel" ⟨"PaidByCoastModel", "comes", "(I)Z"⟩ ⟨"PaidByCoastModel", "comes", "(I)Z"⟩ ∈ ztb := zgm 24 (by decide +kernel) (by decide +kernel)
theorem zw_25 : Cond.selects "PaidByCoastModel" ⟨"PaidByCoastModel", "comesStretch", "(I)Z"⟩ ⟨"PaidByCoastModel", "comesStretch", "(I)Z"⟩ ∈ ztb := zgm 25 (by decide +kernel) (by decide +kernel)
theorem zw_26 : Cond.selects "PaidByCoastModel" ⟨"PaidByCoastModel", "comesRock", "(I)Z"⟩ ⟨"PaidByCoastModel", "comesRock", "(I)Z"⟩ ∈ ztb := zgm 26 (by decide +kernel) (by decide +kernel)
theorem zw_27 : Cond.selects "PaidByCoastModel" ⟨"PaidByCoastModel", "isStretch", "(I)Z"⟩ ⟨"PaidByCoastModel", "isStretch", "(I)Z"⟩ ∈ ztb := zgm 27 (by decide +kernel) (by decide +kernel)
theorem zw_28 : Cond.selects "PaidByCoastModel" ⟨"PaidByCoastModel", "isDry", "(I)Z"⟩ ⟨"PaidByCoastModel", "isDry", "(I)Z"⟩ ∈ ztb := zgm 28 (by decide +kernel) (by decide +kernel)
theorem zw_29 : Cond.selects "PaidByCoastModel" ⟨"PaidByCoastModel", "feeOf", "(I)I"⟩ ⟨"PaidByCoastModel", "feeOf", "(I)I"⟩ ∈ ztb := zgm 29 (by decide +kernel) (by decide +kernel)
theorem zw_30 : Cond.selects "PaidByCoastModel" ⟨"PaidByCoastModel", "isPlace", "(I)Z"⟩ ⟨"PaidByCoastModel", "isPlace", "(I)Z"⟩ ∈ ztb := zgm 30 (by decide +kernel) (by decide +kernel)
theorem zw_31 : Cond.selects "PaidByCoastModel" ⟨"PaidByCoastModel", "lower", "(I)I"⟩ ⟨"PaidByCoastModel", "lower", "(I)I"⟩ ∈ ztb := zgm 31 (by decide +kernel) (by decide +kernel)
theorem zw_32 : Cond.selects "PaidByCoastModel" ⟨"PaidByCoastModel", "pay", "(II)I"⟩ ⟨"PaidByCoastModel", "pay", "(II)I"⟩ ∈ ztb := zgm 32 (by decide +kernel) (by decide +kernel)
theorem zw_33 : Cond.selects "PaidByCoastModel" ⟨"PaidByCoastModel", "miles", "(II)I"⟩ ⟨"PaidByCoastModel", "miles", "(II)I"⟩ ∈ ztb := zgm 33 (by decide +kernel) (by decide +kernel)
theorem zw_34 : Cond.selects "PaidByCoastModel" ⟨"PaidByCoastModel", "findShore", "(II)V"⟩ ⟨"PaidByCoastModel", "findShore", "(II)V"⟩ ∈ ztb := zgm 34 (by decide +kernel) (by decide +kernel)
theorem zw_35 : Cond.selects "PaidByCoastModel" ⟨"PaidByCoastModel", "walks", "(II)I"⟩ ⟨"PaidByCoastModel", "walks", "(II)I"⟩ ∈ ztb := zgm 35 (by decide +kernel) (by decide +kernel)
theorem zw_36 : Cond.selects "PaidByCoastModel" ⟨"PaidByCoastModel", "isFar", "(III)Z"⟩ ⟨"PaidByCoastModel", "isFar", "(III)Z"⟩ ∈ ztb := zgm 36 (by decide +kernel) (by decide +kernel)
theorem zw_37 : Cond.selects "PaidByCoastModel" ⟨"PaidByCoastModel", "over", "()I"⟩ ⟨"PaidByCoastModel", "over", "()I"⟩ ∈ ztb := zgm 37 (by decide +kernel) (by decide +kernel)
theorem zw_38 : Cond.selects "PaidByCoastModel" ⟨"PaidByCoastModel", "stepFrom", "(III)I"⟩ ⟨"PaidByCoastModel", "stepFrom", "(III)I"⟩ ∈ ztb := zgm 38 (by decide +kernel) (by decide +kernel)
theorem zw_39 : Cond.selects "PaidByCoastModel" ⟨"PaidByCoastModel", "isIsland", "(II)Z"⟩ ⟨"PaidByCoastModel", "isIsland", "(II)Z"⟩ ∈ ztb := zgm 39 (by decide +kernel) (by decide +kernel)
theorem zw_40 : Cond.selects "PaidByCoastModel" ⟨"PaidByCoastModel", "areSeen", "(I)Z"⟩ ⟨"PaidByCoastModel", "areSeen", "(I)Z"⟩ ∈ ztb := zgm 40 (by decide +kernel) (by decide +kernel)
theorem zw_41 : Cond.selects "PaidByCoastModel" ⟨"PaidByCoastModel", "wayRound", "()I"⟩ ⟨"PaidByCoastModel", "wayRound", "()I"⟩ ∈ ztb := zgm 41 (by decide +kernel) (by decide +kernel)
theorem zw_42 : Cond.selects "PaidByCoastModel" ⟨"PaidByCoastModel", "nextOrder", "()Z"⟩ ⟨"PaidByCoastModel", "nextOrder", "()Z"⟩ ∈ ztb := zgm 42 (by decide +kernel) (by decide +kernel)
theorem zw_43 : Cond.selects "PaidByCoastModel" ⟨"PaidByCoastModel", "changes", "(II)V"⟩ ⟨"PaidByCoastModel", "changes", "(II)V"⟩ ∈ ztb := zgm 43 (by decide +kernel) (by decide +kernel)
theorem zw_44 : Cond.selects "PaidByCoastModel" ⟨"PaidByCoastModel", "milesWithout", "(II)I"⟩ ⟨"PaidByCoastModel", "milesWithout", "(II)I"⟩ ∈ ztb := zgm 44 (by decide +kernel) (by decide +kernel)
theorem zw_45 : Cond.selects "PaidByCoastModel" ⟨"PaidByCoastModel", "draw", "(I)I"⟩ ⟨"PaidByCoastModel", "draw", "(I)I"⟩ ∈ ztb := zgm 45 (by decide +kernel) (by decide +kernel)
theorem zw_46 : Cond.selects "PaidByCoastModel" ⟨"PaidByCoastModel", "fees", "()I"⟩ ⟨"PaidByCoastModel", "fees", "()I"⟩ ∈ ztb := zgm 46 (by decide +kernel) (by decide +kernel)
theorem zw_47 : Cond.initialized "PaidByCoastLaw" ∈ ztb := zgm 47 (by decide +kernel) (by decide +kernel)
theorem zw_48 : Cond.initialized "PaidByCoast" ∈ ztb := zgm 48 (by decide +kernel) (by decide +kernel)
theorem zw_49 : Cond.initialized "PaidByCoast$Coast" ∈ ztb := zgm 49 (by decide +kernel) (by decide +kernel)
theorem zw_50 : Cond.initialized "PaidByCoast$Rocks" ∈ ztb := zgm 50 (by decide +kernel) (by decide +kernel)
theorem zw_51 : Cond.initialized "PaidByCoast$Boat" ∈ ztb := zgm 51 (by decide +kernel) (by decide +kernel)
theorem zw_52 : Cond.initialized "PaidByCoast$Letters" ∈ ztb := zgm 52 (by decide +kernel) (by decide +kernel)
theorem zw_53 : Cond.initialized "PaidByCoastModel" ∈ ztb := zgm 53 (by decide +kernel) (by decide +kernel)
theorem zw_54 : Cond.initialized "PaidByCoast$Shore" ∈ ztb := zgm 54 (by decide +kernel) (by decide +kernel)
theorem zw_55 : Cond.initialized "PaidByCoast$Sand" ∈ ztb := zgm 55 (by decide +kernel) (by decide +kernel)
theorem zw_56 : Cond.initialized "PaidByCoast$River" ∈ ztb := zgm 56 (by decide +kernel) (by decide +kernel)
theorem zw_57 : Cond.initialized "PaidByCoast$Cliff" ∈ ztb := zgm 57 (by decide +kernel) (by decide +kernel)
theorem zw_58 : Cond.initialized "PaidByCoast$Marsh" ∈ ztb := zgm 58 (by decide +kernel) (by decide +kernel)
theorem zw_59 : Cond.initialized "PaidByCoast$Wall" ∈ ztb := zgm 59 (by decide +kernel) (by decide +kernel)
theorem zw_60 : Cond.initialized "PaidByCoast$Rock" ∈ ztb := zgm 60 (by decide +kernel) (by decide +kernel)
theorem zw_61 : Cond.initialized "java/lang/Long" ∈ ztb := zgm 61 (by decide +kernel) (by decide +kernel)
theorem zw_62 : Cond.initialized "java/lang/Math" ∈ ztb := zgm 62 (by decide +kernel) (by decide +kernel)
theorem zw_63 : Cond.initialized "java/lang/Integer" ∈ ztb := zgm 63 (by decide +kernel) (by decide +kernel)
theorem zw_64 : Cond.classLink "PaidByCoastLaw" 7 "PaidByCoast" ∈ ztb := zgm 64 (by decide +kernel) (by decide +kernel)
theorem zw_65 : Cond.instantiable "PaidByCoast" 9 ∈ ztb := zgm 65 (by decide +kernel) (by decide +kernel)
theorem zw_66 : Cond.methodLink "PaidByCoastLaw" 9 ⟨"PaidByCoast", "<init>", "()V"⟩ ∈ ztb := zgm 66 (by decide +kernel) (by decide +kernel)
theorem zw_67 : Cond.instanceMethod ⟨"PaidByCoast", "<init>", "()V"⟩ ∈ ztb := zgm 67 (by decide +kernel) (by decide +kernel)
theorem zwc_X11_init : Cond.code m_X11_init.1 m_X11_init.2.1 m_X11_init.2.2.1 m_X11_init.2.2.2.1 ∈ ztb := zgm 68 (by decide +kernel) (by decide +kernel)
theorem zw_69 : Cond.methodLink "PaidByCoast" 1 ⟨"java/lang/Object", "<init>", "()V"⟩ ∈ ztb := zgm 69 (by decide +kernel) (by decide +kernel)
theorem zw_70 : Cond.instanceMethod ⟨"java/lang/Object", "<init>", "()V"⟩ ∈ ztb := zgm 70 (by decide +kernel) (by decide +kernel)
theorem zw_obj : Cond.code Lib.objectInit ⟨#[0xb1]⟩ 1 none ∈ ztb := zgm 71 (by decide +kernel) (by decide +kernel)
theorem zw_72 : Cond.classLink "PaidByCoast" 7 "PaidByCoast$Coast" ∈ ztb := zgm 72 (by decide +kernel) (by decide +kernel)
theorem zw_73 : Cond.instantiable "PaidByCoast$Coast" 7 ∈ ztb := zgm 73 (by decide +kernel) (by decide +kernel)
theorem zw_74 : Cond.methodLinkNest "PaidByCoast" 9 ⟨"PaidByCoast$Coast", "<init>", "()V"⟩ "PaidByCoast" ∈ ztbN := zgn 74 (by decide +kernel) rfl
theorem zw_75 : Cond.instanceMethod ⟨"PaidByCoast$Coast", "<init>", "()V"⟩ ∈ ztb := zgm 75 (by decide +kernel) (by decide +kernel)
theorem zwc_X2_init : Cond.code m_X2_init.1 m_X2_init.2.1 m_X2_init.2.2.1 m_X2_init.2.2.2.1 ∈ ztb := zgm 76 (by decide +kernel) (by decide +kernel)
theorem zw_77 : Cond.methodLink "PaidByCoast$Coast" 3 ⟨"java/lang/Object", "<init>", "()V"⟩ ∈ ztb := zgm 77 (by decide +kernel) (by decide +kernel)
theorem zw_78 : Cond.classLink "PaidByCoast$Coast" 9 "PaidByCoast$Shore" ∈ ztb := zgm 78 (by decide +kernel) (by decide +kernel)
theorem zw_79 : Cond.arrayOver (.object "PaidByCoast$Shore") ∈ ztbN := zgn 79 (by decide +kernel) rfl
theorem zw_80 : Cond.classLink "PaidByCoast$Coast" 24 "PaidByCoast$Rocks" ∈ ztb := zgm 80 (by decide +kernel) (by decide +kernel)
theorem zw_81 : Cond.instantiable "PaidByCoast$Rocks" 2 ∈ ztb := zgm 81 (by decide +kernel) (by decide +kernel)
theorem zw_82 : Cond.methodLinkNest "PaidByCoast$Coast" 26 ⟨"PaidByCoast$Rocks", "<init>", "()V"⟩ "PaidByCoast" ∈ ztbN := zgn 82 (by decide +kernel) rfl
theorem zw_83 : Cond.instanceMethod ⟨"PaidByCoast$Rocks", "<init>", "()V"⟩ ∈ ztb := zgm 83 (by decide +kernel) (by decide +kernel)
theorem zwc_X7_init : Cond.code m_X7_init.1 m_X7_init.2.1 m_X7_init.2.2.1 m_X7_init.2.2.2.1 ∈ ztb := zgm 84 (by decide +kernel) (by decide +kernel)
theorem zw_85 : Cond.methodLink "PaidByCoast$Rocks" 3 ⟨"java/lang/Object", "<init>", "()V"⟩ ∈ ztb := zgm 85 (by decide +kernel) (by decide +kernel)
theorem zw_86 : Cond.classLink "PaidByCoast$Rocks" 9 "PaidByCoast$Rock" ∈ ztb := zgm 86 (by decide +kernel) (by decide +kernel)
theorem zw_87 : Cond.arrayOver (.object "PaidByCoast$Rock") ∈ ztbN := zgn 87 (by decide +kernel) rfl
theorem zw_88 : Cond.fieldLink "PaidByCoast$Rocks" 11 "PaidByCoast$Rocks" "rocks" "[LPaidByCoast$Rock;" ∈ ztb := zgm 88 (by decide +kernel) (by decide +kernel)
theorem zw_89 : Cond.fieldLink "PaidByCoast$Rocks" 17 "PaidByCoast$Rocks" "size" "I" ∈ ztb := zgm 89 (by decide +kernel) (by decide +kernel)
theorem zw_90 : Cond.fieldLinkNest "PaidByCoast" 233 "PaidByCoast$Rocks" "size" "I" "PaidByCoast" ∈ ztbN := zgn 90 (by decide +kernel) rfl
theorem zw_95 : Cond.superclass "PaidByCoast$Rocks" "java/lang/Object" ∈ ztb := zgm 95 (by decide +kernel) (by decide +kernel)
theorem zw_96 : Cond.arrayClass .int ∈ ztb := zgm 96 (by decide +kernel) (by decide +kernel)
theorem zw_97 : Cond.fieldLink "PaidByCoast$Coast" 11 "PaidByCoast$Coast" "stretches" "[LPaidByCoast$Shore;" ∈ ztb := zgm 97 (by decide +kernel) (by decide +kernel)
theorem zw_98 : Cond.fieldLink "PaidByCoast$Coast" 31 "PaidByCoast$Coast" "stretchCount" "I" ∈ ztb := zgm 98 (by decide +kernel) (by decide +kernel)
theorem zw_99 : Cond.fieldLinkNest "PaidByCoast" 230 "PaidByCoast$Coast" "stretchCount" "I" "PaidByCoast" ∈ ztbN := zgn 99 (by decide +kernel) rfl
theorem zw_100 : Cond.fieldLink "PaidByCoast$Coast" 17 "PaidByCoast$Coast" "xs" "[I" ∈ ztb := zgm 100 (by decide +kernel) (by decide +kernel)
theorem zw_101 : Cond.fieldLink "PaidByCoast$Coast" 21 "PaidByCoast$Coast" "ys" "[I" ∈ ztb := zgm 101 (by decide +kernel) (by decide +kernel)
theorem zw_102 : Cond.fieldLink "PaidByCoast$Coast" 39 "PaidByCoast$Coast" "yards" "I" ∈ ztb := zgm 102 (by decide +kernel) (by decide +kernel)
theorem zw_103 : Cond.fieldLinkNest "PaidByCoast" 227 "PaidByCoast$Coast" "yards" "I" "PaidByCoast" ∈ ztbN := zgn 103 (by decide +kernel) rfl
theorem zw_104 : Cond.fieldLink "PaidByCoast$Coast" 27 "PaidByCoast$Coast" "rocks" "LPaidByCoast$Rocks;" ∈ ztb := zgm 104 (by decide +kernel) (by decide +kernel)
theorem zw_105 : Cond.fieldLinkNest "PaidByCoast$Letters" 52 "PaidByCoast$Coast" "rocks" "LPaidByCoast$Rocks;" "PaidByCoast" ∈ ztbN := zgn 105 (by decide +kernel) rfl
theorem zw_106 : Cond.fieldLinkNest "PaidByCoast" 156 "PaidByCoast$Coast" "rocks" "LPaidByCoast$Rocks;" "PaidByCoast" ∈ ztbN := zgn 106 (by decide +kernel) rfl
theorem zw_107 : Cond.fieldLink "PaidByCoast$Coast" 53 "PaidByCoast$Coast" "tide" "I" ∈ ztb := zgm 107 (by decide +kernel) (by decide +kernel)
theorem zw_108 : Cond.fieldLinkNest "PaidByCoast" 80 "PaidByCoast$Coast" "tide" "I" "PaidByCoast" ∈ ztbN := zgn 108 (by decide +kernel) rfl
theorem zw_109 : Cond.fieldLinkNest "PaidByCoast$Letters" 65 "PaidByCoast$Coast" "tide" "I" "PaidByCoast" ∈ ztbN := zgn 109 (by decide +kernel) rfl
theorem zw_124 : Cond.superclass "PaidByCoast$Coast" "java/lang/Object" ∈ ztb := zgm 124 (by decide +kernel) (by decide +kernel)
theorem zw_125 : Cond.classLink "PaidByCoast" 22 "PaidByCoast$Boat" ∈ ztb := zgm 125 (by decide +kernel) (by decide +kernel)
theorem zw_126 : Cond.instantiable "PaidByCoast$Boat" 1 ∈ ztb := zgm 126 (by decide +kernel) (by decide +kernel)
theorem zw_127 : Cond.methodLinkNest "PaidByCoast" 24 ⟨"PaidByCoast$Boat", "<init>", "()V"⟩ "PaidByCoast" ∈ ztbN := zgn 127 (by decide +kernel) rfl
theorem zw_128 : Cond.instanceMethod ⟨"PaidByCoast$Boat", "<init>", "()V"⟩ ∈ ztb := zgm 128 (by decide +kernel) (by decide +kernel)
theorem zwc_X0_init : Cond.code m_X0_init.1 m_X0_init.2.1 m_X0_init.2.2.1 m_X0_init.2.2.2.1 ∈ ztb := zgm 129 (by decide +kernel) (by decide +kernel)
theorem zw_130 : Cond.methodLink "PaidByCoast$Boat" 3 ⟨"java/lang/Object", "<init>", "()V"⟩ ∈ ztb := zgm 130 (by decide +kernel) (by decide +kernel)
theorem zw_131 : Cond.fieldLink "PaidByCoast$Boat" 9 "PaidByCoast$Boat" "ways" "[I" ∈ ztb := zgm 131 (by decide +kernel) (by decide +kernel)
theorem zw_134 : Cond.superclass "PaidByCoast$Boat" "java/lang/Object" ∈ ztb := zgm 134 (by decide +kernel) (by decide +kernel)
theorem zw_135 : Cond.classLink "PaidByCoast" 29 "PaidByCoast$Letters" ∈ ztb := zgm 135 (by decide +kernel) (by decide +kernel)
theorem zw_136 : Cond.instantiable "PaidByCoast$Letters" 2 ∈ ztb := zgm 136 (by decide +kernel) (by decide +kernel)
theorem zw_137 : Cond.methodLinkNest "PaidByCoast" 31 ⟨"PaidByCoast$Letters", "<init>", "()V"⟩ "PaidByCoast" ∈ ztbN := zgn 137 (by decide +kernel) rfl
theorem zw_138 : Cond.instanceMethod ⟨"PaidByCoast$Letters", "<init>", "()V"⟩ ∈ ztb := zgm 138 (by decide +kernel) (by decide +kernel)
theorem zwc_X3_init : Cond.code m_X3_init.1 m_X3_init.2.1 m_X3_init.2.2.1 m_X3_init.2.2.2.1 ∈ ztb := zgm 139 (by decide +kernel) (by decide +kernel)
theorem zw_140 : Cond.methodLink "PaidByCoast$Letters" 3 ⟨"java/lang/Object", "<init>", "()V"⟩ ∈ ztb := zgm 140 (by decide +kernel) (by decide +kernel)
theorem zw_141 : Cond.fieldLink "PaidByCoast$Letters" 9 "PaidByCoast$Letters" "text" "[I" ∈ ztb := zgm 141 (by decide +kernel) (by decide +kernel)
theorem zw_142 : Cond.fieldLink "PaidByCoast$Letters" 15 "PaidByCoast$Letters" "size" "I" ∈ ztb := zgm 142 (by decide +kernel) (by decide +kernel)
theorem zw_143 : Cond.fieldLinkNest "PaidByCoast" 51 "PaidByCoast$Letters" "size" "I" "PaidByCoast" ∈ ztbN := zgn 143 (by decide +kernel) rfl
theorem zw_148 : Cond.superclass "PaidByCoast$Letters" "java/lang/Object" ∈ ztb := zgm 148 (by decide +kernel) (by decide +kernel)
theorem zw_149 : Cond.fieldLink "PaidByCoast" 10 "PaidByCoast" "now" "LPaidByCoast$Coast;" ∈ ztb := zgm 149 (by decide +kernel) (by decide +kernel)
theorem zw_150 : Cond.fieldLink "PaidByCoast" 16 "PaidByCoast" "draft" "LPaidByCoast$Coast;" ∈ ztb := zgm 150 (by decide +kernel) (by decide +kernel)
theorem zw_151 : Cond.fieldLink "PaidByCoast" 19 "PaidByCoast" "image" "LPaidByCoast$Coast;" ∈ ztb := zgm 151 (by decide +kernel) (by decide +kernel)
theorem zw_152 : Cond.fieldLink "PaidByCoast" 223 "PaidByCoast" "imageTaken" "Z" ∈ ztb := zgm 152 (by decide +kernel) (by decide +kernel)
theorem zw_153 : Cond.fieldLink "PaidByCoast" 25 "PaidByCoast" "ferry" "LPaidByCoast$Boat;" ∈ ztb := zgm 153 (by decide +kernel) (by decide +kernel)
theorem zw_154 : Cond.fieldLink "PaidByCoast" 32 "PaidByCoast" "letters" "LPaidByCoast$Letters;" ∈ ztb := zgm 154 (by decide +kernel) (by decide +kernel)
theorem zw_155 : Cond.fieldLink "PaidByCoast" 36 "PaidByCoast" "row" "[I" ∈ ztb := zgm 155 (by decide +kernel) (by decide +kernel)
theorem zw_156 : Cond.fieldLink "PaidByCoast" 210 "PaidByCoast" "rowSize" "I" ∈ ztb := zgm 156 (by decide +kernel) (by decide +kernel)
theorem zw_157 : Cond.fieldLink "PaidByCoast" 40 "PaidByCoast" "refusals" "[I" ∈ ztb := zgm 157 (by decide +kernel) (by decide +kernel)
theorem zw_176 : Cond.superclass "PaidByCoast" "java/lang/Object" ∈ ztb := zgm 176 (by decide +kernel) (by decide +kernel)
theorem zw_177 : Cond.methodLink "PaidByCoastLaw" 13 ⟨"PaidByCoast", "feed", "(I)I"⟩ ∈ ztb := zgm 177 (by decide +kernel) (by decide +kernel)
theorem zw_178 : Cond.instanceMethod ⟨"PaidByCoast", "feed", "(I)I"⟩ ∈ ztb := zgm 178 (by decide +kernel) (by decide +kernel)
theorem zw_179 : Cond.selects "PaidByCoast" ⟨"PaidByCoast", "feed", "(I)I"⟩ ⟨"PaidByCoast", "feed", "(I)I"⟩ ∈ ztb := zgm 179 (by decide +kernel) (by decide +kernel)
theorem zwc_X11_feed : Cond.code m_X11_feed.1 m_X11_feed.2.1 m_X11_feed.2.2.1 m_X11_feed.2.2.2.1 ∈ ztb := zgm 180 (by decide +kernel) (by decide +kernel)
theorem zw_181 : Cond.methodLink "PaidByCoast" 43 ⟨"PaidByCoast", "refuse", "(I)I"⟩ ∈ ztb := zgm 181 (by decide +kernel) (by decide +kernel)
theorem zw_183 : Cond.instanceMethod ⟨"PaidByCoast", "refuse", "(I)I"⟩ ∈ ztb := zgm 183 (by decide +kernel) (by decide +kernel)
theorem zwc_X11_refuse : Cond.code m_X11_refuse.1 m_X11_refuse.2.1 m_X11_refuse.2.2.1 m_X11_refuse.2.2.2.1 ∈ ztb := zgm 184 (by decide +kernel) (by decide +kernel)
theorem zw_185 : Cond.methodLink "PaidByCoast" 47 ⟨"PaidByCoast$Letters", "append", "(I)Z"⟩ ∈ ztb := zgm 185 (by decide +kernel) (by decide +kernel)
theorem zw_186 : Cond.instanceMethod ⟨"PaidByCoast$Letters", "append", "(I)Z"⟩ ∈ ztb := zgm 186 (by decide +kernel) (by decide +kernel)
theorem zw_187 : Cond.selects "PaidByCoast$Letters" ⟨"PaidByCoast$Letters", "append", "(I)Z"⟩ ⟨"PaidByCoast$Letters", "append", "(I)Z"⟩ ∈ ztb := zgm 187 (by decide +kernel) (by decide +kernel)
theorem zwc_X3_append : Cond.code m_X3_append.1 m_X3_append.2.1 m_X3_append.2.2.1 m_X3_append.2.2.2.1 ∈ ztb := zgm 188 (by decide +kernel) (by decide +kernel)
theorem zw_189 : Cond.methodLink "PaidByCoastLaw" 18 ⟨"PaidByCoast", "coast", "()I"⟩ ∈ ztb := zgm 189 (by decide +kernel) (by decide +kernel)
theorem zw_190 : Cond.instanceMethod ⟨"PaidByCoast", "coast", "()I"⟩ ∈ ztb := zgm 190 (by decide +kernel) (by decide +kernel)
theorem zw_191 : Cond.selects "PaidByCoast" ⟨"PaidByCoast", "coast", "()I"⟩ ⟨"PaidByCoast", "coast", "()I"⟩ ∈ ztb := zgm 191 (by decide +kernel) (by decide +kernel)
theorem zwc_X11_coast : Cond.code m_X11_coast.1 m_X11_coast.2.1 m_X11_coast.2.2.1 m_X11_coast.2.2.2.1 ∈ ztb := zgm 192 (by decide +kernel) (by decide +kernel)
theorem zw_193 : Cond.methodLink "PaidByCoast" 55 ⟨"PaidByCoast$Letters", "wrongLetter", "()I"⟩ ∈ ztb := zgm 193 (by decide +kernel) (by decide +kernel)
theorem zw_194 : Cond.instanceMethod ⟨"PaidByCoast$Letters", "wrongLetter", "()I"⟩ ∈ ztb := zgm 194 (by decide +kernel) (by decide +kernel)
theorem zw_195 : Cond.selects "PaidByCoast$Letters" ⟨"PaidByCoast$Letters", "wrongLetter", "()I"⟩ ⟨"PaidByCoast$Letters", "wrongLetter", "()I"⟩ ∈ ztb := zgm 195 (by decide +kernel) (by decide +kernel)
theorem zwc_X3_wrongLetter : Cond.code m_X3_wrongLetter.1 m_X3_wrongLetter.2.1 m_X3_wrongLetter.2.2.1 m_X3_wrongLetter.2.2.2.1 ∈ ztb := zgm 196 (by decide +kernel) (by decide +kernel)
theorem zw_197 : Cond.methodLink "PaidByCoast$Letters" 39 ⟨"PaidByCoast$Letters", "behindStatement", "(I)I"⟩ ∈ ztb := zgm 197 (by decide +kernel) (by decide +kernel)
theorem zw_198 : Cond.instanceMethod ⟨"PaidByCoast$Letters", "behindStatement", "(I)I"⟩ ∈ ztb := zgm 198 (by decide +kernel) (by decide +kernel)
theorem zw_199 : Cond.selects "PaidByCoast$Letters" ⟨"PaidByCoast$Letters", "behindStatement", "(I)I"⟩ ⟨"PaidByCoast$Letters", "behindStatement", "(I)I"⟩ ∈ ztb := zgm 199 (by decide +kernel) (by decide +kernel)
theorem zwc_X3_behindStatement : Cond.code m_X3_behindStatement.1 m_X3_behindStatement.2.1 m_X3_behindStatement.2.2.1 m_X3_behindStatement.2.2.2.1 ∈ ztb := zgm 200 (by decide +kernel) (by decide +kernel)
theorem zw_201 : Cond.methodLink "PaidByCoast$Letters" 19 ⟨"PaidByCoast$Letters", "letterAt", "(I)I"⟩ ∈ ztb := zgm 201 (by decide +kernel) (by decide +kernel)
theorem zw_203 : Cond.instanceMethod ⟨"PaidByCoast$Letters", "letterAt", "(I)I"⟩ ∈ ztb := zgm 203 (by decide +kernel) (by decide +kernel)
theorem zwc_X3_letterAt : Cond.code m_X3_letterAt.1 m_X3_letterAt.2.1 m_X3_letterAt.2.2.1 m_X3_letterAt.2.2.2.1 ∈ ztb := zgm 204 (by decide +kernel) (by decide +kernel)
theorem zw_205 : Cond.methodLink "PaidByCoast$Letters" 30 ⟨"PaidByCoast$Letters", "digitsOf", "(I)I"⟩ ∈ ztb := zgm 205 (by decide +kernel) (by decide +kernel)
theorem zw_206 : Cond.static ⟨"PaidByCoast$Letters", "digitsOf", "(I)I"⟩ ∈ ztb := zgm 206 (by decide +kernel) (by decide +kernel)
theorem zwc_X3_digitsOf : Cond.code m_X3_digitsOf.1 m_X3_digitsOf.2.1 m_X3_digitsOf.2.2.1 m_X3_digitsOf.2.2.2.1 ∈ ztb := zgm 207 (by decide +kernel) (by decide +kernel)
theorem zw_208 : Cond.methodLink "PaidByCoast$Letters" 33 ⟨"PaidByCoast$Letters", "isDigit", "(I)Z"⟩ ∈ ztb := zgm 208 (by decide +kernel) (by decide +kernel)
theorem zw_210 : Cond.instanceMethod ⟨"PaidByCoast$Letters", "isDigit", "(I)Z"⟩ ∈ ztb := zgm 210 (by decide +kernel) (by decide +kernel)
theorem zwc_X3_isDigit : Cond.code m_X3_isDigit.1 m_X3_isDigit.2.1 m_X3_isDigit.2.2.1 m_X3_isDigit.2.2.2.1 ∈ ztb := zgm 211 (by decide +kernel) (by decide +kernel)
theorem zw_212 : Cond.methodLink "PaidByCoast$Letters" 36 ⟨"PaidByCoast$Letters", "waysFrom", "(I)I"⟩ ∈ ztb := zgm 212 (by decide +kernel) (by decide +kernel)
theorem zw_214 : Cond.instanceMethod ⟨"PaidByCoast$Letters", "waysFrom", "(I)I"⟩ ∈ ztb := zgm 214 (by decide +kernel) (by decide +kernel)
theorem zwc_X3_waysFrom : Cond.code m_X3_waysFrom.1 m_X3_waysFrom.2.1 m_X3_waysFrom.2.2.1 m_X3_waysFrom.2.2.2.1 ∈ ztb := zgm 215 (by decide +kernel) (by decide +kernel)
theorem zw_216 : Cond.methodLink "PaidByCoast$Letters" 26 ⟨"PaidByCoast$Letters", "isWay", "(I)Z"⟩ ∈ ztb := zgm 216 (by decide +kernel) (by decide +kernel)
theorem zw_218 : Cond.instanceMethod ⟨"PaidByCoast$Letters", "isWay", "(I)Z"⟩ ∈ ztb := zgm 218 (by decide +kernel) (by decide +kernel)
theorem zwc_X3_isWay : Cond.code m_X3_isWay.1 m_X3_isWay.2.1 m_X3_isWay.2.2.1 m_X3_isWay.2.2.2.1 ∈ ztb := zgm 219 (by decide +kernel) (by decide +kernel)
theorem zw_220 : Cond.methodLink "PaidByCoast" 59 ⟨"PaidByCoast", "readStatements", "()I"⟩ ∈ ztb := zgm 220 (by decide +kernel) (by decide +kernel)
theorem zw_222 : Cond.instanceMethod ⟨"PaidByCoast", "readStatements", "()I"⟩ ∈ ztb := zgm 222 (by decide +kernel) (by decide +kernel)
theorem zwc_X11_readStatements : Cond.code m_X11_readStatements.1 m_X11_readStatements.2.1 m_X11_readStatements.2.2.1 m_X11_readStatements.2.2.2.1 ∈ ztb := zgm 223 (by decide +kernel) (by decide +kernel)
theorem zw_224 : Cond.methodLink "PaidByCoast" 219 ⟨"PaidByCoast$Coast", "become", "(LPaidByCoast$Coast;)V"⟩ ∈ ztb := zgm 224 (by decide +kernel) (by decide +kernel)
theorem zw_225 : Cond.instanceMethod ⟨"PaidByCoast$Coast", "become", "(LPaidByCoast$Coast;)V"⟩ ∈ ztb := zgm 225 (by decide +kernel) (by decide +kernel)
theorem zw_226 : Cond.selects "PaidByCoast$Coast" ⟨"PaidByCoast$Coast", "become", "(LPaidByCoast$Coast;)V"⟩ ⟨"PaidByCoast$Coast", "become", "(LPaidByCoast$Coast;)V"⟩ ∈ ztb := zgm 226 (by decide +kernel) (by decide +kernel)
theorem zwc_X2_become : Cond.code m_X2_become.1 m_X2_become.2.1 m_X2_become.2.2.1 m_X2_become.2.2.2.1 ∈ ztb := zgm 227 (by decide +kernel) (by decide +kernel)
theorem zw_228 : Cond.methodLink "PaidByCoast$Coast" 35 ⟨"PaidByCoast$Coast", "stretchAt", "(I)LPaidByCoast$Shore;"⟩ ∈ ztb := zgm 228 (by decide +kernel) (by decide +kernel)
theorem zw_229 : Cond.instanceMethod ⟨"PaidByCoast$Coast", "stretchAt", "(I)LPaidByCoast$Shore;"⟩ ∈ ztb := zgm 229 (by decide +kernel) (by decide +kernel)
theorem zw_230 : Cond.selects "PaidByCoast$Coast" ⟨"PaidByCoast$Coast", "stretchAt", "(I)LPaidByCoast$Shore;"⟩ ⟨"PaidByCoast$Coast", "stretchAt", "(I)LPaidByCoast$Shore;"⟩ ∈ ztb := zgm 230 (by decide +kernel) (by decide +kernel)
theorem zwc_X2_stretchAt : Cond.code m_X2_stretchAt.1 m_X2_stretchAt.2.1 m_X2_stretchAt.2.2.1 m_X2_stretchAt.2.2.2.1 ∈ ztb := zgm 231 (by decide +kernel) (by decide +kernel)
theorem zw_232 : Cond.methodLink "PaidByCoast$Coast" 42 ⟨"PaidByCoast$Coast", "xAt", "(I)I"⟩ ∈ ztb := zgm 232 (by decide +kernel) (by decide +kernel)
theorem zw_233 : Cond.instanceMethod ⟨"PaidByCoast$Coast", "xAt", "(I)I"⟩ ∈ ztb := zgm 233 (by decide +kernel) (by decide +kernel)
theorem zw_234 : Cond.selects "PaidByCoast$Coast" ⟨"PaidByCoast$Coast", "xAt", "(I)I"⟩ ⟨"PaidByCoast$Coast", "xAt", "(I)I"⟩ ∈ ztb := zgm 234 (by decide +kernel) (by decide +kernel)
theorem zwc_X2_xAt : Cond.code m_X2_xAt.1 m_X2_xAt.2.1 m_X2_xAt.2.2.1 m_X2_xAt.2.2.2.1 ∈ ztb := zgm 235 (by decide +kernel) (by decide +kernel)
theorem zw_236 : Cond.methodLink "PaidByCoast$Coast" 46 ⟨"PaidByCoast$Coast", "yAt", "(I)I"⟩ ∈ ztb := zgm 236 (by decide +kernel) (by decide +kernel)
theorem zw_237 : Cond.instanceMethod ⟨"PaidByCoast$Coast", "yAt", "(I)I"⟩ ∈ ztb := zgm 237 (by decide +kernel) (by decide +kernel)
theorem zw_238 : Cond.selects "PaidByCoast$Coast" ⟨"PaidByCoast$Coast", "yAt", "(I)I"⟩ ⟨"PaidByCoast$Coast", "yAt", "(I)I"⟩ ∈ ztb := zgm 238 (by decide +kernel) (by decide +kernel)
theorem zwc_X2_yAt : Cond.code m_X2_yAt.1 m_X2_yAt.2.1 m_X2_yAt.2.2.1 m_X2_yAt.2.2.2.1 ∈ ztb := zgm 239 (by decide +kernel) (by decide +kernel)
theorem zw_240 : Cond.methodLink "PaidByCoast$Coast" 49 ⟨"PaidByCoast$Rocks", "become", "(LPaidByCoast$Rocks;)V"⟩ ∈ ztb := zgm 240 (by decide +kernel) (by decide +kernel)
theorem zw_241 : Cond.instanceMethod ⟨"PaidByCoast$Rocks", "become", "(LPaidByCoast$Rocks;)V"⟩ ∈ ztb := zgm 241 (by decide +kernel) (by decide +kernel)
theorem zw_242 : Cond.selects "PaidByCoast$Rocks" ⟨"PaidByCoast$Rocks", "become", "(LPaidByCoast$Rocks;)V"⟩ ⟨"PaidByCoast$Rocks", "become", "(LPaidByCoast$Rocks;)V"⟩ ∈ ztb := zgm 242 (by decide +kernel) (by decide +kernel)
theorem zwc_X7_become : Cond.code m_X7_become.1 m_X7_become.2.1 m_X7_become.2.2.1 m_X7_become.2.2.2.1 ∈ ztb := zgm 243 (by decide +kernel) (by decide +kernel)
theorem zw_244 : Cond.methodLink "PaidByCoast$Rocks" 24 ⟨"PaidByCoast$Rocks", "rockAt", "(I)LPaidByCoast$Rock;"⟩ ∈ ztb := zgm 244 (by decide +kernel) (by decide +kernel)
theorem zw_245 : Cond.instanceMethod ⟨"PaidByCoast$Rocks", "rockAt", "(I)LPaidByCoast$Rock;"⟩ ∈ ztb := zgm 245 (by decide +kernel) (by decide +kernel)
theorem zw_246 : Cond.selects "PaidByCoast$Rocks" ⟨"PaidByCoast$Rocks", "rockAt", "(I)LPaidByCoast$Rock;"⟩ ⟨"PaidByCoast$Rocks", "rockAt", "(I)LPaidByCoast$Rock;"⟩ ∈ ztb := zgm 246 (by decide +kernel) (by decide +kernel)
theorem zwc_X7_rockAt : Cond.code m_X7_rockAt.1 m_X7_rockAt.2.1 m_X7_rockAt.2.2.1 m_X7_rockAt.2.2.2.1 ∈ ztb := zgm 247 (by decide +kernel) (by decide +kernel)
theorem zw_248 : Cond.methodLink "PaidByCoast" 240 ⟨"PaidByCoast$Letters", "tell", "(LPaidByCoast$Coast;I)Z"⟩ ∈ ztb := zgm 248 (by decide +kernel) (by decide +kernel)
theorem zw_249 : Cond.instanceMethod ⟨"PaidByCoast$Letters", "tell", "(LPaidByCoast$Coast;I)Z"⟩ ∈ ztb := zgm 249 (by decide +kernel) (by decide +kernel)
theorem zw_250 : Cond.selects "PaidByCoast$Letters" ⟨"PaidByCoast$Letters", "tell", "(LPaidByCoast$Coast;I)Z"⟩ ⟨"PaidByCoast$Letters", "tell", "(LPaidByCoast$Coast;I)Z"⟩ ∈ ztb := zgm 250 (by decide +kernel) (by decide +kernel)
theorem zwc_X3_tell : Cond.code m_X3_tell.1 m_X3_tell.2.1 m_X3_tell.2.2.1 m_X3_tell.2.2.2.1 ∈ ztb := zgm 251 (by decide +kernel) (by decide +kernel)
theorem zw_252 : Cond.methodLink "PaidByCoast$Letters" 23 ⟨"PaidByCoast$Letters", "digitAt", "(I)I"⟩ ∈ ztb := zgm 252 (by decide +kernel) (by decide +kernel)
theorem zw_254 : Cond.instanceMethod ⟨"PaidByCoast$Letters", "digitAt", "(I)I"⟩ ∈ ztb := zgm 254 (by decide +kernel) (by decide +kernel)
theorem zwc_X3_digitAt : Cond.code m_X3_digitAt.1 m_X3_digitAt.2.1 m_X3_digitAt.2.2.1 m_X3_digitAt.2.2.2.1 ∈ ztb := zgm 255 (by decide +kernel) (by decide +kernel)
theorem zw_256 : Cond.methodLink "PaidByCoast$Letters" 42 ⟨"PaidByCoast$Coast", "appendStretch", "(III)Z"⟩ ∈ ztb := zgm 256 (by decide +kernel) (by decide +kernel)
theorem zw_257 : Cond.instanceMethod ⟨"PaidByCoast$Coast", "appendStretch", "(III)Z"⟩ ∈ ztb := zgm 257 (by decide +kernel) (by decide +kernel)
theorem zw_258 : Cond.selects "PaidByCoast$Coast" ⟨"PaidByCoast$Coast", "appendStretch", "(III)Z"⟩ ⟨"PaidByCoast$Coast", "appendStretch", "(III)Z"⟩ ∈ ztb := zgm 258 (by decide +kernel) (by decide +kernel)
theorem zwc_X2_appendStretch : Cond.code m_X2_appendStretch.1 m_X2_appendStretch.2.1 m_X2_appendStretch.2.2.1 m_X2_appendStretch.2.2.2.1 ∈ ztb := zgm 259 (by decide +kernel) (by decide +kernel)
theorem zw_260 : Cond.instantiable "PaidByCoast$Shore" 3 ∈ ztb := zgm 260 (by decide +kernel) (by decide +kernel)
theorem zw_261 : Cond.methodLink "PaidByCoast$Coast" 56 ⟨"PaidByCoast$Shore", "<init>", "(III)V"⟩ ∈ ztb := zgm 261 (by decide +kernel) (by decide +kernel)
theorem zw_262 : Cond.instanceMethod ⟨"PaidByCoast$Shore", "<init>", "(III)V"⟩ ∈ ztb := zgm 262 (by decide +kernel) (by decide +kernel)
theorem zwc_X9_init : Cond.code m_X9_init.1 m_X9_init.2.1 m_X9_init.2.2.1 m_X9_init.2.2.2.1 ∈ ztb := zgm 263 (by decide +kernel) (by decide +kernel)
theorem zw_264 : Cond.methodLink "PaidByCoast$Shore" 1 ⟨"java/lang/Object", "<init>", "()V"⟩ ∈ ztb := zgm 264 (by decide +kernel) (by decide +kernel)
theorem zw_265 : Cond.fieldLink "PaidByCoast$Shore" 7 "PaidByCoast$Shore" "figure" "I" ∈ ztb := zgm 265 (by decide +kernel) (by decide +kernel)
theorem zw_266 : Cond.fieldLink "PaidByCoast$Sand" 7 "PaidByCoast$Sand" "figure" "I" ∈ ztb := zgm 266 (by decide +kernel) (by decide +kernel)
theorem zw_267 : Cond.sameField "PaidByCoast$Sand" "PaidByCoast$Shore" "figure" "I" ∈ ztb := zgm 267 (by decide +kernel) (by decide +kernel)
theorem zw_268 : Cond.fieldLink "PaidByCoast$Cliff" 11 "PaidByCoast$Cliff" "figure" "I" ∈ ztb := zgm 268 (by decide +kernel) (by decide +kernel)
theorem zw_269 : Cond.sameField "PaidByCoast$Cliff" "PaidByCoast$Shore" "figure" "I" ∈ ztb := zgm 269 (by decide +kernel) (by decide +kernel)
theorem zw_270 : Cond.fieldLink "PaidByCoast$Wall" 11 "PaidByCoast$Wall" "figure" "I" ∈ ztb := zgm 270 (by decide +kernel) (by decide +kernel)
theorem zw_271 : Cond.sameField "PaidByCoast$Wall" "PaidByCoast$Shore" "figure" "I" ∈ ztb := zgm 271 (by decide +kernel) (by decide +kernel)
theorem zw_272 : Cond.fieldLink "PaidByCoast" 71 "PaidByCoast$Shore" "figure" "I" ∈ ztb := zgm 272 (by decide +kernel) (by decide +kernel)
theorem zw_273 : Cond.fieldLink "PaidByCoast$Shore" 13 "PaidByCoast$Shore" "first" "I" ∈ ztb := zgm 273 (by decide +kernel) (by decide +kernel)
theorem zw_274 : Cond.fieldLink "PaidByCoast" 77 "PaidByCoast$Shore" "first" "I" ∈ ztb := zgm 274 (by decide +kernel) (by decide +kernel)
theorem zw_275 : Cond.fieldLink "PaidByCoast$Shore" 16 "PaidByCoast$Shore" "length" "I" ∈ ztb := zgm 275 (by decide +kernel) (by decide +kernel)
theorem zw_276 : Cond.fieldLink "PaidByCoast" 74 "PaidByCoast$Shore" "length" "I" ∈ ztb := zgm 276 (by decide +kernel) (by decide +kernel)
theorem zw_283 : Cond.superclass "PaidByCoast$Shore" "java/lang/Object" ∈ ztb := zgm 283 (by decide +kernel) (by decide +kernel)
theorem zw_284 : Cond.classLink "PaidByCoast$Coast" 59 "PaidByCoast$Sand" ∈ ztb := zgm 284 (by decide +kernel) (by decide +kernel)
theorem zw_285 : Cond.instantiable "PaidByCoast$Sand" 3 ∈ ztb := zgm 285 (by decide +kernel) (by decide +kernel)
theorem zw_286 : Cond.methodLink "PaidByCoast$Coast" 61 ⟨"PaidByCoast$Sand", "<init>", "(III)V"⟩ ∈ ztb := zgm 286 (by decide +kernel) (by decide +kernel)
theorem zw_287 : Cond.instanceMethod ⟨"PaidByCoast$Sand", "<init>", "(III)V"⟩ ∈ ztb := zgm 287 (by decide +kernel) (by decide +kernel)
theorem zwc_X8_init : Cond.code m_X8_init.1 m_X8_init.2.1 m_X8_init.2.2.1 m_X8_init.2.2.2.1 ∈ ztb := zgm 288 (by decide +kernel) (by decide +kernel)
theorem zw_289 : Cond.methodLink "PaidByCoast$Sand" 1 ⟨"PaidByCoast$Shore", "<init>", "(III)V"⟩ ∈ ztb := zgm 289 (by decide +kernel) (by decide +kernel)
theorem zw_293 : Cond.superclass "PaidByCoast$Sand" "PaidByCoast$Shore" ∈ ztb := zgm 293 (by decide +kernel) (by decide +kernel)
theorem zw_294 : Cond.classLink "PaidByCoast$Coast" 62 "PaidByCoast$River" ∈ ztb := zgm 294 (by decide +kernel) (by decide +kernel)
theorem zw_295 : Cond.instantiable "PaidByCoast$River" 3 ∈ ztb := zgm 295 (by decide +kernel) (by decide +kernel)
theorem zw_296 : Cond.methodLink "PaidByCoast$Coast" 64 ⟨"PaidByCoast$River", "<init>", "(III)V"⟩ ∈ ztb := zgm 296 (by decide +kernel) (by decide +kernel)
theorem zw_297 : Cond.instanceMethod ⟨"PaidByCoast$River", "<init>", "(III)V"⟩ ∈ ztb := zgm 297 (by decide +kernel) (by decide +kernel)
theorem zwc_X5_init : Cond.code m_X5_init.1 m_X5_init.2.1 m_X5_init.2.2.1 m_X5_init.2.2.2.1 ∈ ztb := zgm 298 (by decide +kernel) (by decide +kernel)
theorem zw_299 : Cond.methodLink "PaidByCoast$River" 1 ⟨"PaidByCoast$Shore", "<init>", "(III)V"⟩ ∈ ztb := zgm 299 (by decide +kernel) (by decide +kernel)
theorem zw_303 : Cond.superclass "PaidByCoast$River" "PaidByCoast$Shore" ∈ ztb := zgm 303 (by decide +kernel) (by decide +kernel)
theorem zw_304 : Cond.classLink "PaidByCoast$Coast" 65 "PaidByCoast$Cliff" ∈ ztb := zgm 304 (by decide +kernel) (by decide +kernel)
theorem zw_305 : Cond.instantiable "PaidByCoast$Cliff" 3 ∈ ztb := zgm 305 (by decide +kernel) (by decide +kernel)
theorem zw_306 : Cond.methodLink "PaidByCoast$Coast" 67 ⟨"PaidByCoast$Cliff", "<init>", "(III)V"⟩ ∈ ztb := zgm 306 (by decide +kernel) (by decide +kernel)
theorem zw_307 : Cond.instanceMethod ⟨"PaidByCoast$Cliff", "<init>", "(III)V"⟩ ∈ ztb := zgm 307 (by decide +kernel) (by decide +kernel)
theorem zwc_X1_init : Cond.code m_X1_init.1 m_X1_init.2.1 m_X1_init.2.2.1 m_X1_init.2.2.2.1 ∈ ztb := zgm 308 (by decide +kernel) (by decide +kernel)
theorem zw_309 : Cond.methodLink "PaidByCoast$Cliff" 1 ⟨"PaidByCoast$Shore", "<init>", "(III)V"⟩ ∈ ztb := zgm 309 (by decide +kernel) (by decide +kernel)
theorem zw_313 : Cond.superclass "PaidByCoast$Cliff" "PaidByCoast$Shore" ∈ ztb := zgm 313 (by decide +kernel) (by decide +kernel)
theorem zw_314 : Cond.classLink "PaidByCoast$Coast" 68 "PaidByCoast$Marsh" ∈ ztb := zgm 314 (by decide +kernel) (by decide +kernel)
theorem zw_315 : Cond.instantiable "PaidByCoast$Marsh" 3 ∈ ztb := zgm 315 (by decide +kernel) (by decide +kernel)
theorem zw_316 : Cond.methodLink "PaidByCoast$Coast" 70 ⟨"PaidByCoast$Marsh", "<init>", "(III)V"⟩ ∈ ztb := zgm 316 (by decide +kernel) (by decide +kernel)
theorem zw_317 : Cond.instanceMethod ⟨"PaidByCoast$Marsh", "<init>", "(III)V"⟩ ∈ ztb := zgm 317 (by decide +kernel) (by decide +kernel)
theorem zwc_X4_init : Cond.code m_X4_init.1 m_X4_init.2.1 m_X4_init.2.2.1 m_X4_init.2.2.2.1 ∈ ztb := zgm 318 (by decide +kernel) (by decide +kernel)
theorem zw_319 : Cond.methodLink "PaidByCoast$Marsh" 1 ⟨"PaidByCoast$Sand", "<init>", "(III)V"⟩ ∈ ztb := zgm 319 (by decide +kernel) (by decide +kernel)
theorem zw_323 : Cond.superclass "PaidByCoast$Marsh" "PaidByCoast$Sand" ∈ ztb := zgm 323 (by decide +kernel) (by decide +kernel)
theorem zw_324 : Cond.classLink "PaidByCoast$Coast" 71 "PaidByCoast$Wall" ∈ ztb := zgm 324 (by decide +kernel) (by decide +kernel)
theorem zw_325 : Cond.instantiable "PaidByCoast$Wall" 3 ∈ ztb := zgm 325 (by decide +kernel) (by decide +kernel)
theorem zw_326 : Cond.methodLink "PaidByCoast$Coast" 73 ⟨"PaidByCoast$Wall", "<init>", "(III)V"⟩ ∈ ztb := zgm 326 (by decide +kernel) (by decide +kernel)
theorem zw_327 : Cond.instanceMethod ⟨"PaidByCoast$Wall", "<init>", "(III)V"⟩ ∈ ztb := zgm 327 (by decide +kernel) (by decide +kernel)
theorem zwc_X10_init : Cond.code m_X10_init.1 m_X10_init.2.1 m_X10_init.2.2.1 m_X10_init.2.2.2.1 ∈ ztb := zgm 328 (by decide +kernel) (by decide +kernel)
theorem zw_329 : Cond.methodLink "PaidByCoast$Wall" 1 ⟨"PaidByCoast$Cliff", "<init>", "(III)V"⟩ ∈ ztb := zgm 329 (by decide +kernel) (by decide +kernel)
theorem zw_333 : Cond.superclass "PaidByCoast$Wall" "PaidByCoast$Cliff" ∈ ztb := zgm 333 (by decide +kernel) (by decide +kernel)
theorem zw_334 : Cond.methodLink "PaidByCoast$Letters" 48 ⟨"PaidByCoast$Coast", "appendYard", "(I)V"⟩ ∈ ztb := zgm 334 (by decide +kernel) (by decide +kernel)
theorem zw_335 : Cond.instanceMethod ⟨"PaidByCoast$Coast", "appendYard", "(I)V"⟩ ∈ ztb := zgm 335 (by decide +kernel) (by decide +kernel)
theorem zw_336 : Cond.selects "PaidByCoast$Coast" ⟨"PaidByCoast$Coast", "appendYard", "(I)V"⟩ ⟨"PaidByCoast$Coast", "appendYard", "(I)V"⟩ ∈ ztb := zgm 336 (by decide +kernel) (by decide +kernel)
theorem zwc_X2_appendYard : Cond.code m_X2_appendYard.1 m_X2_appendYard.2.1 m_X2_appendYard.2.2.1 m_X2_appendYard.2.2.2.1 ∈ ztb := zgm 337 (by decide +kernel) (by decide +kernel)
theorem zw_338 : Cond.methodLink "PaidByCoast$Letters" 56 ⟨"PaidByCoast$Letters", "pairAt", "(I)I"⟩ ∈ ztb := zgm 338 (by decide +kernel) (by decide +kernel)
theorem zw_340 : Cond.instanceMethod ⟨"PaidByCoast$Letters", "pairAt", "(I)I"⟩ ∈ ztb := zgm 340 (by decide +kernel) (by decide +kernel)
theorem zwc_X3_pairAt : Cond.code m_X3_pairAt.1 m_X3_pairAt.2.1 m_X3_pairAt.2.2.1 m_X3_pairAt.2.2.2.1 ∈ ztb := zgm 341 (by decide +kernel) (by decide +kernel)
theorem zw_342 : Cond.methodLink "PaidByCoast$Letters" 59 ⟨"PaidByCoast$Rocks", "append", "(IIII)Z"⟩ ∈ ztb := zgm 342 (by decide +kernel) (by decide +kernel)
theorem zw_343 : Cond.instanceMethod ⟨"PaidByCoast$Rocks", "append", "(IIII)Z"⟩ ∈ ztb := zgm 343 (by decide +kernel) (by decide +kernel)
theorem zw_344 : Cond.selects "PaidByCoast$Rocks" ⟨"PaidByCoast$Rocks", "append", "(IIII)Z"⟩ ⟨"PaidByCoast$Rocks", "append", "(IIII)Z"⟩ ∈ ztb := zgm 344 (by decide +kernel) (by decide +kernel)
theorem zwc_X7_append : Cond.code m_X7_append.1 m_X7_append.2.1 m_X7_append.2.2.1 m_X7_append.2.2.2.1 ∈ ztb := zgm 345 (by decide +kernel) (by decide +kernel)
theorem zw_346 : Cond.instantiable "PaidByCoast$Rock" 4 ∈ ztb := zgm 346 (by decide +kernel) (by decide +kernel)
theorem zw_347 : Cond.methodLink "PaidByCoast$Rocks" 21 ⟨"PaidByCoast$Rock", "<init>", "(IIII)V"⟩ ∈ ztb := zgm 347 (by decide +kernel) (by decide +kernel)
theorem zw_348 : Cond.instanceMethod ⟨"PaidByCoast$Rock", "<init>", "(IIII)V"⟩ ∈ ztb := zgm 348 (by decide +kernel) (by decide +kernel)
theorem zwc_X6_init : Cond.code m_X6_init.1 m_X6_init.2.1 m_X6_init.2.2.1 m_X6_init.2.2.2.1 ∈ ztb := zgm 349 (by decide +kernel) (by decide +kernel)
theorem zw_350 : Cond.methodLink "PaidByCoast$Rock" 1 ⟨"java/lang/Object", "<init>", "()V"⟩ ∈ ztb := zgm 350 (by decide +kernel) (by decide +kernel)
theorem zw_351 : Cond.fieldLink "PaidByCoast$Rock" 7 "PaidByCoast$Rock" "x" "I" ∈ ztb := zgm 351 (by decide +kernel) (by decide +kernel)
theorem zw_352 : Cond.fieldLinkNest "PaidByCoast$Rocks" 44 "PaidByCoast$Rock" "x" "I" "PaidByCoast" ∈ ztbN := zgn 352 (by decide +kernel) rfl
theorem zw_353 : Cond.fieldLinkNest "PaidByCoast" 166 "PaidByCoast$Rock" "x" "I" "PaidByCoast" ∈ ztbN := zgn 353 (by decide +kernel) rfl
theorem zw_354 : Cond.fieldLink "PaidByCoast$Rock" 13 "PaidByCoast$Rock" "y" "I" ∈ ztb := zgm 354 (by decide +kernel) (by decide +kernel)
theorem zw_355 : Cond.fieldLinkNest "PaidByCoast$Rocks" 47 "PaidByCoast$Rock" "y" "I" "PaidByCoast" ∈ ztbN := zgn 355 (by decide +kernel) rfl
theorem zw_356 : Cond.fieldLinkNest "PaidByCoast" 171 "PaidByCoast$Rock" "y" "I" "PaidByCoast" ∈ ztbN := zgn 356 (by decide +kernel) rfl
theorem zw_357 : Cond.fieldLink "PaidByCoast$Rock" 16 "PaidByCoast$Rock" "low" "I" ∈ ztb := zgm 357 (by decide +kernel) (by decide +kernel)
theorem zw_358 : Cond.fieldLinkNest "PaidByCoast" 174 "PaidByCoast$Rock" "low" "I" "PaidByCoast" ∈ ztbN := zgn 358 (by decide +kernel) rfl
theorem zw_359 : Cond.fieldLink "PaidByCoast$Rock" 19 "PaidByCoast$Rock" "high" "I" ∈ ztb := zgm 359 (by decide +kernel) (by decide +kernel)
theorem zw_360 : Cond.fieldLinkNest "PaidByCoast" 177 "PaidByCoast$Rock" "high" "I" "PaidByCoast" ∈ ztbN := zgn 360 (by decide +kernel) rfl
theorem zw_369 : Cond.superclass "PaidByCoast$Rock" "java/lang/Object" ∈ ztb := zgm 369 (by decide +kernel) (by decide +kernel)
theorem zw_370 : Cond.methodLink "PaidByCoast" 244 ⟨"PaidByCoast$Letters", "behindStatement", "(I)I"⟩ ∈ ztb := zgm 370 (by decide +kernel) (by decide +kernel)
theorem zw_371 : Cond.methodLink "PaidByCoastLaw" 23 ⟨"PaidByCoast", "stretch", "(II)I"⟩ ∈ ztb := zgm 371 (by decide +kernel) (by decide +kernel)
theorem zw_372 : Cond.instanceMethod ⟨"PaidByCoast", "stretch", "(II)I"⟩ ∈ ztb := zgm 372 (by decide +kernel) (by decide +kernel)
theorem zw_373 : Cond.selects "PaidByCoast" ⟨"PaidByCoast", "stretch", "(II)I"⟩ ⟨"PaidByCoast", "stretch", "(II)I"⟩ ∈ ztb := zgm 373 (by decide +kernel) (by decide +kernel)
theorem zwc_X11_stretch : Cond.code m_X11_stretch.1 m_X11_stretch.2.1 m_X11_stretch.2.2.1 m_X11_stretch.2.2.2.1 ∈ ztb := zgm 374 (by decide +kernel) (by decide +kernel)
theorem zw_375 : Cond.methodLink "PaidByCoast" 62 ⟨"PaidByCoast$Coast", "stretchAt", "(I)LPaidByCoast$Shore;"⟩ ∈ ztb := zgm 375 (by decide +kernel) (by decide +kernel)
theorem zw_376 : Cond.methodLink "PaidByCoast" 66 ⟨"PaidByCoast$Shore", "kind", "()I"⟩ ∈ ztb := zgm 376 (by decide +kernel) (by decide +kernel)
theorem zw_377 : Cond.instanceMethod ⟨"PaidByCoast$Shore", "kind", "()I"⟩ ∈ ztb := zgm 377 (by decide +kernel) (by decide +kernel)
theorem zw_378 : Cond.selects "PaidByCoast$Shore" ⟨"PaidByCoast$Shore", "kind", "()I"⟩ ⟨"PaidByCoast$Shore", "kind", "()I"⟩ ∈ ztb := zgm 378 (by decide +kernel) (by decide +kernel)
theorem zw_379 : Cond.sameMethod "PaidByCoast$Shore" "PaidByCoast$Shore" "kind" "()I" ∈ ztb := zgm 379 (by decide +kernel) (by decide +kernel)
theorem zw_380 : Cond.selects "PaidByCoast$Cliff" ⟨"PaidByCoast$Shore", "kind", "()I"⟩ ⟨"PaidByCoast$Cliff", "kind", "()I"⟩ ∈ ztb := zgm 380 (by decide +kernel) (by decide +kernel)
theorem zw_381 : Cond.instanceMethod ⟨"PaidByCoast$Cliff", "kind", "()I"⟩ ∈ ztb := zgm 381 (by decide +kernel) (by decide +kernel)
theorem zwc_X1_kind : Cond.code m_X1_kind.1 m_X1_kind.2.1 m_X1_kind.2.2.1 m_X1_kind.2.2.2.1 ∈ ztb := zgm 382 (by decide +kernel) (by decide +kernel)
theorem zw_383 : Cond.selects "PaidByCoast$Marsh" ⟨"PaidByCoast$Shore", "kind", "()I"⟩ ⟨"PaidByCoast$Marsh", "kind", "()I"⟩ ∈ ztb := zgm 383 (by decide +kernel) (by decide +kernel)
theorem zw_384 : Cond.instanceMethod ⟨"PaidByCoast$Marsh", "kind", "()I"⟩ ∈ ztb := zgm 384 (by decide +kernel) (by decide +kernel)
theorem zwc_X4_kind : Cond.code m_X4_kind.1 m_X4_kind.2.1 m_X4_kind.2.2.1 m_X4_kind.2.2.2.1 ∈ ztb := zgm 385 (by decide +kernel) (by decide +kernel)
theorem zw_386 : Cond.selects "PaidByCoast$River" ⟨"PaidByCoast$Shore", "kind", "()I"⟩ ⟨"PaidByCoast$River", "kind", "()I"⟩ ∈ ztb := zgm 386 (by decide +kernel) (by decide +kernel)
theorem zw_387 : Cond.instanceMethod ⟨"PaidByCoast$River", "kind", "()I"⟩ ∈ ztb := zgm 387 (by decide +kernel) (by decide +kernel)
theorem zwc_X5_kind : Cond.code m_X5_kind.1 m_X5_kind.2.1 m_X5_kind.2.2.1 m_X5_kind.2.2.2.1 ∈ ztb := zgm 388 (by decide +kernel) (by decide +kernel)
theorem zw_389 : Cond.selects "PaidByCoast$Sand" ⟨"PaidByCoast$Shore", "kind", "()I"⟩ ⟨"PaidByCoast$Sand", "kind", "()I"⟩ ∈ ztb := zgm 389 (by decide +kernel) (by decide +kernel)
theorem zw_390 : Cond.instanceMethod ⟨"PaidByCoast$Sand", "kind", "()I"⟩ ∈ ztb := zgm 390 (by decide +kernel) (by decide +kernel)
theorem zwc_X8_kind : Cond.code m_X8_kind.1 m_X8_kind.2.1 m_X8_kind.2.2.1 m_X8_kind.2.2.2.1 ∈ ztb := zgm 391 (by decide +kernel) (by decide +kernel)
theorem zw_392 : Cond.selects "PaidByCoast$Wall" ⟨"PaidByCoast$Shore", "kind", "()I"⟩ ⟨"PaidByCoast$Wall", "kind", "()I"⟩ ∈ ztb := zgm 392 (by decide +kernel) (by decide +kernel)
theorem zw_393 : Cond.instanceMethod ⟨"PaidByCoast$Wall", "kind", "()I"⟩ ∈ ztb := zgm 393 (by decide +kernel) (by decide +kernel)
theorem zwc_X10_kind : Cond.code m_X10_kind.1 m_X10_kind.2.1 m_X10_kind.2.2.1 m_X10_kind.2.2.2.1 ∈ ztb := zgm 394 (by decide +kernel) (by decide +kernel)
theorem zwc_X9_kind : Cond.code m_X9_kind.1 m_X9_kind.2.1 m_X9_kind.2.2.1 m_X9_kind.2.2.2.1 ∈ ztb := zgm 395 (by decide +kernel) (by decide +kernel)
theorem zw_396 : Cond.methodLink "PaidByCoast" 83 ⟨"PaidByCoast$Shore", "isDry", "(I)Z"⟩ ∈ ztb := zgm 396 (by decide +kernel) (by decide +kernel)
theorem zw_397 : Cond.instanceMethod ⟨"PaidByCoast$Shore", "isDry", "(I)Z"⟩ ∈ ztb := zgm 397 (by decide +kernel) (by decide +kernel)
theorem zw_398 : Cond.selects "PaidByCoast$Shore" ⟨"PaidByCoast$Shore", "isDry", "(I)Z"⟩ ⟨"PaidByCoast$Shore", "isDry", "(I)Z"⟩ ∈ ztb := zgm 398 (by decide +kernel) (by decide +kernel)
theorem zw_399 : Cond.sameMethod "PaidByCoast$Shore" "PaidByCoast$Shore" "isDry" "(I)Z" ∈ ztb := zgm 399 (by decide +kernel) (by decide +kernel)
theorem zw_400 : Cond.selects "PaidByCoast$Cliff" ⟨"PaidByCoast$Shore", "isDry", "(I)Z"⟩ ⟨"PaidByCoast$Shore", "isDry", "(I)Z"⟩ ∈ ztb := zgm 400 (by decide +kernel) (by decide +kernel)
theorem zw_401 : Cond.selects "PaidByCoast$Marsh" ⟨"PaidByCoast$Shore", "isDry", "(I)Z"⟩ ⟨"PaidByCoast$Marsh", "isDry", "(I)Z"⟩ ∈ ztb := zgm 401 (by decide +kernel) (by decide +kernel)
theorem zw_402 : Cond.instanceMethod ⟨"PaidByCoast$Marsh", "isDry", "(I)Z"⟩ ∈ ztb := zgm 402 (by decide +kernel) (by decide +kernel)
theorem zwc_X4_isDry : Cond.code m_X4_isDry.1 m_X4_isDry.2.1 m_X4_isDry.2.2.1 m_X4_isDry.2.2.2.1 ∈ ztb := zgm 403 (by decide +kernel) (by decide +kernel)
theorem zw_404 : Cond.methodLink "PaidByCoast$Marsh" 7 ⟨"PaidByCoast$Sand", "isDry", "(I)Z"⟩ ∈ ztb := zgm 404 (by decide +kernel) (by decide +kernel)
theorem zw_405 : Cond.instanceMethod ⟨"PaidByCoast$Sand", "isDry", "(I)Z"⟩ ∈ ztb := zgm 405 (by decide +kernel) (by decide +kernel)
theorem zwc_X8_isDry : Cond.code m_X8_isDry.1 m_X8_isDry.2.1 m_X8_isDry.2.2.1 m_X8_isDry.2.2.2.1 ∈ ztb := zgm 406 (by decide +kernel) (by decide +kernel)
theorem zw_407 : Cond.selects "PaidByCoast$River" ⟨"PaidByCoast$Shore", "isDry", "(I)Z"⟩ ⟨"PaidByCoast$River", "isDry", "(I)Z"⟩ ∈ ztb := zgm 407 (by decide +kernel) (by decide +kernel)
theorem zw_408 : Cond.instanceMethod ⟨"PaidByCoast$River", "isDry", "(I)Z"⟩ ∈ ztb := zgm 408 (by decide +kernel) (by decide +kernel)
theorem zwc_X5_isDry : Cond.code m_X5_isDry.1 m_X5_isDry.2.1 m_X5_isDry.2.2.1 m_X5_isDry.2.2.2.1 ∈ ztb := zgm 409 (by decide +kernel) (by decide +kernel)
theorem zw_410 : Cond.selects "PaidByCoast$Sand" ⟨"PaidByCoast$Shore", "isDry", "(I)Z"⟩ ⟨"PaidByCoast$Sand", "isDry", "(I)Z"⟩ ∈ ztb := zgm 410 (by decide +kernel) (by decide +kernel)
theorem zw_411 : Cond.selects "PaidByCoast$Wall" ⟨"PaidByCoast$Shore", "isDry", "(I)Z"⟩ ⟨"PaidByCoast$Wall", "isDry", "(I)Z"⟩ ∈ ztb := zgm 411 (by decide +kernel) (by decide +kernel)
theorem zw_412 : Cond.instanceMethod ⟨"PaidByCoast$Wall", "isDry", "(I)Z"⟩ ∈ ztb := zgm 412 (by decide +kernel) (by decide +kernel)
theorem zwc_X10_isDry : Cond.code m_X10_isDry.1 m_X10_isDry.2.1 m_X10_isDry.2.2.1 m_X10_isDry.2.2.2.1 ∈ ztb := zgm 413 (by decide +kernel) (by decide +kernel)
theorem zw_414 : Cond.methodLink "PaidByCoast$Wall" 7 ⟨"PaidByCoast$Cliff", "isDry", "(I)Z"⟩ ∈ ztb := zgm 414 (by decide +kernel) (by decide +kernel)
theorem zw_415 : Cond.sameMethod "PaidByCoast$Cliff" "PaidByCoast$Shore" "isDry" "(I)Z" ∈ ztb := zgm 415 (by decide +kernel) (by decide +kernel)
theorem zw_416 : Cond.declares ⟨"PaidByCoast$Shore", "isDry", "(I)Z"⟩ ∈ ztbN := zgn 416 (by decide +kernel) rfl
theorem zwc_X9_isDry : Cond.code m_X9_isDry.1 m_X9_isDry.2.1 m_X9_isDry.2.2.1 m_X9_isDry.2.2.2.1 ∈ ztb := zgm 417 (by decide +kernel) (by decide +kernel)
theorem zw_418 : Cond.methodLink "PaidByCoast" 86 ⟨"PaidByCoast$Shore", "fee", "()I"⟩ ∈ ztb := zgm 418 (by decide +kernel) (by decide +kernel)
theorem zw_419 : Cond.instanceMethod ⟨"PaidByCoast$Shore", "fee", "()I"⟩ ∈ ztb := zgm 419 (by decide +kernel) (by decide +kernel)
theorem zw_420 : Cond.selects "PaidByCoast$Shore" ⟨"PaidByCoast$Shore", "fee", "()I"⟩ ⟨"PaidByCoast$Shore", "fee", "()I"⟩ ∈ ztb := zgm 420 (by decide +kernel) (by decide +kernel)
theorem zw_421 : Cond.sameMethod "PaidByCoast$Shore" "PaidByCoast$Shore" "fee" "()I" ∈ ztb := zgm 421 (by decide +kernel) (by decide +kernel)
theorem zw_422 : Cond.selects "PaidByCoast$Cliff" ⟨"PaidByCoast$Shore", "fee", "()I"⟩ ⟨"PaidByCoast$Cliff", "fee", "()I"⟩ ∈ ztb := zgm 422 (by decide +kernel) (by decide +kernel)
theorem zw_423 : Cond.instanceMethod ⟨"PaidByCoast$Cliff", "fee", "()I"⟩ ∈ ztb := zgm 423 (by decide +kernel) (by decide +kernel)
theorem zwc_X1_fee : Cond.code m_X1_fee.1 m_X1_fee.2.1 m_X1_fee.2.2.1 m_X1_fee.2.2.2.1 ∈ ztb := zgm 424 (by decide +kernel) (by decide +kernel)
theorem zw_425 : Cond.methodLink "PaidByCoast$Cliff" 7 ⟨"PaidByCoast$Shore", "fee", "()I"⟩ ∈ ztb := zgm 425 (by decide +kernel) (by decide +kernel)
theorem zw_426 : Cond.selects "PaidByCoast$Marsh" ⟨"PaidByCoast$Shore", "fee", "()I"⟩ ⟨"PaidByCoast$Marsh", "fee", "()I"⟩ ∈ ztb := zgm 426 (by decide +kernel) (by decide +kernel)
theorem zw_427 : Cond.instanceMethod ⟨"PaidByCoast$Marsh", "fee", "()I"⟩ ∈ ztb := zgm 427 (by decide +kernel) (by decide +kernel)
theorem zwc_X4_fee : Cond.code m_X4_fee.1 m_X4_fee.2.1 m_X4_fee.2.2.1 m_X4_fee.2.2.2.1 ∈ ztb := zgm 428 (by decide +kernel) (by decide +kernel)
theorem zw_429 : Cond.methodLink "PaidByCoast$Marsh" 11 ⟨"PaidByCoast$Sand", "fee", "()I"⟩ ∈ ztb := zgm 429 (by decide +kernel) (by decide +kernel)
theorem zw_430 : Cond.instanceMethod ⟨"PaidByCoast$Sand", "fee", "()I"⟩ ∈ ztb := zgm 430 (by decide +kernel) (by decide +kernel)
theorem zwc_X8_fee : Cond.code m_X8_fee.1 m_X8_fee.2.1 m_X8_fee.2.2.1 m_X8_fee.2.2.2.1 ∈ ztb := zgm 431 (by decide +kernel) (by decide +kernel)
theorem zw_432 : Cond.methodLink "PaidByCoast$Sand" 13 ⟨"PaidByCoast$Shore", "fee", "()I"⟩ ∈ ztb := zgm 432 (by decide +kernel) (by decide +kernel)
theorem zw_433 : Cond.selects "PaidByCoast$River" ⟨"PaidByCoast$Shore", "fee", "()I"⟩ ⟨"PaidByCoast$River", "fee", "()I"⟩ ∈ ztb := zgm 433 (by decide +kernel) (by decide +kernel)
theorem zw_434 : Cond.instanceMethod ⟨"PaidByCoast$River", "fee", "()I"⟩ ∈ ztb := zgm 434 (by decide +kernel) (by decide +kernel)
theorem zwc_X5_fee : Cond.code m_X5_fee.1 m_X5_fee.2.1 m_X5_fee.2.2.1 m_X5_fee.2.2.2.1 ∈ ztb := zgm 435 (by decide +kernel) (by decide +kernel)
theorem zw_436 : Cond.selects "PaidByCoast$Sand" ⟨"PaidByCoast$Shore", "fee", "()I"⟩ ⟨"PaidByCoast$Sand", "fee", "()I"⟩ ∈ ztb := zgm 436 (by decide +kernel) (by decide +kernel)
theorem zw_437 : Cond.selects "PaidByCoast$Wall" ⟨"PaidByCoast$Shore", "fee", "()I"⟩ ⟨"PaidByCoast$Wall", "fee", "()I"⟩ ∈ ztb := zgm 437 (by decide +kernel) (by decide +kernel)
theorem zw_438 : Cond.instanceMethod ⟨"PaidByCoast$Wall", "fee", "()I"⟩ ∈ ztb := zgm 438 (by decide +kernel) (by decide +kernel)
theorem zwc_X10_fee : Cond.code m_X10_fee.1 m_X10_fee.2.1 m_X10_fee.2.2.1 m_X10_fee.2.2.2.1 ∈ ztb := zgm 439 (by decide +kernel) (by decide +kernel)
theorem zw_440 : Cond.methodLink "PaidByCoast$Wall" 17 ⟨"PaidByCoast$Cliff", "fee", "()I"⟩ ∈ ztb := zgm 440 (by decide +kernel) (by decide +kernel)
theorem zwc_X9_fee : Cond.code m_X9_fee.1 m_X9_fee.2.1 m_X9_fee.2.2.1 m_X9_fee.2.2.2.1 ∈ ztb := zgm 441 (by decide +kernel) (by decide +kernel)
theorem zw_442 : Cond.methodLink "PaidByCoastLaw" 28 ⟨"PaidByCoast", "point", "(II)I"⟩ ∈ ztb := zgm 442 (by decide +kernel) (by decide +kernel)
theorem zw_443 : Cond.instanceMethod ⟨"PaidByCoast", "point", "(II)I"⟩ ∈ ztb := zgm 443 (by decide +kernel) (by decide +kernel)
theorem zw_444 : Cond.selects "PaidByCoast" ⟨"PaidByCoast", "point", "(II)I"⟩ ⟨"PaidByCoast", "point", "(II)I"⟩ ∈ ztb := zgm 444 (by decide +kernel) (by decide +kernel)
theorem zwc_X11_point : Cond.code m_X11_point.1 m_X11_point.2.1 m_X11_point.2.2.1 m_X11_point.2.2.2.1 ∈ ztb := zgm 445 (by decide +kernel) (by decide +kernel)
theorem zw_446 : Cond.methodLink "PaidByCoast" 89 ⟨"PaidByCoast$Coast", "hasPlace", "(I)Z"⟩ ∈ ztb := zgm 446 (by decide +kernel) (by decide +kernel)
theorem zw_447 : Cond.instanceMethod ⟨"PaidByCoast$Coast", "hasPlace", "(I)Z"⟩ ∈ ztb := zgm 447 (by decide +kernel) (by decide +kernel)
theorem zw_448 : Cond.selects "PaidByCoast$Coast" ⟨"PaidByCoast$Coast", "hasPlace", "(I)Z"⟩ ⟨"PaidByCoast$Coast", "hasPlace", "(I)Z"⟩ ∈ ztb := zgm 448 (by decide +kernel) (by decide +kernel)
theorem zwc_X2_hasPlace : Cond.code m_X2_hasPlace.1 m_X2_hasPlace.2.1 m_X2_hasPlace.2.2.1 m_X2_hasPlace.2.2.2.1 ∈ ztb := zgm 449 (by decide +kernel) (by decide +kernel)
theorem zw_450 : Cond.constant "PaidByCoast" 92 (1000000000) ∈ ztb := zgm 450 (by decide +kernel) (by decide +kernel)
theorem zw_451 : Cond.methodLink "PaidByCoast" 93 ⟨"PaidByCoast$Coast", "xAt", "(I)I"⟩ ∈ ztb := zgm 451 (by decide +kernel) (by decide +kernel)
theorem zw_452 : Cond.methodLink "PaidByCoast" 96 ⟨"PaidByCoast$Coast", "yAt", "(I)I"⟩ ∈ ztb := zgm 452 (by decide +kernel) (by decide +kernel)
theorem zw_453 : Cond.methodLink "PaidByCoastLaw" 32 ⟨"PaidByCoast", "shore", "(I)I"⟩ ∈ ztb := zgm 453 (by decide +kernel) (by decide +kernel)
theorem zw_454 : Cond.instanceMethod ⟨"PaidByCoast", "shore", "(I)I"⟩ ∈ ztb := zgm 454 (by decide +kernel) (by decide +kernel)
theorem zw_455 : Cond.selects "PaidByCoast" ⟨"PaidByCoast", "shore", "(I)I"⟩ ⟨"PaidByCoast", "shore", "(I)I"⟩ ∈ ztb := zgm 455 (by decide +kernel) (by decide +kernel)
theorem zwc_X11_shore : Cond.code m_X11_shore.1 m_X11_shore.2.1 m_X11_shore.2.2.1 m_X11_shore.2.2.2.1 ∈ ztb := zgm 456 (by decide +kernel) (by decide +kernel)
theorem zw_457 : Cond.methodLink "PaidByCoast" 99 ⟨"PaidByCoast$Coast", "shoreNow", "()J"⟩ ∈ ztb := zgm 457 (by decide +kernel) (by decide +kernel)
theorem zw_458 : Cond.instanceMethod ⟨"PaidByCoast$Coast", "shoreNow", "()J"⟩ ∈ ztb := zgm 458 (by decide +kernel) (by decide +kernel)
theorem zw_459 : Cond.selects "PaidByCoast$Coast" ⟨"PaidByCoast$Coast", "shoreNow", "()J"⟩ ⟨"PaidByCoast$Coast", "shoreNow", "()J"⟩ ∈ ztb := zgm 459 (by decide +kernel) (by decide +kernel)
theorem zwc_X2_shoreNow : Cond.code m_X2_shoreNow.1 m_X2_shoreNow.2.1 m_X2_shoreNow.2.2.1 m_X2_shoreNow.2.2.2.1 ∈ ztb := zgm 460 (by decide +kernel) (by decide +kernel)
theorem zw_461 : Cond.methodLink "PaidByCoast$Coast" 74 ⟨"PaidByCoast$Coast", "shoreAt", "(I)J"⟩ ∈ ztb := zgm 461 (by decide +kernel) (by decide +kernel)
theorem zw_462 : Cond.instanceMethod ⟨"PaidByCoast$Coast", "shoreAt", "(I)J"⟩ ∈ ztb := zgm 462 (by decide +kernel) (by decide +kernel)
theorem zw_463 : Cond.selects "PaidByCoast$Coast" ⟨"PaidByCoast$Coast", "shoreAt", "(I)J"⟩ ⟨"PaidByCoast$Coast", "shoreAt", "(I)J"⟩ ∈ ztb := zgm 463 (by decide +kernel) (by decide +kernel)
theorem zwc_X2_shoreAt : Cond.code m_X2_shoreAt.1 m_X2_shoreAt.2.1 m_X2_shoreAt.2.2.1 m_X2_shoreAt.2.2.2.1 ∈ ztb := zgm 464 (by decide +kernel) (by decide +kernel)
theorem zw_465 : Cond.methodLink "PaidByCoast$Coast" 78 ⟨"PaidByCoast$Shore", "isDry", "(I)Z"⟩ ∈ ztb := zgm 465 (by decide +kernel) (by decide +kernel)
theorem zw_466 : Cond.methodLink "PaidByCoast$Coast" 82 ⟨"PaidByCoast$Shore", "places", "()J"⟩ ∈ ztb := zgm 466 (by decide +kernel) (by decide +kernel)
theorem zw_467 : Cond.instanceMethod ⟨"PaidByCoast$Shore", "places", "()J"⟩ ∈ ztb := zgm 467 (by decide +kernel) (by decide +kernel)
theorem zw_468 : Cond.selects "PaidByCoast$Shore" ⟨"PaidByCoast$Shore", "places", "()J"⟩ ⟨"PaidByCoast$Shore", "places", "()J"⟩ ∈ ztb := zgm 468 (by decide +kernel) (by decide +kernel)
theorem zw_469 : Cond.sameMethod "PaidByCoast$Shore" "PaidByCoast$Shore" "places" "()J" ∈ ztb := zgm 469 (by decide +kernel) (by decide +kernel)
theorem zw_470 : Cond.selects "PaidByCoast$Cliff" ⟨"PaidByCoast$Shore", "places", "()J"⟩ ⟨"PaidByCoast$Shore", "places", "()J"⟩ ∈ ztb := zgm 470 (by decide +kernel) (by decide +kernel)
theorem zw_471 : Cond.selects "PaidByCoast$Marsh" ⟨"PaidByCoast$Shore", "places", "()J"⟩ ⟨"PaidByCoast$Shore", "places", "()J"⟩ ∈ ztb := zgm 471 (by decide +kernel) (by decide +kernel)
theorem zw_472 : Cond.selects "PaidByCoast$River" ⟨"PaidByCoast$Shore", "places", "()J"⟩ ⟨"PaidByCoast$Shore", "places", "()J"⟩ ∈ ztb := zgm 472 (by decide +kernel) (by decide +kernel)
theorem zw_473 : Cond.selects "PaidByCoast$Sand" ⟨"PaidByCoast$Shore", "places", "()J"⟩ ⟨"PaidByCoast$Shore", "places", "()J"⟩ ∈ ztb := zgm 473 (by decide +kernel) (by decide +kernel)
theorem zw_474 : Cond.selects "PaidByCoast$Wall" ⟨"PaidByCoast$Shore", "places", "()J"⟩ ⟨"PaidByCoast$Shore", "places", "()J"⟩ ∈ ztb := zgm 474 (by decide +kernel) (by decide +kernel)
theorem zwc_X9_places : Cond.code m_X9_places.1 m_X9_places.2.1 m_X9_places.2.2.1 m_X9_places.2.2.2.1 ∈ ztb := zgm 475 (by decide +kernel) (by decide +kernel)
theorem zw_476 : Cond.methodLink "PaidByCoast" 103 ⟨"PaidByCoast", "holds", "(JI)Z"⟩ ∈ ztb := zgm 476 (by decide +kernel) (by decide +kernel)
theorem zw_477 : Cond.static ⟨"PaidByCoast", "holds", "(JI)Z"⟩ ∈ ztb := zgm 477 (by decide +kernel) (by decide +kernel)
theorem zwc_X11_holds : Cond.code m_X11_holds.1 m_X11_holds.2.1 m_X11_holds.2.2.1 m_X11_holds.2.2.2.1 ∈ ztb := zgm 478 (by decide +kernel) (by decide +kernel)
theorem zw_479 : Cond.methodLink "PaidByCoastLaw" 36 ⟨"PaidByCoast", "tide", "(I)I"⟩ ∈ ztb := zgm 479 (by decide +kernel) (by decide +kernel)
theorem zw_480 : Cond.instanceMethod ⟨"PaidByCoast", "tide", "(I)I"⟩ ∈ ztb := zgm 480 (by decide +kernel) (by decide +kernel)
theorem zw_481 : Cond.selects "PaidByCoast" ⟨"PaidByCoast", "tide", "(I)I"⟩ ⟨"PaidByCoast", "tide", "(I)I"⟩ ∈ ztb := zgm 481 (by decide +kernel) (by decide +kernel)
theorem zwc_X11_tide : Cond.code m_X11_tide.1 m_X11_tide.2.1 m_X11_tide.2.2.1 m_X11_tide.2.2.2.1 ∈ ztb := zgm 482 (by decide +kernel) (by decide +kernel)
theorem zw_483 : Cond.methodLink "PaidByCoastLaw" 40 ⟨"PaidByCoast", "walk", "(III)I"⟩ ∈ ztb := zgm 483 (by decide +kernel) (by decide +kernel)
theorem zw_484 : Cond.instanceMethod ⟨"PaidByCoast", "walk", "(III)I"⟩ ∈ ztb := zgm 484 (by decide +kernel) (by decide +kernel)
theorem zw_485 : Cond.selects "PaidByCoast" ⟨"PaidByCoast", "walk", "(III)I"⟩ ⟨"PaidByCoast", "walk", "(III)I"⟩ ∈ ztb := zgm 485 (by decide +kernel) (by decide +kernel)
theorem zwc_X11_walk : Cond.code m_X11_walk.1 m_X11_walk.2.1 m_X11_walk.2.2.1 m_X11_walk.2.2.2.1 ∈ ztb := zgm 486 (by decide +kernel) (by decide +kernel)
theorem zw_487 : Cond.methodLink "PaidByCoast" 107 ⟨"PaidByCoast", "walkRefusal", "(II)I"⟩ ∈ ztb := zgm 487 (by decide +kernel) (by decide +kernel)
theorem zw_488 : Cond.static ⟨"PaidByCoast", "walkRefusal", "(II)I"⟩ ∈ ztb := zgm 488 (by decide +kernel) (by decide +kernel)
theorem zwc_X11_walkRefusal : Cond.code m_X11_walkRefusal.1 m_X11_walkRefusal.2.1 m_X11_walkRefusal.2.2.1 m_X11_walkRefusal.2.2.2.1 ∈ ztb := zgm 489 (by decide +kernel) (by decide +kernel)
theorem zw_490 : Cond.methodLink "PaidByCoast" 111 ⟨"PaidByCoast$Coast", "reachedFrom", "(JII)J"⟩ ∈ ztb := zgm 490 (by decide +kernel) (by decide +kernel)
theorem zw_491 : Cond.instanceMethod ⟨"PaidByCoast$Coast", "reachedFrom", "(JII)J"⟩ ∈ ztb := zgm 491 (by decide +kernel) (by decide +kernel)
theorem zw_492 : Cond.selects "PaidByCoast$Coast" ⟨"PaidByCoast$Coast", "reachedFrom", "(JII)J"⟩ ⟨"PaidByCoast$Coast", "reachedFrom", "(JII)J"⟩ ∈ ztb := zgm 492 (by decide +kernel) (by decide +kernel)
theorem zwc_X2_reachedFrom : Cond.code m_X2_reachedFrom.1 m_X2_reachedFrom.2.1 m_X2_reachedFrom.2.2.1 m_X2_reachedFrom.2.2.2.1 ∈ ztb := zgm 493 (by decide +kernel) (by decide +kernel)
theorem zw_494 : Cond.methodLinkNest "PaidByCoast$Coast" 96 ⟨"PaidByCoast", "holds", "(JI)Z"⟩ "PaidByCoast" ∈ ztbN := zgn 494 (by decide +kernel) rfl
theorem zw_495 : Cond.methodLink "PaidByCoast$Coast" 100 ⟨"PaidByCoast$Coast", "isRodApart", "(III)Z"⟩ ∈ ztb := zgm 495 (by decide +kernel) (by decide +kernel)
theorem zw_497 : Cond.instanceMethod ⟨"PaidByCoast$Coast", "isRodApart", "(III)Z"⟩ ∈ ztb := zgm 497 (by decide +kernel) (by decide +kernel)
theorem zwc_X2_isRodApart : Cond.code m_X2_isRodApart.1 m_X2_isRodApart.2.1 m_X2_isRodApart.2.2.1 m_X2_isRodApart.2.2.2.1 ∈ ztb := zgm 498 (by decide +kernel) (by decide +kernel)
theorem zw_499 : Cond.methodLink "PaidByCoast" 115 ⟨"PaidByCoast", "stepsOf", "(J)I"⟩ ∈ ztb := zgm 499 (by decide +kernel) (by decide +kernel)
theorem zw_500 : Cond.static ⟨"PaidByCoast", "stepsOf", "(J)I"⟩ ∈ ztb := zgm 500 (by decide +kernel) (by decide +kernel)
theorem zwc_X11_stepsOf : Cond.code m_X11_stepsOf.1 m_X11_stepsOf.2.1 m_X11_stepsOf.2.2.1 m_X11_stepsOf.2.2.2.1 ∈ ztb := zgm 501 (by decide +kernel) (by decide +kernel)
theorem zw_502 : Cond.methodLink "PaidByCoast" 206 ⟨"java/lang/Long", "bitCount", "(J)I"⟩ ∈ ztb := zgm 502 (by decide +kernel) (by decide +kernel)
theorem zw_503 : Cond.static ⟨"java/lang/Long", "bitCount", "(J)I"⟩ ∈ ztb := zgm 503 (by decide +kernel) (by decide +kernel)
theorem zwc_J13_bitCount_95d88 : Cond.code m_J13_bitCount_95d88.1 m_J13_bitCount_95d88.2.1 m_J13_bitCount_95d88.2.2.1 m_J13_bitCount_95d88.2.2.2.1 ∈ ztb := zgm 504 (by decide +kernel) (by decide +kernel)
theorem zw_505 : Cond.constantLong "java/lang/Long" 314 (6148914691236517205) ∈ ztb := zgm 505 (by decide +kernel) (by decide +kernel)
theorem zw_506 : Cond.constantLong "java/lang/Long" 316 (3689348814741910323) ∈ ztb := zgm 506 (by decide +kernel) (by decide +kernel)
theorem zw_507 : Cond.constantLong "java/lang/Long" 318 (1085102592571150095) ∈ ztb := zgm 507 (by decide +kernel) (by decide +kernel)
theorem zw_508 : Cond.methodLink "PaidByCoast" 140 ⟨"java/lang/Math", "max", "(II)I"⟩ ∈ ztb := zgm 508 (by decide +kernel) (by decide +kernel)
theorem zw_509 : Cond.static ⟨"java/lang/Math", "max", "(II)I"⟩ ∈ ztb := zgm 509 (by decide +kernel) (by decide +kernel)
theorem zwc_J9_max_7cf53 : Cond.code m_J9_max_7cf53.1 m_J9_max_7cf53.2.1 m_J9_max_7cf53.2.2.1 m_J9_max_7cf53.2.2.2.1 ∈ ztb := zgm 510 (by decide +kernel) (by decide +kernel)
theorem zw_511 : Cond.methodLink "PaidByCoast" 119 ⟨"PaidByCoast", "payOf", "(JI)I"⟩ ∈ ztb := zgm 511 (by decide +kernel) (by decide +kernel)
theorem zw_513 : Cond.instanceMethod ⟨"PaidByCoast", "payOf", "(JI)I"⟩ ∈ ztb := zgm 513 (by decide +kernel) (by decide +kernel)
theorem zwc_X11_payOf : Cond.code m_X11_payOf.1 m_X11_payOf.2.1 m_X11_payOf.2.2.1 m_X11_payOf.2.2.2.1 ∈ ztb := zgm 514 (by decide +kernel) (by decide +kernel)
theorem zw_515 : Cond.methodLink "PaidByCoast" 247 ⟨"PaidByCoast$Coast", "feesOf", "(J)I"⟩ ∈ ztb := zgm 515 (by decide +kernel) (by decide +kernel)
theorem zw_516 : Cond.instanceMethod ⟨"PaidByCoast$Coast", "feesOf", "(J)I"⟩ ∈ ztb := zgm 516 (by decide +kernel) (by decide +kernel)
theorem zw_517 : Cond.selects "PaidByCoast$Coast" ⟨"PaidByCoast$Coast", "feesOf", "(J)I"⟩ ⟨"PaidByCoast$Coast", "feesOf", "(J)I"⟩ ∈ ztb := zgm 517 (by decide +kernel) (by decide +kernel)
theorem zwc_X2_feesOf : Cond.code m_X2_feesOf.1 m_X2_feesOf.2.1 m_X2_feesOf.2.2.1 m_X2_feesOf.2.2.2.1 ∈ ztb := zgm 518 (by decide +kernel) (by decide +kernel)
theorem zw_519 : Cond.methodLink "PaidByCoast$Coast" 86 ⟨"PaidByCoast$Shore", "fee", "()I"⟩ ∈ ztb := zgm 519 (by decide +kernel) (by decide +kernel)
theorem zw_520 : Cond.methodLink "PaidByCoast$Coast" 90 ⟨"java/lang/Long", "bitCount", "(J)I"⟩ ∈ ztb := zgm 520 (by decide +kernel) (by decide +kernel)
theorem zw_521 : Cond.methodLink "PaidByCoast" 123 ⟨"PaidByCoast", "lastOf", "(J)I"⟩ ∈ ztb := zgm 521 (by decide +kernel) (by decide +kernel)
theorem zw_522 : Cond.static ⟨"PaidByCoast", "lastOf", "(J)I"⟩ ∈ ztb := zgm 522 (by decide +kernel) (by decide +kernel)
theorem zwc_X11_lastOf : Cond.code m_X11_lastOf.1 m_X11_lastOf.2.1 m_X11_lastOf.2.2.1 m_X11_lastOf.2.2.2.1 ∈ ztb := zgm 523 (by decide +kernel) (by decide +kernel)
theorem zw_524 : Cond.methodLink "PaidByCoast" 126 ⟨"PaidByCoast", "overOf", "(JJ)I"⟩ ∈ ztb := zgm 524 (by decide +kernel) (by decide +kernel)
theorem zw_525 : Cond.static ⟨"PaidByCoast", "overOf", "(JJ)I"⟩ ∈ ztb := zgm 525 (by decide +kernel) (by decide +kernel)
theorem zwc_X11_overOf : Cond.code m_X11_overOf.1 m_X11_overOf.2.1 m_X11_overOf.2.2.1 m_X11_overOf.2.2.2.1 ∈ ztb := zgm 526 (by decide +kernel) (by decide +kernel)
theorem zw_527 : Cond.methodLink "PaidByCoastLaw" 45 ⟨"PaidByCoast", "place", "(III)I"⟩ ∈ ztb := zgm 527 (by decide +kernel) (by decide +kernel)
theorem zw_528 : Cond.instanceMethod ⟨"PaidByCoast", "place", "(III)I"⟩ ∈ ztb := zgm 528 (by decide +kernel) (by decide +kernel)
theorem zw_529 : Cond.selects "PaidByCoast" ⟨"PaidByCoast", "place", "(III)I"⟩ ⟨"PaidByCoast", "place", "(III)I"⟩ ∈ ztb := zgm 529 (by decide +kernel) (by decide +kernel)
theorem zwc_X11_place : Cond.code m_X11_place.1 m_X11_place.2.1 m_X11_place.2.2.1 m_X11_place.2.2.2.1 ∈ ztb := zgm 530 (by decide +kernel) (by decide +kernel)
theorem zw_531 : Cond.methodLink "PaidByCoast" 130 ⟨"PaidByCoast", "memberOf", "(JI)I"⟩ ∈ ztb := zgm 531 (by decide +kernel) (by decide +kernel)
theorem zw_532 : Cond.static ⟨"PaidByCoast", "memberOf", "(JI)I"⟩ ∈ ztb := zgm 532 (by decide +kernel) (by decide +kernel)
theorem zwc_X11_memberOf : Cond.code m_X11_memberOf.1 m_X11_memberOf.2.1 m_X11_memberOf.2.2.1 m_X11_memberOf.2.2.2.1 ∈ ztb := zgm 533 (by decide +kernel) (by decide +kernel)
theorem zw_534 : Cond.methodLink "PaidByCoastLaw" 49 ⟨"PaidByCoast", "best", "(II)I"⟩ ∈ ztb := zgm 534 (by decide +kernel) (by decide +kernel)
theorem zw_535 : Cond.instanceMethod ⟨"PaidByCoast", "best", "(II)I"⟩ ∈ ztb := zgm 535 (by decide +kernel) (by decide +kernel)
theorem zw_536 : Cond.selects "PaidByCoast" ⟨"PaidByCoast", "best", "(II)I"⟩ ⟨"PaidByCoast", "best", "(II)I"⟩ ∈ ztb := zgm 536 (by decide +kernel) (by decide +kernel)
theorem zwc_X11_best : Cond.code m_X11_best.1 m_X11_best.2.1 m_X11_best.2.2.1 m_X11_best.2.2.2.1 ∈ ztb := zgm 537 (by decide +kernel) (by decide +kernel)
theorem zw_538 : Cond.methodLink "PaidByCoastLaw" 53 ⟨"PaidByCoast", "span", "(I)I"⟩ ∈ ztb := zgm 538 (by decide +kernel) (by decide +kernel)
theorem zw_539 : Cond.instanceMethod ⟨"PaidByCoast", "span", "(I)I"⟩ ∈ ztb := zgm 539 (by decide +kernel) (by decide +kernel)
theorem zw_540 : Cond.selects "PaidByCoast" ⟨"PaidByCoast", "span", "(I)I"⟩ ⟨"PaidByCoast", "span", "(I)I"⟩ ∈ ztb := zgm 540 (by decide +kernel) (by decide +kernel)
theorem zwc_X11_span : Cond.code m_X11_span.1 m_X11_span.2.1 m_X11_span.2.2.1 m_X11_span.2.2.2.1 ∈ ztb := zgm 541 (by decide +kernel) (by decide +kernel)
theorem zw_542 : Cond.methodLink "PaidByCoast" 133 ⟨"PaidByCoast", "rodRefusal", "(I)I"⟩ ∈ ztb := zgm 542 (by decide +kernel) (by decide +kernel)
theorem zw_543 : Cond.static ⟨"PaidByCoast", "rodRefusal", "(I)I"⟩ ∈ ztb := zgm 543 (by decide +kernel) (by decide +kernel)
theorem zwc_X11_rodRefusal : Cond.code m_X11_rodRefusal.1 m_X11_rodRefusal.2.1 m_X11_rodRefusal.2.2.1 m_X11_rodRefusal.2.2.2.1 ∈ ztb := zgm 544 (by decide +kernel) (by decide +kernel)
theorem zw_545 : Cond.methodLink "PaidByCoast" 136 ⟨"PaidByCoast$Coast", "milesOf", "(JII)I"⟩ ∈ ztb := zgm 545 (by decide +kernel) (by decide +kernel)
theorem zw_546 : Cond.instanceMethod ⟨"PaidByCoast$Coast", "milesOf", "(JII)I"⟩ ∈ ztb := zgm 546 (by decide +kernel) (by decide +kernel)
theorem zw_547 : Cond.selects "PaidByCoast$Coast" ⟨"PaidByCoast$Coast", "milesOf", "(JII)I"⟩ ⟨"PaidByCoast$Coast", "milesOf", "(JII)I"⟩ ∈ ztb := zgm 547 (by decide +kernel) (by decide +kernel)
theorem zwc_X2_milesOf : Cond.code m_X2_milesOf.1 m_X2_milesOf.2.1 m_X2_milesOf.2.2.1 m_X2_milesOf.2.2.2.1 ∈ ztb := zgm 548 (by decide +kernel) (by decide +kernel)
theorem zw_549 : Cond.methodLink "PaidByCoast$Coast" 104 ⟨"PaidByCoast$Coast", "reachedFrom", "(JII)J"⟩ ∈ ztb := zgm 549 (by decide +kernel) (by decide +kernel)
theorem zw_550 : Cond.methodLinkNest "PaidByCoast$Coast" 108 ⟨"PaidByCoast", "stepsOf", "(J)I"⟩ "PaidByCoast" ∈ ztbN := zgn 550 (by decide +kernel) rfl
theorem zw_551 : Cond.methodLink "PaidByCoast" 145 ⟨"java/lang/Math", "min", "(II)I"⟩ ∈ ztb := zgm 551 (by decide +kernel) (by decide +kernel)
theorem zw_552 : Cond.static ⟨"java/lang/Math", "min", "(II)I"⟩ ∈ ztb := zgm 552 (by decide +kernel) (by decide +kernel)
theorem zwc_J9_min_7cf53 : Cond.code m_J9_min_7cf53.1 m_J9_min_7cf53.2.1 m_J9_min_7cf53.2.2.1 m_J9_min_7cf53.2.2.2.1 ∈ ztb := zgm 553 (by decide +kernel) (by decide +kernel)
theorem zw_554 : Cond.methodLink "PaidByCoastLaw" 57 ⟨"PaidByCoast", "finer", "(I)I"⟩ ∈ ztb := zgm 554 (by decide +kernel) (by decide +kernel)
theorem zw_555 : Cond.instanceMethod ⟨"PaidByCoast", "finer", "(I)I"⟩ ∈ ztb := zgm 555 (by decide +kernel) (by decide +kernel)
theorem zw_556 : Cond.selects "PaidByCoast" ⟨"PaidByCoast", "finer", "(I)I"⟩ ⟨"PaidByCoast", "finer", "(I)I"⟩ ∈ ztb := zgm 556 (by decide +kernel) (by decide +kernel)
theorem zwc_X11_finer : Cond.code m_X11_finer.1 m_X11_finer.2.1 m_X11_finer.2.2.1 m_X11_finer.2.2.2.1 ∈ ztb := zgm 557 (by decide +kernel) (by decide +kernel)
theorem zw_558 : Cond.methodLink "PaidByCoastLaw" 61 ⟨"PaidByCoast", "two", "(III)I"⟩ ∈ ztb := zgm 558 (by decide +kernel) (by decide +kernel)
theorem zw_559 : Cond.instanceMethod ⟨"PaidByCoast", "two", "(III)I"⟩ ∈ ztb := zgm 559 (by decide +kernel) (by decide +kernel)
theorem zw_560 : Cond.selects "PaidByCoast" ⟨"PaidByCoast", "two", "(III)I"⟩ ⟨"PaidByCoast", "two", "(III)I"⟩ ∈ ztb := zgm 560 (by decide +kernel) (by decide +kernel)
theorem zwc_X11_two : Cond.code m_X11_two.1 m_X11_two.2.1 m_X11_two.2.2.1 m_X11_two.2.2.2.1 ∈ ztb := zgm 561 (by decide +kernel) (by decide +kernel)
theorem zw_562 : Cond.methodLink "PaidByCoast" 148 ⟨"PaidByCoast$Coast", "milesOfTwo", "(IIZ)I"⟩ ∈ ztb := zgm 562 (by decide +kernel) (by decide +kernel)
theorem zw_563 : Cond.instanceMethod ⟨"PaidByCoast$Coast", "milesOfTwo", "(IIZ)I"⟩ ∈ ztb := zgm 563 (by decide +kernel) (by decide +kernel)
theorem zw_564 : Cond.selects "PaidByCoast$Coast" ⟨"PaidByCoast$Coast", "milesOfTwo", "(IIZ)I"⟩ ⟨"PaidByCoast$Coast", "milesOfTwo", "(IIZ)I"⟩ ∈ ztb := zgm 564 (by decide +kernel) (by decide +kernel)
theorem zwc_X2_milesOfTwo : Cond.code m_X2_milesOfTwo.1 m_X2_milesOfTwo.2.1 m_X2_milesOfTwo.2.2.1 m_X2_milesOfTwo.2.2.2.1 ∈ ztb := zgm 565 (by decide +kernel) (by decide +kernel)
theorem zw_566 : Cond.methodLink "PaidByCoast$Coast" 111 ⟨"PaidByCoast$Coast", "shoreNow", "()J"⟩ ∈ ztb := zgm 566 (by decide +kernel) (by decide +kernel)
theorem zw_567 : Cond.methodLinkNest "PaidByCoast$Coast" 120 ⟨"PaidByCoast", "lastOf", "(J)I"⟩ "PaidByCoast" ∈ ztbN := zgn 567 (by decide +kernel) rfl
theorem zw_568 : Cond.methodLink "PaidByCoast$Coast" 123 ⟨"PaidByCoast$Coast", "stepFrom", "(JIII)I"⟩ ∈ ztb := zgm 568 (by decide +kernel) (by decide +kernel)
theorem zw_570 : Cond.instanceMethod ⟨"PaidByCoast$Coast", "stepFrom", "(JIII)I"⟩ ∈ ztb := zgm 570 (by decide +kernel) (by decide +kernel)
theorem zwc_X2_stepFrom : Cond.code m_X2_stepFrom.1 m_X2_stepFrom.2.1 m_X2_stepFrom.2.2.1 m_X2_stepFrom.2.2.2.1 ∈ ztb := zgm 571 (by decide +kernel) (by decide +kernel)
theorem zw_572 : Cond.methodLink "PaidByCoastLaw" 65 ⟨"PaidByCoast", "map", "(II)I"⟩ ∈ ztb := zgm 572 (by decide +kernel) (by decide +kernel)
theorem zw_573 : Cond.instanceMethod ⟨"PaidByCoast", "map", "(II)I"⟩ ∈ ztb := zgm 573 (by decide +kernel) (by decide +kernel)
theorem zw_574 : Cond.selects "PaidByCoast" ⟨"PaidByCoast", "map", "(II)I"⟩ ⟨"PaidByCoast", "map", "(II)I"⟩ ∈ ztb := zgm 574 (by decide +kernel) (by decide +kernel)
theorem zwc_X11_map : Cond.code m_X11_map.1 m_X11_map.2.1 m_X11_map.2.2.1 m_X11_map.2.2.2.1 ∈ ztb := zgm 575 (by decide +kernel) (by decide +kernel)
theorem zw_576 : Cond.methodLink "PaidByCoast" 152 ⟨"PaidByCoast$Coast", "shoreAt", "(I)J"⟩ ∈ ztb := zgm 576 (by decide +kernel) (by decide +kernel)
theorem zw_577 : Cond.methodLink "PaidByCoastLaw" 69 ⟨"PaidByCoast", "rock", "(II)I"⟩ ∈ ztb := zgm 577 (by decide +kernel) (by decide +kernel)
theorem zw_578 : Cond.instanceMethod ⟨"PaidByCoast", "rock", "(II)I"⟩ ∈ ztb := zgm 578 (by decide +kernel) (by decide +kernel)
theorem zw_579 : Cond.selects "PaidByCoast" ⟨"PaidByCoast", "rock", "(II)I"⟩ ⟨"PaidByCoast", "rock", "(II)I"⟩ ∈ ztb := zgm 579 (by decide +kernel) (by decide +kernel)
theorem zwc_X11_rock : Cond.code m_X11_rock.1 m_X11_rock.2.1 m_X11_rock.2.2.1 m_X11_rock.2.2.2.1 ∈ ztb := zgm 580 (by decide +kernel) (by decide +kernel)
theorem zw_581 : Cond.methodLink "PaidByCoast" 160 ⟨"PaidByCoast$Rocks", "rockAt", "(I)LPaidByCoast$Rock;"⟩ ∈ ztb := zgm 581 (by decide +kernel) (by decide +kernel)
theorem zw_582 : Cond.methodLink "PaidByCoast" 180 ⟨"PaidByCoast$Rock", "isIsland", "(I)Z"⟩ ∈ ztb := zgm 582 (by decide +kernel) (by decide +kernel)
theorem zw_583 : Cond.instanceMethod ⟨"PaidByCoast$Rock", "isIsland", "(I)Z"⟩ ∈ ztb := zgm 583 (by decide +kernel) (by decide +kernel)
theorem zw_584 : Cond.selects "PaidByCoast$Rock" ⟨"PaidByCoast$Rock", "isIsland", "(I)Z"⟩ ⟨"PaidByCoast$Rock", "isIsland", "(I)Z"⟩ ∈ ztb := zgm 584 (by decide +kernel) (by decide +kernel)
theorem zwc_X6_isIsland : Cond.code m_X6_isIsland.1 m_X6_isIsland.2.1 m_X6_isIsland.2.2.1 m_X6_isIsland.2.2.2.1 ∈ ztb := zgm 585 (by decide +kernel) (by decide +kernel)
theorem zw_586 : Cond.methodLink "PaidByCoastLaw" 73 ⟨"PaidByCoast", "islands", "()I"⟩ ∈ ztb := zgm 586 (by decide +kernel) (by decide +kernel)
theorem zw_587 : Cond.instanceMethod ⟨"PaidByCoast", "islands", "()I"⟩ ∈ ztb := zgm 587 (by decide +kernel) (by decide +kernel)
theorem zw_588 : Cond.selects "PaidByCoast" ⟨"PaidByCoast", "islands", "()I"⟩ ⟨"PaidByCoast", "islands", "()I"⟩ ∈ ztb := zgm 588 (by decide +kernel) (by decide +kernel)
theorem zwc_X11_islands : Cond.code m_X11_islands.1 m_X11_islands.2.1 m_X11_islands.2.2.1 m_X11_islands.2.2.2.1 ∈ ztb := zgm 589 (by decide +kernel) (by decide +kernel)
theorem zw_590 : Cond.methodLink "PaidByCoast" 183 ⟨"PaidByCoast$Rocks", "islandsAt", "(I)I"⟩ ∈ ztb := zgm 590 (by decide +kernel) (by decide +kernel)
theorem zw_591 : Cond.instanceMethod ⟨"PaidByCoast$Rocks", "islandsAt", "(I)I"⟩ ∈ ztb := zgm 591 (by decide +kernel) (by decide +kernel)
theorem zw_592 : Cond.selects "PaidByCoast$Rocks" ⟨"PaidByCoast$Rocks", "islandsAt", "(I)I"⟩ ⟨"PaidByCoast$Rocks", "islandsAt", "(I)I"⟩ ∈ ztb := zgm 592 (by decide +kernel) (by decide +kernel)
theorem zwc_X7_islandsAt : Cond.code m_X7_islandsAt.1 m_X7_islandsAt.2.1 m_X7_islandsAt.2.2.1 m_X7_islandsAt.2.2.2.1 ∈ ztb := zgm 593 (by decide +kernel) (by decide +kernel)
theorem zw_594 : Cond.methodLink "PaidByCoast$Rocks" 28 ⟨"PaidByCoast$Rock", "isIsland", "(I)Z"⟩ ∈ ztb := zgm 594 (by decide +kernel) (by decide +kernel)
theorem zw_595 : Cond.methodLink "PaidByCoastLaw" 77 ⟨"PaidByCoast", "hours", "(I)I"⟩ ∈ ztb := zgm 595 (by decide +kernel) (by decide +kernel)
theorem zw_596 : Cond.instanceMethod ⟨"PaidByCoast", "hours", "(I)I"⟩ ∈ ztb := zgm 596 (by decide +kernel) (by decide +kernel)
theorem zw_597 : Cond.selects "PaidByCoast" ⟨"PaidByCoast", "hours", "(I)I"⟩ ⟨"PaidByCoast", "hours", "(I)I"⟩ ∈ ztb := zgm 597 (by decide +kernel) (by decide +kernel)
theorem zwc_X11_hours : Cond.code m_X11_hours.1 m_X11_hours.2.1 m_X11_hours.2.2.1 m_X11_hours.2.2.2.1 ∈ ztb := zgm 598 (by decide +kernel) (by decide +kernel)
theorem zw_599 : Cond.methodLink "PaidByCoast" 186 ⟨"PaidByCoast$Rocks", "fewestHours", "()I"⟩ ∈ ztb := zgm 599 (by decide +kernel) (by decide +kernel)
theorem zw_600 : Cond.instanceMethod ⟨"PaidByCoast$Rocks", "fewestHours", "()I"⟩ ∈ ztb := zgm 600 (by decide +kernel) (by decide +kernel)
theorem zw_601 : Cond.selects "PaidByCoast$Rocks" ⟨"PaidByCoast$Rocks", "fewestHours", "()I"⟩ ⟨"PaidByCoast$Rocks", "fewestHours", "()I"⟩ ∈ ztb := zgm 601 (by decide +kernel) (by decide +kernel)
theorem zwc_X7_fewestHours : Cond.code m_X7_fewestHours.1 m_X7_fewestHours.2.1 m_X7_fewestHours.2.2.1 m_X7_fewestHours.2.2.2.1 ∈ ztb := zgm 602 (by decide +kernel) (by decide +kernel)
theorem zw_603 : Cond.methodLink "PaidByCoast$Rocks" 32 ⟨"java/lang/Integer", "bitCount", "(I)I"⟩ ∈ ztb := zgm 603 (by decide +kernel) (by decide +kernel)
theorem zw_604 : Cond.static ⟨"java/lang/Integer", "bitCount", "(I)I"⟩ ∈ ztb := zgm 604 (by decide +kernel) (by decide +kernel)
theorem zwc_J6_bitCount_0f7a4 : Cond.code m_J6_bitCount_0f7a4.1 m_J6_bitCount_0f7a4.2.1 m_J6_bitCount_0f7a4.2.2.1 m_J6_bitCount_0f7a4.2.2.2.1 ∈ ztb := zgm 605 (by decide +kernel) (by decide +kernel)
theorem zw_606 : Cond.constant "java/lang/Integer" 265 (1431655765) ∈ ztb := zgm 606 (by decide +kernel) (by decide +kernel)
theorem zw_607 : Cond.constant "java/lang/Integer" 266 (858993459) ∈ ztb := zgm 607 (by decide +kernel) (by decide +kernel)
theorem zw_608 : Cond.constant "java/lang/Integer" 267 (252645135) ∈ ztb := zgm 608 (by decide +kernel) (by decide +kernel)
theorem zw_609 : Cond.methodLink "PaidByCoast$Rocks" 38 ⟨"PaidByCoast$Rocks", "showsAll", "(I)Z"⟩ ∈ ztb := zgm 609 (by decide +kernel) (by decide +kernel)
theorem zw_611 : Cond.instanceMethod ⟨"PaidByCoast$Rocks", "showsAll", "(I)Z"⟩ ∈ ztb := zgm 611 (by decide +kernel) (by decide +kernel)
theorem zwc_X7_showsAll : Cond.code m_X7_showsAll.1 m_X7_showsAll.2.1 m_X7_showsAll.2.2.1 m_X7_showsAll.2.2.2.1 ∈ ztb := zgm 612 (by decide +kernel) (by decide +kernel)
theorem zw_613 : Cond.methodLink "PaidByCoast$Rocks" 41 ⟨"PaidByCoast$Rocks", "islandsAt", "(I)I"⟩ ∈ ztb := zgm 613 (by decide +kernel) (by decide +kernel)
theorem zw_614 : Cond.methodLink "PaidByCoast" 189 ⟨"java/lang/Integer", "bitCount", "(I)I"⟩ ∈ ztb := zgm 614 (by decide +kernel) (by decide +kernel)
theorem zw_615 : Cond.methodLink "PaidByCoastLaw" 81 ⟨"PaidByCoast", "boat", "()I"⟩ ∈ ztb := zgm 615 (by decide +kernel) (by decide +kernel)
theorem zw_616 : Cond.instanceMethod ⟨"PaidByCoast", "boat", "()I"⟩ ∈ ztb := zgm 616 (by decide +kernel) (by decide +kernel)
theorem zw_617 : Cond.selects "PaidByCoast" ⟨"PaidByCoast", "boat", "()I"⟩ ⟨"PaidByCoast", "boat", "()I"⟩ ∈ ztb := zgm 617 (by decide +kernel) (by decide +kernel)
theorem zwc_X11_boat : Cond.code m_X11_boat.1 m_X11_boat.2.1 m_X11_boat.2.2.1 m_X11_boat.2.2.2.1 ∈ ztb := zgm 618 (by decide +kernel) (by decide +kernel)
theorem zw_619 : Cond.methodLink "PaidByCoast" 194 ⟨"PaidByCoast$Boat", "roundTrip", "(LPaidByCoast$Rocks;I)I"⟩ ∈ ztb := zgm 619 (by decide +kernel) (by decide +kernel)
theorem zw_620 : Cond.instanceMethod ⟨"PaidByCoast$Boat", "roundTrip", "(LPaidByCoast$Rocks;I)I"⟩ ∈ ztb := zgm 620 (by decide +kernel) (by decide +kernel)
theorem zw_621 : Cond.selects "PaidByCoast$Boat" ⟨"PaidByCoast$Boat", "roundTrip", "(LPaidByCoast$Rocks;I)I"⟩ ⟨"PaidByCoast$Boat", "roundTrip", "(LPaidByCoast$Rocks;I)I"⟩ ∈ ztb := zgm 621 (by decide +kernel) (by decide +kernel)
theorem zwc_X0_roundTrip : Cond.code m_X0_roundTrip.1 m_X0_roundTrip.2.1 m_X0_roundTrip.2.2.1 m_X0_roundTrip.2.2.2.1 ∈ ztb := zgm 622 (by decide +kernel) (by decide +kernel)
theorem zw_623 : Cond.methodLink "PaidByCoast$Boat" 15 ⟨"PaidByCoast$Boat", "putWays", "(LPaidByCoast$Rocks;I)V"⟩ ∈ ztb := zgm 623 (by decide +kernel) (by decide +kernel)
theorem zw_625 : Cond.instanceMethod ⟨"PaidByCoast$Boat", "putWays", "(LPaidByCoast$Rocks;I)V"⟩ ∈ ztb := zgm 625 (by decide +kernel) (by decide +kernel)
theorem zwc_X0_putWays : Cond.code m_X0_putWays.1 m_X0_putWays.2.1 m_X0_putWays.2.2.1 m_X0_putWays.2.2.2.1 ∈ ztb := zgm 626 (by decide +kernel) (by decide +kernel)
theorem zw_627 : Cond.methodLink "PaidByCoast$Boat" 35 ⟨"PaidByCoast$Boat", "leastWay", "(LPaidByCoast$Rocks;II)I"⟩ ∈ ztb := zgm 627 (by decide +kernel) (by decide +kernel)
theorem zw_629 : Cond.instanceMethod ⟨"PaidByCoast$Boat", "leastWay", "(LPaidByCoast$Rocks;II)I"⟩ ∈ ztb := zgm 629 (by decide +kernel) (by decide +kernel)
theorem zwc_X0_leastWay : Cond.code m_X0_leastWay.1 m_X0_leastWay.2.1 m_X0_leastWay.2.2.1 m_X0_leastWay.2.2.2.1 ∈ ztb := zgm 630 (by decide +kernel) (by decide +kernel)
theorem zw_631 : Cond.constant "PaidByCoast$Boat" 19 (1000000) ∈ ztb := zgm 631 (by decide +kernel) (by decide +kernel)
theorem zw_632 : Cond.methodLink "PaidByCoast$Boat" 24 ⟨"PaidByCoast$Rocks", "yardsFromHome", "(I)I"⟩ ∈ ztb := zgm 632 (by decide +kernel) (by decide +kernel)
theorem zw_633 : Cond.instanceMethod ⟨"PaidByCoast$Rocks", "yardsFromHome", "(I)I"⟩ ∈ ztb := zgm 633 (by decide +kernel) (by decide +kernel)
theorem zw_634 : Cond.selects "PaidByCoast$Rocks" ⟨"PaidByCoast$Rocks", "yardsFromHome", "(I)I"⟩ ⟨"PaidByCoast$Rocks", "yardsFromHome", "(I)I"⟩ ∈ ztb := zgm 634 (by decide +kernel) (by decide +kernel)
theorem zwc_X7_yardsFromHome : Cond.code m_X7_yardsFromHome.1 m_X7_yardsFromHome.2.1 m_X7_yardsFromHome.2.2.1 m_X7_yardsFromHome.2.2.2.1 ∈ ztb := zgm 635 (by decide +kernel) (by decide +kernel)
theorem zw_636 : Cond.methodLink "PaidByCoast$Boat" 20 ⟨"PaidByCoast$Boat", "wayBy", "(II)I"⟩ ∈ ztb := zgm 636 (by decide +kernel) (by decide +kernel)
theorem zw_638 : Cond.instanceMethod ⟨"PaidByCoast$Boat", "wayBy", "(II)I"⟩ ∈ ztb := zgm 638 (by decide +kernel) (by decide +kernel)
theorem zwc_X0_wayBy : Cond.code m_X0_wayBy.1 m_X0_wayBy.2.1 m_X0_wayBy.2.2.1 m_X0_wayBy.2.2.2.1 ∈ ztb := zgm 639 (by decide +kernel) (by decide +kernel)
theorem zw_640 : Cond.methodLink "PaidByCoast$Boat" 39 ⟨"PaidByCoast$Rocks", "yardsBetween", "(II)I"⟩ ∈ ztb := zgm 640 (by decide +kernel) (by decide +kernel)
theorem zw_641 : Cond.instanceMethod ⟨"PaidByCoast$Rocks", "yardsBetween", "(II)I"⟩ ∈ ztb := zgm 641 (by decide +kernel) (by decide +kernel)
theorem zw_642 : Cond.selects "PaidByCoast$Rocks" ⟨"PaidByCoast$Rocks", "yardsBetween", "(II)I"⟩ ⟨"PaidByCoast$Rocks", "yardsBetween", "(II)I"⟩ ∈ ztb := zgm 642 (by decide +kernel) (by decide +kernel)
theorem zwc_X7_yardsBetween : Cond.code m_X7_yardsBetween.1 m_X7_yardsBetween.2.1 m_X7_yardsBetween.2.2.1 m_X7_yardsBetween.2.2.2.1 ∈ ztb := zgm 643 (by decide +kernel) (by decide +kernel)
theorem zw_644 : Cond.methodLink "PaidByCoast$Rocks" 50 ⟨"java/lang/Math", "abs", "(I)I"⟩ ∈ ztb := zgm 644 (by decide +kernel) (by decide +kernel)
theorem zw_645 : Cond.static ⟨"java/lang/Math", "abs", "(I)I"⟩ ∈ ztb := zgm 645 (by decide +kernel) (by decide +kernel)
theorem zwc_J9_abs_0f7a4 : Cond.code m_J9_abs_0f7a4.1 m_J9_abs_0f7a4.2.1 m_J9_abs_0f7a4.2.2.1 m_J9_abs_0f7a4.2.2.2.1 ∈ ztb := zgm 646 (by decide +kernel) (by decide +kernel)
theorem zw_647 : Cond.methodLink "PaidByCoast$Boat" 30 ⟨"java/lang/Math", "min", "(II)I"⟩ ∈ ztb := zgm 647 (by decide +kernel) (by decide +kernel)
theorem zw_648 : Cond.methodLink "PaidByCoastLaw" 85 ⟨"PaidByCoast", "cut", "(II)I"⟩ ∈ ztb := zgm 648 (by decide +kernel) (by decide +kernel)
theorem zw_649 : Cond.instanceMethod ⟨"PaidByCoast", "cut", "(II)I"⟩ ∈ ztb := zgm 649 (by decide +kernel) (by decide +kernel)
theorem zw_650 : Cond.selects "PaidByCoast" ⟨"PaidByCoast", "cut", "(II)I"⟩ ⟨"PaidByCoast", "cut", "(II)I"⟩ ∈ ztb := zgm 650 (by decide +kernel) (by decide +kernel)
theorem zwc_X11_cut : Cond.code m_X11_cut.1 m_X11_cut.2.1 m_X11_cut.2.2.1 m_X11_cut.2.2.2.1 ∈ ztb := zgm 651 (by decide +kernel) (by decide +kernel)
theorem zw_652 : Cond.methodLink "PaidByCoast" 198 ⟨"PaidByCoast$Coast", "milesWithout", "(LPaidByCoast$Shore;I)I"⟩ ∈ ztb := zgm 652 (by decide +kernel) (by decide +kernel)
theorem zw_653 : Cond.instanceMethod ⟨"PaidByCoast$Coast", "milesWithout", "(LPaidByCoast$Shore;I)I"⟩ ∈ ztb := zgm 653 (by decide +kernel) (by decide +kernel)
theorem zw_654 : Cond.selects "PaidByCoast$Coast" ⟨"PaidByCoast$Coast", "milesWithout", "(LPaidByCoast$Shore;I)I"⟩ ⟨"PaidByCoast$Coast", "milesWithout", "(LPaidByCoast$Shore;I)I"⟩ ∈ ztb := zgm 654 (by decide +kernel) (by decide +kernel)
theorem zwc_X2_milesWithout : Cond.code m_X2_milesWithout.1 m_X2_milesWithout.2.1 m_X2_milesWithout.2.2.1 m_X2_milesWithout.2.2.2.1 ∈ ztb := zgm 655 (by decide +kernel) (by decide +kernel)
theorem zw_656 : Cond.constantLong "PaidByCoast$Coast" 114 (-1) ∈ ztb := zgm 656 (by decide +kernel) (by decide +kernel)
theorem zw_657 : Cond.methodLink "PaidByCoast$Coast" 116 ⟨"PaidByCoast$Coast", "milesOf", "(JII)I"⟩ ∈ ztb := zgm 657 (by decide +kernel) (by decide +kernel)
theorem zw_658 : Cond.methodLink "PaidByCoastLaw" 89 ⟨"PaidByCoast", "worstCut", "(I)I"⟩ ∈ ztb := zgm 658 (by decide +kernel) (by decide +kernel)
theorem zw_659 : Cond.instanceMethod ⟨"PaidByCoast", "worstCut", "(I)I"⟩ ∈ ztb := zgm 659 (by decide +kernel) (by decide +kernel)
theorem zw_660 : Cond.selects "PaidByCoast" ⟨"PaidByCoast", "worstCut", "(I)I"⟩ ⟨"PaidByCoast", "worstCut", "(I)I"⟩ ∈ ztb := zgm 660 (by decide +kernel) (by decide +kernel)
theorem zwc_X11_worstCut : Cond.code m_X11_worstCut.1 m_X11_worstCut.2.1 m_X11_worstCut.2.2.1 m_X11_worstCut.2.2.2.1 ∈ ztb := zgm 661 (by decide +kernel) (by decide +kernel)
theorem zw_662 : Cond.methodLink "PaidByCoastLaw" 93 ⟨"PaidByCoast", "copy", "(II)I"⟩ ∈ ztb := zgm 662 (by decide +kernel) (by decide +kernel)
theorem zw_663 : Cond.instanceMethod ⟨"PaidByCoast", "copy", "(II)I"⟩ ∈ ztb := zgm 663 (by decide +kernel) (by decide +kernel)
theorem zw_664 : Cond.selects "PaidByCoast" ⟨"PaidByCoast", "copy", "(II)I"⟩ ⟨"PaidByCoast", "copy", "(II)I"⟩ ∈ ztb := zgm 664 (by decide +kernel) (by decide +kernel)
theorem zwc_X11_copy : Cond.code m_X11_copy.1 m_X11_copy.2.1 m_X11_copy.2.2.1 m_X11_copy.2.2.2.1 ∈ ztb := zgm 665 (by decide +kernel) (by decide +kernel)
theorem zw_666 : Cond.methodLink "PaidByCoast" 202 ⟨"PaidByCoast", "eachOf", "(JI)J"⟩ ∈ ztb := zgm 666 (by decide +kernel) (by decide +kernel)
theorem zw_667 : Cond.static ⟨"PaidByCoast", "eachOf", "(JI)J"⟩ ∈ ztb := zgm 667 (by decide +kernel) (by decide +kernel)
theorem zwc_X11_eachOf : Cond.code m_X11_eachOf.1 m_X11_eachOf.2.1 m_X11_eachOf.2.2.1 m_X11_eachOf.2.2.2.1 ∈ ztb := zgm 668 (by decide +kernel) (by decide +kernel)
theorem zw_669 : Cond.methodLink "PaidByCoastLaw" 97 ⟨"PaidByCoast", "sure", "(I)I"⟩ ∈ ztb := zgm 669 (by decide +kernel) (by decide +kernel)
theorem zw_670 : Cond.instanceMethod ⟨"PaidByCoast", "sure", "(I)I"⟩ ∈ ztb := zgm 670 (by decide +kernel) (by decide +kernel)
theorem zw_671 : Cond.selects "PaidByCoast" ⟨"PaidByCoast", "sure", "(I)I"⟩ ⟨"PaidByCoast", "sure", "(I)I"⟩ ∈ ztb := zgm 671 (by decide +kernel) (by decide +kernel)
theorem zwc_X11_sure : Cond.code m_X11_sure.1 m_X11_sure.2.1 m_X11_sure.2.2.1 m_X11_sure.2.2.2.1 ∈ ztb := zgm 672 (by decide +kernel) (by decide +kernel)
theorem zw_673 : Cond.methodLink "PaidByCoastLaw" 101 ⟨"PaidByCoast", "row", "(I)I"⟩ ∈ ztb := zgm 673 (by decide +kernel) (by decide +kernel)
theorem zw_674 : Cond.instanceMethod ⟨"PaidByCoast", "row", "(I)I"⟩ ∈ ztb := zgm 674 (by decide +kernel) (by decide +kernel)
theorem zw_675 : Cond.selects "PaidByCoast" ⟨"PaidByCoast", "row", "(I)I"⟩ ⟨"PaidByCoast", "row", "(I)I"⟩ ∈ ztb := zgm 675 (by decide +kernel) (by decide +kernel)
theorem zwc_X11_row : Cond.code m_X11_row.1 m_X11_row.2.1 m_X11_row.2.2.1 m_X11_row.2.2.2.1 ∈ ztb := zgm 676 (by decide +kernel) (by decide +kernel)
theorem zw_677 : Cond.methodLink "PaidByCoastLaw" 105 ⟨"PaidByCoast", "judge", "(II)I"⟩ ∈ ztb := zgm 677 (by decide +kernel) (by decide +kernel)
theorem zw_678 : Cond.instanceMethod ⟨"PaidByCoast", "judge", "(II)I"⟩ ∈ ztb := zgm 678 (by decide +kernel) (by decide +kernel)
theorem zw_679 : Cond.selects "PaidByCoast" ⟨"PaidByCoast", "judge", "(II)I"⟩ ⟨"PaidByCoast", "judge", "(II)I"⟩ ∈ ztb := zgm 679 (by decide +kernel) (by decide +kernel)
theorem zwc_X11_judge : Cond.code m_X11_judge.1 m_X11_judge.2.1 m_X11_judge.2.2.1 m_X11_judge.2.2.2.1 ∈ ztb := zgm 680 (by decide +kernel) (by decide +kernel)
theorem zw_681 : Cond.methodLink "PaidByCoastLaw" 109 ⟨"PaidByCoast", "seeds", "(II)I"⟩ ∈ ztb := zgm 681 (by decide +kernel) (by decide +kernel)
theorem zw_682 : Cond.instanceMethod ⟨"PaidByCoast", "seeds", "(II)I"⟩ ∈ ztb := zgm 682 (by decide +kernel) (by decide +kernel)
theorem zw_683 : Cond.selects "PaidByCoast" ⟨"PaidByCoast", "seeds", "(II)I"⟩ ⟨"PaidByCoast", "seeds", "(II)I"⟩ ∈ ztb := zgm 683 (by decide +kernel) (by decide +kernel)
theorem zwc_X11_seeds : Cond.code m_X11_seeds.1 m_X11_seeds.2.1 m_X11_seeds.2.2.1 m_X11_seeds.2.2.2.1 ∈ ztb := zgm 684 (by decide +kernel) (by decide +kernel)
theorem zw_685 : Cond.methodLink "PaidByCoast" 213 ⟨"PaidByCoast", "nextState", "(I)I"⟩ ∈ ztb := zgm 685 (by decide +kernel) (by decide +kernel)
theorem zw_686 : Cond.static ⟨"PaidByCoast", "nextState", "(I)I"⟩ ∈ ztb := zgm 686 (by decide +kernel) (by decide +kernel)
theorem zwc_X11_nextState : Cond.code m_X11_nextState.1 m_X11_nextState.2.1 m_X11_nextState.2.2.1 m_X11_nextState.2.2.2.1 ∈ ztb := zgm 687 (by decide +kernel) (by decide +kernel)
theorem zw_688 : Cond.constant "PaidByCoast" 250 (1103515245) ∈ ztb := zgm 688 (by decide +kernel) (by decide +kernel)
theorem zw_689 : Cond.methodLink "PaidByCoast" 216 ⟨"PaidByCoast", "drawBelow", "(II)I"⟩ ∈ ztb := zgm 689 (by decide +kernel) (by decide +kernel)
theorem zw_690 : Cond.static ⟨"PaidByCoast", "drawBelow", "(II)I"⟩ ∈ ztb := zgm 690 (by decide +kernel) (by decide +kernel)
theorem zwc_X11_drawBelow : Cond.code m_X11_drawBelow.1 m_X11_drawBelow.2.1 m_X11_drawBelow.2.2.1 m_X11_drawBelow.2.2.2.1 ∈ ztb := zgm 691 (by decide +kernel) (by decide +kernel)
theorem zw_692 : Cond.constant "PaidByCoast" 251 (2147483647) ∈ ztb := zgm 692 (by decide +kernel) (by decide +kernel)
theorem zw_693 : Cond.methodLink "PaidByCoastLaw" 113 ⟨"PaidByCoast", "image", "()I"⟩ ∈ ztb := zgm 693 (by decide +kernel) (by decide +kernel)
theorem zw_694 : Cond.instanceMethod ⟨"PaidByCoast", "image", "()I"⟩ ∈ ztb := zgm 694 (by decide +kernel) (by decide +kernel)
theorem zw_695 : Cond.selects "PaidByCoast" ⟨"PaidByCoast", "image", "()I"⟩ ⟨"PaidByCoast", "image", "()I"⟩ ∈ ztb := zgm 695 (by decide +kernel) (by decide +kernel)
theorem zwc_X11_image : Cond.code m_X11_image.1 m_X11_image.2.1 m_X11_image.2.2.1 m_X11_image.2.2.2.1 ∈ ztb := zgm 696 (by decide +kernel) (by decide +kernel)
theorem zw_697 : Cond.methodLink "PaidByCoastLaw" 117 ⟨"PaidByCoast", "restore", "()I"⟩ ∈ ztb := zgm 697 (by decide +kernel) (by decide +kernel)
theorem zw_698 : Cond.instanceMethod ⟨"PaidByCoast", "restore", "()I"⟩ ∈ ztb := zgm 698 (by decide +kernel) (by decide +kernel)
theorem zw_699 : Cond.selects "PaidByCoast" ⟨"PaidByCoast", "restore", "()I"⟩ ⟨"PaidByCoast", "restore", "()I"⟩ ∈ ztb := zgm 699 (by decide +kernel) (by decide +kernel)
theorem zwc_X11_restore : Cond.code m_X11_restore.1 m_X11_restore.2.1 m_X11_restore.2.2.1 m_X11_restore.2.2.2.1 ∈ ztb := zgm 700 (by decide +kernel) (by decide +kernel)
theorem zw_701 : Cond.methodLink "PaidByCoastLaw" 121 ⟨"PaidByCoast", "count", "(I)I"⟩ ∈ ztb := zgm 701 (by decide +kernel) (by decide +kernel)
theorem zw_702 : Cond.instanceMethod ⟨"PaidByCoast", "count", "(I)I"⟩ ∈ ztb := zgm 702 (by decide +kernel) (by decide +kernel)
theorem zw_703 : Cond.selects "PaidByCoast" ⟨"PaidByCoast", "count", "(I)I"⟩ ⟨"PaidByCoast", "count", "(I)I"⟩ ∈ ztb := zgm 703 (by decide +kernel) (by decide +kernel)
theorem zwc_X11_count : Cond.code m_X11_count.1 m_X11_count.2.1 m_X11_count.2.2.1 m_X11_count.2.2.2.1 ∈ ztb := zgm 704 (by decide +kernel) (by decide +kernel)
theorem zw_705 : Cond.methodLink "PaidByCoast" 234 ⟨"PaidByCoast$Coast", "feesOfStretches", "()I"⟩ ∈ ztb := zgm 705 (by decide +kernel) (by decide +kernel)
theorem zw_706 : Cond.instanceMethod ⟨"PaidByCoast$Coast", "feesOfStretches", "()I"⟩ ∈ ztb := zgm 706 (by decide +kernel) (by decide +kernel)
theorem zw_707 : Cond.selects "PaidByCoast$Coast" ⟨"PaidByCoast$Coast", "feesOfStretches", "()I"⟩ ⟨"PaidByCoast$Coast", "feesOfStretches", "()I"⟩ ∈ ztb := zgm 707 (by decide +kernel) (by decide +kernel)
theorem zwc_X2_feesOfStretches : Cond.code m_X2_feesOfStretches.1 m_X2_feesOfStretches.2.1 m_X2_feesOfStretches.2.2.1 m_X2_feesOfStretches.2.2.2.1 ∈ ztb := zgm 708 (by decide +kernel) (by decide +kernel)
theorem zw_709 : Cond.methodLink "PaidByCoast" 237 ⟨"PaidByCoast", "refusalsOf", "(I)I"⟩ ∈ ztb := zgm 709 (by decide +kernel) (by decide +kernel)
theorem zw_711 : Cond.instanceMethod ⟨"PaidByCoast", "refusalsOf", "(I)I"⟩ ∈ ztb := zgm 711 (by decide +kernel) (by decide +kernel)
theorem zwc_X11_refusalsOf : Cond.code m_X11_refusalsOf.1 m_X11_refusalsOf.2.1 m_X11_refusalsOf.2.2.1 m_X11_refusalsOf.2.2.2.1 ∈ ztb := zgm 712 (by decide +kernel) (by decide +kernel)
theorem zw_713 : Cond.classLink "PaidByCoastLaw" 10 "PaidByCoastModel" ∈ ztb := zgm 713 (by decide +kernel) (by decide +kernel)
theorem zw_714 : Cond.instantiable "PaidByCoastModel" 37 ∈ ztb := zgm 714 (by decide +kernel) (by decide +kernel)
theorem zw_715 : Cond.methodLink "PaidByCoastLaw" 12 ⟨"PaidByCoastModel", "<init>", "()V"⟩ ∈ ztb := zgm 715 (by decide +kernel) (by decide +kernel)
theorem zw_716 : Cond.instanceMethod ⟨"PaidByCoastModel", "<init>", "()V"⟩ ∈ ztb := zgm 716 (by decide +kernel) (by decide +kernel)
theorem zwc_X12_init : Cond.code m_X12_init.1 m_X12_init.2.1 m_X12_init.2.2.1 m_X12_init.2.2.2.1 ∈ ztb := zgm 717 (by decide +kernel) (by decide +kernel)
theorem zw_718 : Cond.methodLink "PaidByCoastModel" 1 ⟨"java/lang/Object", "<init>", "()V"⟩ ∈ ztb := zgm 718 (by decide +kernel) (by decide +kernel)
theorem zw_719 : Cond.fieldLink "PaidByCoastModel" 7 "PaidByCoastModel" "refused" "[I" ∈ ztb := zgm 719 (by decide +kernel) (by decide +kernel)
theorem zw_720 : Cond.fieldLink "PaidByCoastModel" 13 "PaidByCoastModel" "kind" "[I" ∈ ztb := zgm 720 (by decide +kernel) (by decide +kernel)
theorem zw_721 : Cond.fieldLink "PaidByCoastModel" 16 "PaidByCoastModel" "figure" "[I" ∈ ztb := zgm 721 (by decide +kernel) (by decide +kernel)
theorem zw_722 : Cond.fieldLink "PaidByCoastModel" 19 "PaidByCoastModel" "firstYard" "[I" ∈ ztb := zgm 722 (by decide +kernel) (by decide +kernel)
theorem zw_723 : Cond.fieldLink "PaidByCoastModel" 22 "PaidByCoastModel" "yardsOf" "[I" ∈ ztb := zgm 723 (by decide +kernel) (by decide +kernel)
theorem zw_724 : Cond.fieldLink "PaidByCoastModel" 25 "PaidByCoastModel" "x" "[I" ∈ ztb := zgm 724 (by decide +kernel) (by decide +kernel)
theorem zw_725 : Cond.fieldLink "PaidByCoastModel" 28 "PaidByCoastModel" "y" "[I" ∈ ztb := zgm 725 (by decide +kernel) (by decide +kernel)
theorem zw_726 : Cond.fieldLink "PaidByCoastModel" 31 "PaidByCoastModel" "stretchOf" "[I" ∈ ztb := zgm 726 (by decide +kernel) (by decide +kernel)
theorem zw_727 : Cond.fieldLink "PaidByCoastModel" 34 "PaidByCoastModel" "rockX" "[I" ∈ ztb := zgm 727 (by decide +kernel) (by decide +kernel)
theorem zw_728 : Cond.fieldLink "PaidByCoastModel" 37 "PaidByCoastModel" "rockY" "[I" ∈ ztb := zgm 728 (by decide +kernel) (by decide +kernel)
theorem zw_729 : Cond.fieldLink "PaidByCoastModel" 40 "PaidByCoastModel" "low" "[I" ∈ ztb := zgm 729 (by decide +kernel) (by decide +kernel)
theorem zw_730 : Cond.fieldLink "PaidByCoastModel" 43 "PaidByCoastModel" "high" "[I" ∈ ztb := zgm 730 (by decide +kernel) (by decide +kernel)
theorem zw_731 : Cond.fieldLink "PaidByCoastModel" 114 "PaidByCoastModel" "stretches" "I" ∈ ztb := zgm 731 (by decide +kernel) (by decide +kernel)
theorem zw_732 : Cond.fieldLink "PaidByCoastModel" 117 "PaidByCoastModel" "yards" "I" ∈ ztb := zgm 732 (by decide +kernel) (by decide +kernel)
theorem zw_733 : Cond.fieldLink "PaidByCoastModel" 120 "PaidByCoastModel" "rocks" "I" ∈ ztb := zgm 733 (by decide +kernel) (by decide +kernel)
theorem zw_734 : Cond.fieldLink "PaidByCoastModel" 129 "PaidByCoastModel" "tide" "I" ∈ ztb := zgm 734 (by decide +kernel) (by decide +kernel)
theorem zw_735 : Cond.fieldLink "PaidByCoastModel" 46 "PaidByCoastModel" "tape" "[I" ∈ ztb := zgm 735 (by decide +kernel) (by decide +kernel)
theorem zw_736 : Cond.fieldLink "PaidByCoastModel" 49 "PaidByCoastModel" "letter" "[I" ∈ ztb := zgm 736 (by decide +kernel) (by decide +kernel)
theorem zw_737 : Cond.fieldLink "PaidByCoastModel" 52 "PaidByCoastModel" "letterAt" "[I" ∈ ztb := zgm 737 (by decide +kernel) (by decide +kernel)
theorem zw_738 : Cond.fieldLink "PaidByCoastModel" 55 "PaidByCoastModel" "number" "[I" ∈ ztb := zgm 738 (by decide +kernel) (by decide +kernel)
theorem zw_739 : Cond.fieldLink "PaidByCoastModel" 81 "PaidByCoastModel" "taped" "I" ∈ ztb := zgm 739 (by decide +kernel) (by decide +kernel)
theorem zw_740 : Cond.fieldLink "PaidByCoastModel" 89 "PaidByCoastModel" "at" "I" ∈ ztb := zgm 740 (by decide +kernel) (by decide +kernel)
theorem zw_741 : Cond.fieldLink "PaidByCoastModel" 107 "PaidByCoastModel" "statements" "I" ∈ ztb := zgm 741 (by decide +kernel) (by decide +kernel)
theorem zw_742 : Cond.fieldLink "PaidByCoastModel" 58 "PaidByCoastModel" "kept" "[I" ∈ ztb := zgm 742 (by decide +kernel) (by decide +kernel)
theorem zw_743 : Cond.fieldLink "PaidByCoastModel" 157 "PaidByCoastModel" "hasImage" "Z" ∈ ztb := zgm 743 (by decide +kernel) (by decide +kernel)
theorem zw_744 : Cond.fieldLink "PaidByCoastModel" 143 "PaidByCoastModel" "isKeeping" "Z" ∈ ztb := zgm 744 (by decide +kernel) (by decide +kernel)
theorem zw_745 : Cond.fieldLink "PaidByCoastModel" 147 "PaidByCoastModel" "cursor" "I" ∈ ztb := zgm 745 (by decide +kernel) (by decide +kernel)
theorem zw_746 : Cond.fieldLink "PaidByCoastModel" 61 "PaidByCoastModel" "shore" "[I" ∈ ztb := zgm 746 (by decide +kernel) (by decide +kernel)
theorem zw_747 : Cond.fieldLink "PaidByCoastModel" 64 "PaidByCoastModel" "walked" "[I" ∈ ztb := zgm 747 (by decide +kernel) (by decide +kernel)
theorem zw_748 : Cond.fieldLink "PaidByCoastModel" 175 "PaidByCoastModel" "shoreMany" "I" ∈ ztb := zgm 748 (by decide +kernel) (by decide +kernel)
theorem zw_749 : Cond.fieldLink "PaidByCoastModel" 178 "PaidByCoastModel" "walkedMany" "I" ∈ ztb := zgm 749 (by decide +kernel) (by decide +kernel)
theorem zw_750 : Cond.fieldLink "PaidByCoastModel" 67 "PaidByCoastModel" "order" "[I" ∈ ztb := zgm 750 (by decide +kernel) (by decide +kernel)
theorem zw_751 : Cond.fieldLink "PaidByCoastModel" 216 "PaidByCoastModel" "orderMany" "I" ∈ ztb := zgm 751 (by decide +kernel) (by decide +kernel)
theorem zw_752 : Cond.fieldLink "PaidByCoastModel" 70 "PaidByCoastModel" "reached" "[I" ∈ ztb := zgm 752 (by decide +kernel) (by decide +kernel)
theorem zw_753 : Cond.fieldLink "PaidByCoastModel" 73 "PaidByCoastModel" "row" "[I" ∈ ztb := zgm 753 (by decide +kernel) (by decide +kernel)
theorem zw_754 : Cond.fieldLink "PaidByCoastModel" 234 "PaidByCoastModel" "rowMany" "I" ∈ ztb := zgm 754 (by decide +kernel) (by decide +kernel)
theorem zw_755 : Cond.fieldLink "PaidByCoastModel" 237 "PaidByCoastModel" "lots" "I" ∈ ztb := zgm 755 (by decide +kernel) (by decide +kernel)
theorem zw_830 : Cond.superclass "PaidByCoastModel" "java/lang/Object" ∈ ztb := zgm 830 (by decide +kernel) (by decide +kernel)
theorem zw_831 : Cond.methodLink "PaidByCoastLaw" 17 ⟨"PaidByCoastModel", "feed", "(I)I"⟩ ∈ ztb := zgm 831 (by decide +kernel) (by decide +kernel)
theorem zw_832 : Cond.instanceMethod ⟨"PaidByCoastModel", "feed", "(I)I"⟩ ∈ ztb := zgm 832 (by decide +kernel) (by decide +kernel)
theorem zw_833 : Cond.selects "PaidByCoastModel" ⟨"PaidByCoastModel", "feed", "(I)I"⟩ ⟨"PaidByCoastModel", "feed", "(I)I"⟩ ∈ ztb := zgm 833 (by decide +kernel) (by decide +kernel)
theorem zwc_X12_feed : Cond.code m_X12_feed.1 m_X12_feed.2.1 m_X12_feed.2.2.1 m_X12_feed.2.2.2.1 ∈ ztb := zgm 834 (by decide +kernel) (by decide +kernel)
theorem zw_835 : Cond.methodLink "PaidByCoastModel" 77 ⟨"PaidByCoastModel", "bound", "(III)I"⟩ ∈ ztb := zgm 835 (by decide +kernel) (by decide +kernel)
theorem zw_836 : Cond.static ⟨"PaidByCoastModel", "bound", "(III)I"⟩ ∈ ztb := zgm 836 (by decide +kernel) (by decide +kernel)
theorem zwc_X12_bound : Cond.code m_X12_bound.1 m_X12_bound.2.1 m_X12_bound.2.2.1 m_X12_bound.2.2.2.1 ∈ ztb := zgm 837 (by decide +kernel) (by decide +kernel)
theorem zw_838 : Cond.methodLink "PaidByCoastModel" 85 ⟨"PaidByCoastModel", "no", "(I)I"⟩ ∈ ztb := zgm 838 (by decide +kernel) (by decide +kernel)
theorem zw_840 : Cond.instanceMethod ⟨"PaidByCoastModel", "no", "(I)I"⟩ ∈ ztb := zgm 840 (by decide +kernel) (by decide +kernel)
theorem zwc_X12_no : Cond.code m_X12_no.1 m_X12_no.2.1 m_X12_no.2.2.1 m_X12_no.2.2.2.1 ∈ ztb := zgm 841 (by decide +kernel) (by decide +kernel)
theorem zw_842 : Cond.methodLink "PaidByCoastLaw" 22 ⟨"PaidByCoastModel", "coast", "()I"⟩ ∈ ztb := zgm 842 (by decide +kernel) (by decide +kernel)
theorem zw_843 : Cond.instanceMethod ⟨"PaidByCoastModel", "coast", "()I"⟩ ∈ ztb := zgm 843 (by decide +kernel) (by decide +kernel)
theorem zw_844 : Cond.selects "PaidByCoastModel" ⟨"PaidByCoastModel", "coast", "()I"⟩ ⟨"PaidByCoastModel", "coast", "()I"⟩ ∈ ztb := zgm 844 (by decide +kernel) (by decide +kernel)
theorem zwc_X12_coast : Cond.code m_X12_coast.1 m_X12_coast.2.1 m_X12_coast.2.2.1 m_X12_coast.2.2.2.1 ∈ ztb := zgm 845 (by decide +kernel) (by decide +kernel)
theorem zw_846 : Cond.methodLink "PaidByCoastModel" 132 ⟨"PaidByCoastModel", "statement", "()Z"⟩ ∈ ztb := zgm 846 (by decide +kernel) (by decide +kernel)
theorem zw_848 : Cond.instanceMethod ⟨"PaidByCoastModel", "statement", "()Z"⟩ ∈ ztb := zgm 848 (by decide +kernel) (by decide +kernel)
theorem zwc_X12_statement : Cond.code m_X12_statement.1 m_X12_statement.2.1 m_X12_statement.2.2.1 m_X12_statement.2.2.2.1 ∈ ztb := zgm 849 (by decide +kernel) (by decide +kernel)
theorem zw_850 : Cond.methodLink "PaidByCoastModel" 92 ⟨"PaidByCoastModel", "next", "()I"⟩ ∈ ztb := zgm 850 (by decide +kernel) (by decide +kernel)
theorem zw_852 : Cond.instanceMethod ⟨"PaidByCoastModel", "next", "()I"⟩ ∈ ztb := zgm 852 (by decide +kernel) (by decide +kernel)
theorem zwc_X12_next : Cond.code m_X12_next.1 m_X12_next.2.1 m_X12_next.2.2.1 m_X12_next.2.2.2.1 ∈ ztb := zgm 853 (by decide +kernel) (by decide +kernel)
theorem zw_854 : Cond.methodLink "PaidByCoastModel" 110 ⟨"PaidByCoastModel", "readsStretch", "(I)Z"⟩ ∈ ztb := zgm 854 (by decide +kernel) (by decide +kernel)
theorem zw_856 : Cond.instanceMethod ⟨"PaidByCoastModel", "readsStretch", "(I)Z"⟩ ∈ ztb := zgm 856 (by decide +kernel) (by decide +kernel)
theorem zwc_X12_readsStretch : Cond.code m_X12_readsStretch.1 m_X12_readsStretch.2.1 m_X12_readsStretch.2.2.1 m_X12_readsStretch.2.2.2.1 ∈ ztb := zgm 857 (by decide +kernel) (by decide +kernel)
theorem zw_858 : Cond.methodLink "PaidByCoastModel" 100 ⟨"PaidByCoastModel", "readsOnes", "(II)Z"⟩ ∈ ztb := zgm 858 (by decide +kernel) (by decide +kernel)
theorem zw_860 : Cond.instanceMethod ⟨"PaidByCoastModel", "readsOnes", "(II)Z"⟩ ∈ ztb := zgm 860 (by decide +kernel) (by decide +kernel)
theorem zwc_X12_readsOnes : Cond.code m_X12_readsOnes.1 m_X12_readsOnes.2.1 m_X12_readsOnes.2.2.1 m_X12_readsOnes.2.2.2.1 ∈ ztb := zgm 861 (by decide +kernel) (by decide +kernel)
theorem zw_862 : Cond.methodLink "PaidByCoastModel" 96 ⟨"PaidByCoastModel", "isIn", "(III)Z"⟩ ∈ ztb := zgm 862 (by decide +kernel) (by decide +kernel)
theorem zw_863 : Cond.static ⟨"PaidByCoastModel", "isIn", "(III)Z"⟩ ∈ ztb := zgm 863 (by decide +kernel) (by decide +kernel)
theorem zwc_X12_isIn : Cond.code m_X12_isIn.1 m_X12_isIn.2.1 m_X12_isIn.2.2.1 m_X12_isIn.2.2.2.1 ∈ ztb := zgm 864 (by decide +kernel) (by decide +kernel)
theorem zw_865 : Cond.methodLink "PaidByCoastModel" 104 ⟨"PaidByCoastModel", "wayOf", "(I)I"⟩ ∈ ztb := zgm 865 (by decide +kernel) (by decide +kernel)
theorem zw_866 : Cond.static ⟨"PaidByCoastModel", "wayOf", "(I)I"⟩ ∈ ztb := zgm 866 (by decide +kernel) (by decide +kernel)
theorem zwc_X12_wayOf : Cond.code m_X12_wayOf.1 m_X12_wayOf.2.1 m_X12_wayOf.2.2.1 m_X12_wayOf.2.2.2.1 ∈ ztb := zgm 867 (by decide +kernel) (by decide +kernel)
theorem zw_868 : Cond.methodLink "PaidByCoastModel" 136 ⟨"PaidByCoastModel", "passesAll", "(IZ)V"⟩ ∈ ztb := zgm 868 (by decide +kernel) (by decide +kernel)
theorem zw_870 : Cond.instanceMethod ⟨"PaidByCoastModel", "passesAll", "(IZ)V"⟩ ∈ ztb := zgm 870 (by decide +kernel) (by decide +kernel)
theorem zwc_X12_passesAll : Cond.code m_X12_passesAll.1 m_X12_passesAll.2.1 m_X12_passesAll.2.2.1 m_X12_passesAll.2.2.2.1 ∈ ztb := zgm 871 (by decide +kernel) (by decide +kernel)
theorem zw_872 : Cond.methodLink "PaidByCoastModel" 150 ⟨"PaidByCoastModel", "passes", "([I)V"⟩ ∈ ztb := zgm 872 (by decide +kernel) (by decide +kernel)
theorem zw_874 : Cond.instanceMethod ⟨"PaidByCoastModel", "passes", "([I)V"⟩ ∈ ztb := zgm 874 (by decide +kernel) (by decide +kernel)
theorem zwc_X12_passes : Cond.code m_X12_passes.1 m_X12_passes.2.1 m_X12_passes.2.2.1 m_X12_passes.2.2.2.1 ∈ ztb := zgm 875 (by decide +kernel) (by decide +kernel)
theorem zw_876 : Cond.methodLink "PaidByCoastModel" 154 ⟨"PaidByCoastModel", "passOne", "(I)I"⟩ ∈ ztb := zgm 876 (by decide +kernel) (by decide +kernel)
theorem zw_878 : Cond.instanceMethod ⟨"PaidByCoastModel", "passOne", "(I)I"⟩ ∈ ztb := zgm 878 (by decide +kernel) (by decide +kernel)
theorem zwc_X12_passOne : Cond.code m_X12_passOne.1 m_X12_passOne.2.1 m_X12_passOne.2.2.1 m_X12_passOne.2.2.2.1 ∈ ztb := zgm 879 (by decide +kernel) (by decide +kernel)
theorem zw_880 : Cond.methodLink "PaidByCoastModel" 140 ⟨"PaidByCoastModel", "comes", "(I)Z"⟩ ∈ ztb := zgm 880 (by decide +kernel) (by decide +kernel)
theorem zw_882 : Cond.instanceMethod ⟨"PaidByCoastModel", "comes", "(I)Z"⟩ ∈ ztb := zgm 882 (by decide +kernel) (by decide +kernel)
theorem zwc_X12_comes : Cond.code m_X12_comes.1 m_X12_comes.2.1 m_X12_comes.2.2.1 m_X12_comes.2.2.2.1 ∈ ztb := zgm 883 (by decide +kernel) (by decide +kernel)
theorem zw_884 : Cond.methodLink "PaidByCoastModel" 123 ⟨"PaidByCoastModel", "comesStretch", "(I)Z"⟩ ∈ ztb := zgm 884 (by decide +kernel) (by decide +kernel)
theorem zw_886 : Cond.instanceMethod ⟨"PaidByCoastModel", "comesStretch", "(I)Z"⟩ ∈ ztb := zgm 886 (by decide +kernel) (by decide +kernel)
theorem zwc_X12_comesStretch : Cond.code m_X12_comesStretch.1 m_X12_comesStretch.2.1 m_X12_comesStretch.2.2.1 m_X12_comesStretch.2.2.2.1 ∈ ztb := zgm 887 (by decide +kernel) (by decide +kernel)
theorem zw_888 : Cond.methodLink "PaidByCoastModel" 126 ⟨"PaidByCoastModel", "comesRock", "(I)Z"⟩ ∈ ztb := zgm 888 (by decide +kernel) (by decide +kernel)
theorem zw_890 : Cond.instanceMethod ⟨"PaidByCoastModel", "comesRock", "(I)Z"⟩ ∈ ztb := zgm 890 (by decide +kernel) (by decide +kernel)
theorem zwc_X12_comesRock : Cond.code m_X12_comesRock.1 m_X12_comesRock.2.1 m_X12_comesRock.2.2.1 m_X12_comesRock.2.2.2.1 ∈ ztb := zgm 891 (by decide +kernel) (by decide +kernel)
theorem zw_892 : Cond.methodLink "PaidByCoastLaw" 116 ⟨"PaidByCoastModel", "image", "()I"⟩ ∈ ztb := zgm 892 (by decide +kernel) (by decide +kernel)
theorem zw_893 : Cond.instanceMethod ⟨"PaidByCoastModel", "image", "()I"⟩ ∈ ztb := zgm 893 (by decide +kernel) (by decide +kernel)
theorem zw_894 : Cond.selects "PaidByCoastModel" ⟨"PaidByCoastModel", "image", "()I"⟩ ⟨"PaidByCoastModel", "image", "()I"⟩ ∈ ztb := zgm 894 (by decide +kernel) (by decide +kernel)
theorem zwc_X12_image : Cond.code m_X12_image.1 m_X12_image.2.1 m_X12_image.2.2.1 m_X12_image.2.2.2.1 ∈ ztb := zgm 895 (by decide +kernel) (by decide +kernel)
theorem zw_896 : Cond.methodLink "PaidByCoastLaw" 120 ⟨"PaidByCoastModel", "restore", "()I"⟩ ∈ ztb := zgm 896 (by decide +kernel) (by decide +kernel)
theorem zw_897 : Cond.instanceMethod ⟨"PaidByCoastModel", "restore", "()I"⟩ ∈ ztb := zgm 897 (by decide +kernel) (by decide +kernel)
theorem zw_898 : Cond.selects "PaidByCoastModel" ⟨"PaidByCoastModel", "restore", "()I"⟩ ⟨"PaidByCoastModel", "restore", "()I"⟩ ∈ ztb := zgm 898 (by decide +kernel) (by decide +kernel)
theorem zwc_X12_restore : Cond.code m_X12_restore.1 m_X12_restore.2.1 m_X12_restore.2.2.1 m_X12_restore.2.2.2.1 ∈ ztb := zgm 899 (by decide +kernel) (by decide +kernel)
theorem zw_900 : Cond.methodLink "PaidByCoastLaw" 27 ⟨"PaidByCoastModel", "stretch", "(II)I"⟩ ∈ ztb := zgm 900 (by decide +kernel) (by decide +kernel)
theorem zw_901 : Cond.instanceMethod ⟨"PaidByCoastModel", "stretch", "(II)I"⟩ ∈ ztb := zgm 901 (by decide +kernel) (by decide +kernel)
theorem zw_902 : Cond.selects "PaidByCoastModel" ⟨"PaidByCoastModel", "stretch", "(II)I"⟩ ⟨"PaidByCoastModel", "stretch", "(II)I"⟩ ∈ ztb := zgm 902 (by decide +kernel) (by decide +kernel)
theorem zwc_X12_stretch : Cond.code m_X12_stretch.1 m_X12_stretch.2.1 m_X12_stretch.2.2.1 m_X12_stretch.2.2.2.1 ∈ ztb := zgm 903 (by decide +kernel) (by decide +kernel)
theorem zw_904 : Cond.methodLink "PaidByCoastModel" 160 ⟨"PaidByCoastModel", "isStretch", "(I)Z"⟩ ∈ ztb := zgm 904 (by decide +kernel) (by decide +kernel)
theorem zw_906 : Cond.instanceMethod ⟨"PaidByCoastModel", "isStretch", "(I)Z"⟩ ∈ ztb := zgm 906 (by decide +kernel) (by decide +kernel)
theorem zwc_X12_isStretch : Cond.code m_X12_isStretch.1 m_X12_isStretch.2.1 m_X12_isStretch.2.2.1 m_X12_isStretch.2.2.2.1 ∈ ztb := zgm 907 (by decide +kernel) (by decide +kernel)
theorem zw_908 : Cond.methodLink "PaidByCoastModel" 163 ⟨"PaidByCoastModel", "isDry", "(I)Z"⟩ ∈ ztb := zgm 908 (by decide +kernel) (by decide +kernel)
theorem zw_910 : Cond.instanceMethod ⟨"PaidByCoastModel", "isDry", "(I)Z"⟩ ∈ ztb := zgm 910 (by decide +kernel) (by decide +kernel)
theorem zwc_X12_isDry : Cond.code m_X12_isDry.1 m_X12_isDry.2.1 m_X12_isDry.2.2.1 m_X12_isDry.2.2.2.1 ∈ ztb := zgm 911 (by decide +kernel) (by decide +kernel)
theorem zw_912 : Cond.methodLink "PaidByCoastModel" 166 ⟨"PaidByCoastModel", "feeOf", "(I)I"⟩ ∈ ztb := zgm 912 (by decide +kernel) (by decide +kernel)
theorem zw_914 : Cond.instanceMethod ⟨"PaidByCoastModel", "feeOf", "(I)I"⟩ ∈ ztb := zgm 914 (by decide +kernel) (by decide +kernel)
theorem zwc_X12_feeOf : Cond.code m_X12_feeOf.1 m_X12_feeOf.2.1 m_X12_feeOf.2.2.1 m_X12_feeOf.2.2.2.1 ∈ ztb := zgm 915 (by decide +kernel) (by decide +kernel)
theorem zw_916 : Cond.methodLink "PaidByCoastLaw" 31 ⟨"PaidByCoastModel", "point", "(II)I"⟩ ∈ ztb := zgm 916 (by decide +kernel) (by decide +kernel)
theorem zw_917 : Cond.instanceMethod ⟨"PaidByCoastModel", "point", "(II)I"⟩ ∈ ztb := zgm 917 (by decide +kernel) (by decide +kernel)
theorem zw_918 : Cond.selects "PaidByCoastModel" ⟨"PaidByCoastModel", "point", "(II)I"⟩ ⟨"PaidByCoastModel", "point", "(II)I"⟩ ∈ ztb := zgm 918 (by decide +kernel) (by decide +kernel)
theorem zwc_X12_point : Cond.code m_X12_point.1 m_X12_point.2.1 m_X12_point.2.2.1 m_X12_point.2.2.2.1 ∈ ztb := zgm 919 (by decide +kernel) (by decide +kernel)
theorem zw_920 : Cond.methodLink "PaidByCoastModel" 169 ⟨"PaidByCoastModel", "isPlace", "(I)Z"⟩ ∈ ztb := zgm 920 (by decide +kernel) (by decide +kernel)
theorem zw_922 : Cond.instanceMethod ⟨"PaidByCoastModel", "isPlace", "(I)Z"⟩ ∈ ztb := zgm 922 (by decide +kernel) (by decide +kernel)
theorem zwc_X12_isPlace : Cond.code m_X12_isPlace.1 m_X12_isPlace.2.1 m_X12_isPlace.2.2.1 m_X12_isPlace.2.2.2.1 ∈ ztb := zgm 923 (by decide +kernel) (by decide +kernel)
theorem zw_924 : Cond.methodLink "PaidByCoastModel" 172 ⟨"PaidByCoastModel", "lower", "(I)I"⟩ ∈ ztb := zgm 924 (by decide +kernel) (by decide +kernel)
theorem zw_926 : Cond.instanceMethod ⟨"PaidByCoastModel", "lower", "(I)I"⟩ ∈ ztb := zgm 926 (by decide +kernel) (by decide +kernel)
theorem zwc_X12_lower : Cond.code m_X12_lower.1 m_X12_lower.2.1 m_X12_lower.2.2.1 m_X12_lower.2.2.2.1 ∈ ztb := zgm 927 (by decide +kernel) (by decide +kernel)
theorem zw_928 : Cond.constant "PaidByCoastModel" 76 (1000000000) ∈ ztb := zgm 928 (by decide +kernel) (by decide +kernel)
theorem zw_929 : Cond.methodLink "PaidByCoastLaw" 39 ⟨"PaidByCoastModel", "tide", "(I)I"⟩ ∈ ztb := zgm 929 (by decide +kernel) (by decide +kernel)
theorem zw_930 : Cond.instanceMethod ⟨"PaidByCoastModel", "tide", "(I)I"⟩ ∈ ztb := zgm 930 (by decide +kernel) (by decide +kernel)
theorem zw_931 : Cond.selects "PaidByCoastModel" ⟨"PaidByCoastModel", "tide", "(I)I"⟩ ⟨"PaidByCoastModel", "tide", "(I)I"⟩ ∈ ztb := zgm 931 (by decide +kernel) (by decide +kernel)
theorem zwc_X12_tide : Cond.code m_X12_tide.1 m_X12_tide.2.1 m_X12_tide.2.2.1 m_X12_tide.2.2.2.1 ∈ ztb := zgm 932 (by decide +kernel) (by decide +kernel)
theorem zw_933 : Cond.methodLink "PaidByCoastLaw" 35 ⟨"PaidByCoastModel", "shore", "(I)I"⟩ ∈ ztb := zgm 933 (by decide +kernel) (by decide +kernel)
theorem zw_934 : Cond.instanceMethod ⟨"PaidByCoastModel", "shore", "(I)I"⟩ ∈ ztb := zgm 934 (by decide +kernel) (by decide +kernel)
theorem zw_935 : Cond.selects "PaidByCoastModel" ⟨"PaidByCoastModel", "shore", "(I)I"⟩ ⟨"PaidByCoastModel", "shore", "(I)I"⟩ ∈ ztb := zgm 935 (by decide +kernel) (by decide +kernel)
theorem zwc_X12_shore : Cond.code m_X12_shore.1 m_X12_shore.2.1 m_X12_shore.2.2.1 m_X12_shore.2.2.2.1 ∈ ztb := zgm 936 (by decide +kernel) (by decide +kernel)
theorem zw_937 : Cond.methodLink "PaidByCoastLaw" 44 ⟨"PaidByCoastModel", "walk", "(III)I"⟩ ∈ ztb := zgm 937 (by decide +kernel) (by decide +kernel)
theorem zw_938 : Cond.instanceMethod ⟨"PaidByCoastModel", "walk", "(III)I"⟩ ∈ ztb := zgm 938 (by decide +kernel) (by decide +kernel)
theorem zw_939 : Cond.selects "PaidByCoastModel" ⟨"PaidByCoastModel", "walk", "(III)I"⟩ ⟨"PaidByCoastModel", "walk", "(III)I"⟩ ∈ ztb := zgm 939 (by decide +kernel) (by decide +kernel)
theorem zwc_X12_walk : Cond.code m_X12_walk.1 m_X12_walk.2.1 m_X12_walk.2.2.1 m_X12_walk.2.2.2.1 ∈ ztb := zgm 940 (by decide +kernel) (by decide +kernel)
theorem zw_941 : Cond.methodLink "PaidByCoastModel" 195 ⟨"PaidByCoastModel", "notWalk", "(II)I"⟩ ∈ ztb := zgm 941 (by decide +kernel) (by decide +kernel)
theorem zw_942 : Cond.static ⟨"PaidByCoastModel", "notWalk", "(II)I"⟩ ∈ ztb := zgm 942 (by decide +kernel) (by decide +kernel)
theorem zwc_X12_notWalk : Cond.code m_X12_notWalk.1 m_X12_notWalk.2.1 m_X12_notWalk.2.2.1 m_X12_notWalk.2.2.2.1 ∈ ztb := zgm 943 (by decide +kernel) (by decide +kernel)
theorem zw_944 : Cond.methodLink "PaidByCoastModel" 198 ⟨"PaidByCoastModel", "pay", "(II)I"⟩ ∈ ztb := zgm 944 (by decide +kernel) (by decide +kernel)
theorem zw_946 : Cond.instanceMethod ⟨"PaidByCoastModel", "pay", "(II)I"⟩ ∈ ztb := zgm 946 (by decide +kernel) (by decide +kernel)
theorem zwc_X12_pay : Cond.code m_X12_pay.1 m_X12_pay.2.1 m_X12_pay.2.2.1 m_X12_pay.2.2.2.1 ∈ ztb := zgm 947 (by decide +kernel) (by decide +kernel)
theorem zw_948 : Cond.methodLink "PaidByCoastModel" 192 ⟨"PaidByCoastModel", "miles", "(II)I"⟩ ∈ ztb := zgm 948 (by decide +kernel) (by decide +kernel)
theorem zw_950 : Cond.instanceMethod ⟨"PaidByCoastModel", "miles", "(II)I"⟩ ∈ ztb := zgm 950 (by decide +kernel) (by decide +kernel)
theorem zwc_X12_miles : Cond.code m_X12_miles.1 m_X12_miles.2.1 m_X12_miles.2.2.1 m_X12_miles.2.2.2.1 ∈ ztb := zgm 951 (by decide +kernel) (by decide +kernel)
theorem zw_952 : Cond.methodLink "PaidByCoastModel" 184 ⟨"PaidByCoastModel", "findShore", "(II)V"⟩ ∈ ztb := zgm 952 (by decide +kernel) (by decide +kernel)
theorem zw_954 : Cond.instanceMethod ⟨"PaidByCoastModel", "findShore", "(II)V"⟩ ∈ ztb := zgm 954 (by decide +kernel) (by decide +kernel)
theorem zwc_X12_findShore : Cond.code m_X12_findShore.1 m_X12_findShore.2.1 m_X12_findShore.2.2.1 m_X12_findShore.2.2.2.1 ∈ ztb := zgm 955 (by decide +kernel) (by decide +kernel)
theorem zw_956 : Cond.methodLink "PaidByCoastModel" 188 ⟨"PaidByCoastModel", "walks", "(II)I"⟩ ∈ ztb := zgm 956 (by decide +kernel) (by decide +kernel)
theorem zw_958 : Cond.instanceMethod ⟨"PaidByCoastModel", "walks", "(II)I"⟩ ∈ ztb := zgm 958 (by decide +kernel) (by decide +kernel)
theorem zwc_X12_walks : Cond.code m_X12_walks.1 m_X12_walks.2.1 m_X12_walks.2.2.1 m_X12_walks.2.2.2.1 ∈ ztb := zgm 959 (by decide +kernel) (by decide +kernel)
theorem zw_960 : Cond.methodLink "PaidByCoastModel" 181 ⟨"PaidByCoastModel", "isFar", "(III)Z"⟩ ∈ ztb := zgm 960 (by decide +kernel) (by decide +kernel)
theorem zw_962 : Cond.instanceMethod ⟨"PaidByCoastModel", "isFar", "(III)Z"⟩ ∈ ztb := zgm 962 (by decide +kernel) (by decide +kernel)
theorem zwc_X12_isFar : Cond.code m_X12_isFar.1 m_X12_isFar.2.1 m_X12_isFar.2.2.1 m_X12_isFar.2.2.2.1 ∈ ztb := zgm 963 (by decide +kernel) (by decide +kernel)
theorem zw_964 : Cond.methodLink "PaidByCoastModel" 201 ⟨"PaidByCoastModel", "over", "()I"⟩ ∈ ztb := zgm 964 (by decide +kernel) (by decide +kernel)
theorem zw_966 : Cond.instanceMethod ⟨"PaidByCoastModel", "over", "()I"⟩ ∈ ztb := zgm 966 (by decide +kernel) (by decide +kernel)
theorem zwc_X12_over : Cond.code m_X12_over.1 m_X12_over.2.1 m_X12_over.2.2.1 m_X12_over.2.2.2.1 ∈ ztb := zgm 967 (by decide +kernel) (by decide +kernel)
theorem zw_968 : Cond.methodLink "PaidByCoastLaw" 48 ⟨"PaidByCoastModel", "place", "(III)I"⟩ ∈ ztb := zgm 968 (by decide +kernel) (by decide +kernel)
theorem zw_969 : Cond.instanceMethod ⟨"PaidByCoastModel", "place", "(III)I"⟩ ∈ ztb := zgm 969 (by decide +kernel) (by decide +kernel)
theorem zw_970 : Cond.selects "PaidByCoastModel" ⟨"PaidByCoastModel", "place", "(III)I"⟩ ⟨"PaidByCoastModel", "place", "(III)I"⟩ ∈ ztb := zgm 970 (by decide +kernel) (by decide +kernel)
theorem zwc_X12_place : Cond.code m_X12_place.1 m_X12_place.2.1 m_X12_place.2.2.1 m_X12_place.2.2.2.1 ∈ ztb := zgm 971 (by decide +kernel) (by decide +kernel)
theorem zw_972 : Cond.methodLink "PaidByCoastLaw" 52 ⟨"PaidByCoastModel", "best", "(II)I"⟩ ∈ ztb := zgm 972 (by decide +kernel) (by decide +kernel)
theorem zw_973 : Cond.instanceMethod ⟨"PaidByCoastModel", "best", "(II)I"⟩ ∈ ztb := zgm 973 (by decide +kernel) (by decide +kernel)
theorem zw_974 : Cond.selects "PaidByCoastModel" ⟨"PaidByCoastModel", "best", "(II)I"⟩ ⟨"PaidByCoastModel", "best", "(II)I"⟩ ∈ ztb := zgm 974 (by decide +kernel) (by decide +kernel)
theorem zwc_X12_best : Cond.code m_X12_best.1 m_X12_best.2.1 m_X12_best.2.2.1 m_X12_best.2.2.2.1 ∈ ztb := zgm 975 (by decide +kernel) (by decide +kernel)
theorem zw_976 : Cond.methodLink "PaidByCoastLaw" 56 ⟨"PaidByCoastModel", "span", "(I)I"⟩ ∈ ztb := zgm 976 (by decide +kernel) (by decide +kernel)
theorem zw_977 : Cond.instanceMethod ⟨"PaidByCoastModel", "span", "(I)I"⟩ ∈ ztb := zgm 977 (by decide +kernel) (by decide +kernel)
theorem zw_978 : Cond.selects "PaidByCoastModel" ⟨"PaidByCoastModel", "span", "(I)I"⟩ ⟨"PaidByCoastModel", "span", "(I)I"⟩ ∈ ztb := zgm 978 (by decide +kernel) (by decide +kernel)
theorem zwc_X12_span : Cond.code m_X12_span.1 m_X12_span.2.1 m_X12_span.2.2.1 m_X12_span.2.2.2.1 ∈ ztb := zgm 979 (by decide +kernel) (by decide +kernel)
theorem zw_980 : Cond.methodLink "PaidByCoastLaw" 60 ⟨"PaidByCoastModel", "finer", "(I)I"⟩ ∈ ztb := zgm 980 (by decide +kernel) (by decide +kernel)
theorem zw_981 : Cond.instanceMethod ⟨"PaidByCoastModel", "finer", "(I)I"⟩ ∈ ztb := zgm 981 (by decide +kernel) (by decide +kernel)
theorem zw_982 : Cond.selects "PaidByCoastModel" ⟨"PaidByCoastModel", "finer", "(I)I"⟩ ⟨"PaidByCoastModel", "finer", "(I)I"⟩ ∈ ztb := zgm 982 (by decide +kernel) (by decide +kernel)
theorem zwc_X12_finer : Cond.code m_X12_finer.1 m_X12_finer.2.1 m_X12_finer.2.2.1 m_X12_finer.2.2.2.1 ∈ ztb := zgm 983 (by decide +kernel) (by decide +kernel)
theorem zw_984 : Cond.methodLink "PaidByCoastLaw" 64 ⟨"PaidByCoastModel", "two", "(III)I"⟩ ∈ ztb := zgm 984 (by decide +kernel) (by decide +kernel)
theorem zw_985 : Cond.instanceMethod ⟨"PaidByCoastModel", "two", "(III)I"⟩ ∈ ztb := zgm 985 (by decide +kernel) (by decide +kernel)
theorem zw_986 : Cond.selects "PaidByCoastModel" ⟨"PaidByCoastModel", "two", "(III)I"⟩ ⟨"PaidByCoastModel", "two", "(III)I"⟩ ∈ ztb := zgm 986 (by decide +kernel) (by decide +kernel)
theorem zwc_X12_two : Cond.code m_X12_two.1 m_X12_two.2.1 m_X12_two.2.2.1 m_X12_two.2.2.2.1 ∈ ztb := zgm 987 (by decide +kernel) (by decide +kernel)
theorem zw_988 : Cond.methodLink "PaidByCoastModel" 204 ⟨"PaidByCoastModel", "stepFrom", "(III)I"⟩ ∈ ztb := zgm 988 (by decide +kernel) (by decide +kernel)
theorem zw_990 : Cond.instanceMethod ⟨"PaidByCoastModel", "stepFrom", "(III)I"⟩ ∈ ztb := zgm 990 (by decide +kernel) (by decide +kernel)
theorem zwc_X12_stepFrom : Cond.code m_X12_stepFrom.1 m_X12_stepFrom.2.1 m_X12_stepFrom.2.2.1 m_X12_stepFrom.2.2.2.1 ∈ ztb := zgm 991 (by decide +kernel) (by decide +kernel)
theorem zw_992 : Cond.methodLink "PaidByCoastLaw" 68 ⟨"PaidByCoastModel", "map", "(II)I"⟩ ∈ ztb := zgm 992 (by decide +kernel) (by decide +kernel)
theorem zw_993 : Cond.instanceMethod ⟨"PaidByCoastModel", "map", "(II)I"⟩ ∈ ztb := zgm 993 (by decide +kernel) (by decide +kernel)
theorem zw_994 : Cond.selects "PaidByCoastModel" ⟨"PaidByCoastModel", "map", "(II)I"⟩ ⟨"PaidByCoastModel", "map", "(II)I"⟩ ∈ ztb := zgm 994 (by decide +kernel) (by decide +kernel)
theorem zwc_X12_map : Cond.code m_X12_map.1 m_X12_map.2.1 m_X12_map.2.2.1 m_X12_map.2.2.2.1 ∈ ztb := zgm 995 (by decide +kernel) (by decide +kernel)
theorem zw_996 : Cond.methodLink "PaidByCoastLaw" 72 ⟨"PaidByCoastModel", "rock", "(II)I"⟩ ∈ ztb := zgm 996 (by decide +kernel) (by decide +kernel)
theorem zw_997 : Cond.instanceMethod ⟨"PaidByCoastModel", "rock", "(II)I"⟩ ∈ ztb := zgm 997 (by decide +kernel) (by decide +kernel)
theorem zw_998 : Cond.selects "PaidByCoastModel" ⟨"PaidByCoastModel", "rock", "(II)I"⟩ ⟨"PaidByCoastModel", "rock", "(II)I"⟩ ∈ ztb := zgm 998 (by decide +kernel) (by decide +kernel)
theorem zwc_X12_rock : Cond.code m_X12_rock.1 m_X12_rock.2.1 m_X12_rock.2.2.1 m_X12_rock.2.2.2.1 ∈ ztb := zgm 999 (by decide +kernel) (by decide +kernel)
theorem zw_1000 : Cond.methodLink "PaidByCoastModel" 207 ⟨"PaidByCoastModel", "isIsland", "(II)Z"⟩ ∈ ztb := zgm 1000 (by decide +kernel) (by decide +kernel)
theorem zw_1002 : Cond.instanceMethod ⟨"PaidByCoastModel", "isIsland", "(II)Z"⟩ ∈ ztb := zgm 1002 (by decide +kernel) (by decide +kernel)
theorem zwc_X12_isIsland : Cond.code m_X12_isIsland.1 m_X12_isIsland.2.1 m_X12_isIsland.2.2.1 m_X12_isIsland.2.2.2.1 ∈ ztb := zgm 1003 (by decide +kernel) (by decide +kernel)
theorem zw_1004 : Cond.methodLink "PaidByCoastLaw" 76 ⟨"PaidByCoastModel", "islands", "()I"⟩ ∈ ztb := zgm 1004 (by decide +kernel) (by decide +kernel)
theorem zw_1005 : Cond.instanceMethod ⟨"PaidByCoastModel", "islands", "()I"⟩ ∈ ztb := zgm 1005 (by decide +kernel) (by decide +kernel)
theorem zw_1006 : Cond.selects "PaidByCoastModel" ⟨"PaidByCoastModel", "islands", "()I"⟩ ⟨"PaidByCoastModel", "islands", "()I"⟩ ∈ ztb := zgm 1006 (by decide +kernel) (by decide +kernel)
theorem zwc_X12_islands : Cond.code m_X12_islands.1 m_X12_islands.2.1 m_X12_islands.2.2.1 m_X12_islands.2.2.2.1 ∈ ztb := zgm 1007 (by decide +kernel) (by decide +kernel)
theorem zw_1008 : Cond.methodLink "PaidByCoastLaw" 80 ⟨"PaidByCoastModel", "hours", "(I)I"⟩ ∈ ztb := zgm 1008 (by decide +kernel) (by decide +kernel)
theorem zw_1009 : Cond.instanceMethod ⟨"PaidByCoastModel", "hours", "(I)I"⟩ ∈ ztb := zgm 1009 (by decide +kernel) (by decide +kernel)
theorem zw_1010 : Cond.selects "PaidByCoastModel" ⟨"PaidByCoastModel", "hours", "(I)I"⟩ ⟨"PaidByCoastModel", "hours", "(I)I"⟩ ∈ ztb := zgm 1010 (by decide +kernel) (by decide +kernel)
theorem zwc_X12_hours : Cond.code m_X12_hours.1 m_X12_hours.2.1 m_X12_hours.2.2.1 m_X12_hours.2.2.2.1 ∈ ztb := zgm 1011 (by decide +kernel) (by decide +kernel)
theorem zw_1012 : Cond.methodLink "PaidByCoastModel" 210 ⟨"PaidByCoastModel", "bits", "(I)I"⟩ ∈ ztb := zgm 1012 (by decide +kernel) (by decide +kernel)
theorem zw_1013 : Cond.static ⟨"PaidByCoastModel", "bits", "(I)I"⟩ ∈ ztb := zgm 1013 (by decide +kernel) (by decide +kernel)
theorem zwc_X12_bits : Cond.code m_X12_bits.1 m_X12_bits.2.1 m_X12_bits.2.2.1 m_X12_bits.2.2.2.1 ∈ ztb := zgm 1014 (by decide +kernel) (by decide +kernel)
theorem zw_1015 : Cond.methodLink "PaidByCoastModel" 213 ⟨"PaidByCoastModel", "areSeen", "(I)Z"⟩ ∈ ztb := zgm 1015 (by decide +kernel) (by decide +kernel)
theorem zw_1017 : Cond.instanceMethod ⟨"PaidByCoastModel", "areSeen", "(I)Z"⟩ ∈ ztb := zgm 1017 (by decide +kernel) (by decide +kernel)
theorem zwc_X12_areSeen : Cond.code m_X12_areSeen.1 m_X12_areSeen.2.1 m_X12_areSeen.2.2.1 m_X12_areSeen.2.2.2.1 ∈ ztb := zgm 1018 (by decide +kernel) (by decide +kernel)
theorem zw_1019 : Cond.methodLink "PaidByCoastLaw" 84 ⟨"PaidByCoastModel", "boat", "()I"⟩ ∈ ztb := zgm 1019 (by decide +kernel) (by decide +kernel)
theorem zw_1020 : Cond.instanceMethod ⟨"PaidByCoastModel", "boat", "()I"⟩ ∈ ztb := zgm 1020 (by decide +kernel) (by decide +kernel)
theorem zw_1021 : Cond.selects "PaidByCoastModel" ⟨"PaidByCoastModel", "boat", "()I"⟩ ⟨"PaidByCoastModel", "boat", "()I"⟩ ∈ ztb := zgm 1021 (by decide +kernel) (by decide +kernel)
theorem zwc_X12_boat : Cond.code m_X12_boat.1 m_X12_boat.2.1 m_X12_boat.2.2.1 m_X12_boat.2.2.2.1 ∈ ztb := zgm 1022 (by decide +kernel) (by decide +kernel)
theorem zw_1023 : Cond.methodLink "PaidByCoastModel" 225 ⟨"PaidByCoastModel", "wayRound", "()I"⟩ ∈ ztb := zgm 1023 (by decide +kernel) (by decide +kernel)
theorem zw_1025 : Cond.instanceMethod ⟨"PaidByCoastModel", "wayRound", "()I"⟩ ∈ ztb := zgm 1025 (by decide +kernel) (by decide +kernel)
theorem zwc_X12_wayRound : Cond.code m_X12_wayRound.1 m_X12_wayRound.2.1 m_X12_wayRound.2.2.1 m_X12_wayRound.2.2.2.1 ∈ ztb := zgm 1026 (by decide +kernel) (by decide +kernel)
theorem zw_1027 : Cond.methodLink "PaidByCoastModel" 222 ⟨"PaidByCoastModel", "apart", "(II)I"⟩ ∈ ztb := zgm 1027 (by decide +kernel) (by decide +kernel)
theorem zw_1028 : Cond.static ⟨"PaidByCoastModel", "apart", "(II)I"⟩ ∈ ztb := zgm 1028 (by decide +kernel) (by decide +kernel)
theorem zwc_X12_apart : Cond.code m_X12_apart.1 m_X12_apart.2.1 m_X12_apart.2.2.1 m_X12_apart.2.2.2.1 ∈ ztb := zgm 1029 (by decide +kernel) (by decide +kernel)
theorem zw_1030 : Cond.methodLink "PaidByCoastModel" 228 ⟨"PaidByCoastModel", "nextOrder", "()Z"⟩ ∈ ztb := zgm 1030 (by decide +kernel) (by decide +kernel)
theorem zw_1032 : Cond.instanceMethod ⟨"PaidByCoastModel", "nextOrder", "()Z"⟩ ∈ ztb := zgm 1032 (by decide +kernel) (by decide +kernel)
theorem zwc_X12_nextOrder : Cond.code m_X12_nextOrder.1 m_X12_nextOrder.2.1 m_X12_nextOrder.2.2.1 m_X12_nextOrder.2.2.2.1 ∈ ztb := zgm 1033 (by decide +kernel) (by decide +kernel)
theorem zw_1034 : Cond.methodLink "PaidByCoastModel" 219 ⟨"PaidByCoastModel", "changes", "(II)V"⟩ ∈ ztb := zgm 1034 (by decide +kernel) (by decide +kernel)
theorem zw_1036 : Cond.instanceMethod ⟨"PaidByCoastModel", "changes", "(II)V"⟩ ∈ ztb := zgm 1036 (by decide +kernel) (by decide +kernel)
theorem zwc_X12_changes : Cond.code m_X12_changes.1 m_X12_changes.2.1 m_X12_changes.2.2.1 m_X12_changes.2.2.2.1 ∈ ztb := zgm 1037 (by decide +kernel) (by decide +kernel)
theorem zw_1038 : Cond.methodLink "PaidByCoastLaw" 88 ⟨"PaidByCoastModel", "cut", "(II)I"⟩ ∈ ztb := zgm 1038 (by decide +kernel) (by decide +kernel)
theorem zw_1039 : Cond.instanceMethod ⟨"PaidByCoastModel", "cut", "(II)I"⟩ ∈ ztb := zgm 1039 (by decide +kernel) (by decide +kernel)
theorem zw_1040 : Cond.selects "PaidByCoastModel" ⟨"PaidByCoastModel", "cut", "(II)I"⟩ ⟨"PaidByCoastModel", "cut", "(II)I"⟩ ∈ ztb := zgm 1040 (by decide +kernel) (by decide +kernel)
theorem zwc_X12_cut : Cond.code m_X12_cut.1 m_X12_cut.2.1 m_X12_cut.2.2.1 m_X12_cut.2.2.2.1 ∈ ztb := zgm 1041 (by decide +kernel) (by decide +kernel)
theorem zw_1042 : Cond.methodLink "PaidByCoastModel" 231 ⟨"PaidByCoastModel", "milesWithout", "(II)I"⟩ ∈ ztb := zgm 1042 (by decide +kernel) (by decide +kernel)
theorem zw_1044 : Cond.instanceMethod ⟨"PaidByCoastModel", "milesWithout", "(II)I"⟩ ∈ ztb := zgm 1044 (by decide +kernel) (by decide +kernel)
theorem zwc_X12_milesWithout : Cond.code m_X12_milesWithout.1 m_X12_milesWithout.2.1 m_X12_milesWithout.2.2.1 m_X12_milesWithout.2.2.2.1 ∈ ztb := zgm 1045 (by decide +kernel) (by decide +kernel)
theorem zw_1046 : Cond.methodLink "PaidByCoastLaw" 92 ⟨"PaidByCoastModel", "worstCut", "(I)I"⟩ ∈ ztb := zgm 1046 (by decide +kernel) (by decide +kernel)
theorem zw_1047 : Cond.instanceMethod ⟨"PaidByCoastModel", "worstCut", "(I)I"⟩ ∈ ztb := zgm 1047 (by decide +kernel) (by decide +kernel)
theorem zw_1048 : Cond.selects "PaidByCoastModel" ⟨"PaidByCoastModel", "worstCut", "(I)I"⟩ ⟨"PaidByCoastModel", "worstCut", "(I)I"⟩ ∈ ztb := zgm 1048 (by decide +kernel) (by decide +kernel)
theorem zwc_X12_worstCut : Cond.code m_X12_worstCut.1 m_X12_worstCut.2.1 m_X12_worstCut.2.2.1 m_X12_worstCut.2.2.2.1 ∈ ztb := zgm 1049 (by decide +kernel) (by decide +kernel)
theorem zw_1050 : Cond.methodLink "PaidByCoastLaw" 96 ⟨"PaidByCoastModel", "copy", "(II)I"⟩ ∈ ztb := zgm 1050 (by decide +kernel) (by decide +kernel)
theorem zw_1051 : Cond.instanceMethod ⟨"PaidByCoastModel", "copy", "(II)I"⟩ ∈ ztb := zgm 1051 (by decide +kernel) (by decide +kernel)
theorem zw_1052 : Cond.selects "PaidByCoastModel" ⟨"PaidByCoastModel", "copy", "(II)I"⟩ ⟨"PaidByCoastModel", "copy", "(II)I"⟩ ∈ ztb := zgm 1052 (by decide +kernel) (by decide +kernel)
theorem zwc_X12_copy : Cond.code m_X12_copy.1 m_X12_copy.2.1 m_X12_copy.2.2.1 m_X12_copy.2.2.2.1 ∈ ztb := zgm 1053 (by decide +kernel) (by decide +kernel)
theorem zw_1054 : Cond.methodLink "PaidByCoastLaw" 100 ⟨"PaidByCoastModel", "sure", "(I)I"⟩ ∈ ztb := zgm 1054 (by decide +kernel) (by decide +kernel)
theorem zw_1055 : Cond.instanceMethod ⟨"PaidByCoastModel", "sure", "(I)I"⟩ ∈ ztb := zgm 1055 (by decide +kernel) (by decide +kernel)
theorem zw_1056 : Cond.selects "PaidByCoastModel" ⟨"PaidByCoastModel", "sure", "(I)I"⟩ ⟨"PaidByCoastModel", "sure", "(I)I"⟩ ∈ ztb := zgm 1056 (by decide +kernel) (by decide +kernel)
theorem zwc_X12_sure : Cond.code m_X12_sure.1 m_X12_sure.2.1 m_X12_sure.2.2.1 m_X12_sure.2.2.2.1 ∈ ztb := zgm 1057 (by decide +kernel) (by decide +kernel)
theorem zw_1058 : Cond.methodLink "PaidByCoastLaw" 104 ⟨"PaidByCoastModel", "row", "(I)I"⟩ ∈ ztb := zgm 1058 (by decide +kernel) (by decide +kernel)
theorem zw_1059 : Cond.instanceMethod ⟨"PaidByCoastModel", "row", "(I)I"⟩ ∈ ztb := zgm 1059 (by decide +kernel) (by decide +kernel)
theorem zw_1060 : Cond.selects "PaidByCoastModel" ⟨"PaidByCoastModel", "row", "(I)I"⟩ ⟨"PaidByCoastModel", "row", "(I)I"⟩ ∈ ztb := zgm 1060 (by decide +kernel) (by decide +kernel)
theorem zwc_X12_row : Cond.code m_X12_row.1 m_X12_row.2.1 m_X12_row.2.2.1 m_X12_row.2.2.2.1 ∈ ztb := zgm 1061 (by decide +kernel) (by decide +kernel)
theorem zw_1062 : Cond.methodLink "PaidByCoastLaw" 108 ⟨"PaidByCoastModel", "judge", "(II)I"⟩ ∈ ztb := zgm 1062 (by decide +kernel) (by decide +kernel)
theorem zw_1063 : Cond.instanceMethod ⟨"PaidByCoastModel", "judge", "(II)I"⟩ ∈ ztb := zgm 1063 (by decide +kernel) (by decide +kernel)
theorem zw_1064 : Cond.selects "PaidByCoastModel" ⟨"PaidByCoastModel", "judge", "(II)I"⟩ ⟨"PaidByCoastModel", "judge", "(II)I"⟩ ∈ ztb := zgm 1064 (by decide +kernel) (by decide +kernel)
theorem zwc_X12_judge : Cond.code m_X12_judge.1 m_X12_judge.2.1 m_X12_judge.2.2.1 m_X12_judge.2.2.2.1 ∈ ztb := zgm 1065 (by decide +kernel) (by decide +kernel)
theorem zw_1066 : Cond.methodLink "PaidByCoastLaw" 112 ⟨"PaidByCoastModel", "seeds", "(II)I"⟩ ∈ ztb := zgm 1066 (by decide +kernel) (by decide +kernel)
theorem zw_1067 : Cond.instanceMethod ⟨"PaidByCoastModel", "seeds", "(II)I"⟩ ∈ ztb := zgm 1067 (by decide +kernel) (by decide +kernel)
theorem zw_1068 : Cond.selects "PaidByCoastModel" ⟨"PaidByCoastModel", "seeds", "(II)I"⟩ ⟨"PaidByCoastModel", "seeds", "(II)I"⟩ ∈ ztb := zgm 1068 (by decide +kernel) (by decide +kernel)
theorem zwc_X12_seeds : Cond.code m_X12_seeds.1 m_X12_seeds.2.1 m_X12_seeds.2.2.1 m_X12_seeds.2.2.2.1 ∈ ztb := zgm 1069 (by decide +kernel) (by decide +kernel)
theorem zw_1070 : Cond.methodLink "PaidByCoastModel" 243 ⟨"PaidByCoastModel", "draw", "(I)I"⟩ ∈ ztb := zgm 1070 (by decide +kernel) (by decide +kernel)
theorem zw_1072 : Cond.instanceMethod ⟨"PaidByCoastModel", "draw", "(I)I"⟩ ∈ ztb := zgm 1072 (by decide +kernel) (by decide +kernel)
theorem zwc_X12_draw : Cond.code m_X12_draw.1 m_X12_draw.2.1 m_X12_draw.2.2.1 m_X12_draw.2.2.2.1 ∈ ztb := zgm 1073 (by decide +kernel) (by decide +kernel)
theorem zw_1074 : Cond.constant "PaidByCoastModel" 240 (1103515245) ∈ ztb := zgm 1074 (by decide +kernel) (by decide +kernel)
theorem zw_1075 : Cond.constant "PaidByCoastModel" 241 (2147483647) ∈ ztb := zgm 1075 (by decide +kernel) (by decide +kernel)
theorem zw_1076 : Cond.constant "PaidByCoastModel" 242 (65536) ∈ ztb := zgm 1076 (by decide +kernel) (by decide +kernel)
theorem zw_1077 : Cond.methodLink "PaidByCoastLaw" 124 ⟨"PaidByCoastModel", "count", "(I)I"⟩ ∈ ztb := zgm 1077 (by decide +kernel) (by decide +kernel)
theorem zw_1078 : Cond.instanceMethod ⟨"PaidByCoastModel", "count", "(I)I"⟩ ∈ ztb := zgm 1078 (by decide +kernel) (by decide +kernel)
theorem zw_1079 : Cond.selects "PaidByCoastModel" ⟨"PaidByCoastModel", "count", "(I)I"⟩ ⟨"PaidByCoastModel", "count", "(I)I"⟩ ∈ ztb := zgm 1079 (by decide +kernel) (by decide +kernel)
theorem zwc_X12_count : Cond.code m_X12_count.1 m_X12_count.2.1 m_X12_count.2.2.1 m_X12_count.2.2.2.1 ∈ ztb := zgm 1080 (by decide +kernel) (by decide +kernel)
theorem zw_1081 : Cond.methodLink "PaidByCoastModel" 246 ⟨"PaidByCoastModel", "fees", "()I"⟩ ∈ ztb := zgm 1081 (by decide +kernel) (by decide +kernel)
theorem zw_1083 : Cond.instanceMethod ⟨"PaidByCoastModel", "fees", "()I"⟩ ∈ ztb := zgm 1083 (by decide +kernel) (by decide +kernel)
theorem zwc_X12_fees : Cond.code m_X12_fees.1 m_X12_fees.2.1 m_X12_fees.2.2.1 m_X12_fees.2.2.2.1 ∈ ztb := zgm 1084 (by decide +kernel) (by decide +kernel)
theorem zw_1085 : Cond.sameMethod "PaidByCoast$Sand" "PaidByCoast$Sand" "isDry" "(I)Z" ∈ ztb := zgm 1085 (by decide +kernel) (by decide +kernel)
theorem zw_1086 : Cond.sameMethod "PaidByCoast$Sand" "PaidByCoast$Sand" "fee" "()I" ∈ ztb := zgm 1086 (by decide +kernel) (by decide +kernel)
theorem zw_1087 : Cond.sameMethod "PaidByCoast$Cliff" "PaidByCoast$Cliff" "fee" "()I" ∈ ztb := zgm 1087 (by decide +kernel) (by decide +kernel)
theorem zw_1088 : Cond.castable "PaidByCoast$Sand" "PaidByCoast$Shore" ∈ ztbN := zgn 1088 (by decide +kernel) rfl
theorem zw_1089 : Cond.castable "PaidByCoast$River" "PaidByCoast$Shore" ∈ ztbN := zgn 1089 (by decide +kernel) rfl
theorem zw_1090 : Cond.castable "PaidByCoast$Cliff" "PaidByCoast$Shore" ∈ ztbN := zgn 1090 (by decide +kernel) rfl
theorem zw_1091 : Cond.castable "PaidByCoast$Marsh" "PaidByCoast$Shore" ∈ ztbN := zgn 1091 (by decide +kernel) rfl
theorem zw_1092 : Cond.castable "PaidByCoast$Wall" "PaidByCoast$Shore" ∈ ztbN := zgn 1092 (by decide +kernel) rfl
theorem zin_0 : ∀ v ∈ u_ws RX0 TX0 1, v ∈ ztb := fun v h => List.mem_filter.mpr ⟨(by decide +kernel : ∀ v ∈ u_ws RX0 TX0 1, v ∈ lw_tbl) v h, List.all_eq_true.mp (by decide +kernel : (u_ws RX0 TX0 1).all goodWord = true) v h⟩
theorem zft_0 : zFt TX0 1 tyX0 := ⟨tyX0_ok, nmX0⟩
theorem zin_1 : ∀ v ∈ u_ws RX1 TX1 3, v ∈ ztb := fun v h => List.mem_filter.mpr ⟨(by decide +kernel : ∀ v ∈ u_ws RX1 TX1 3, v ∈ lw_tbl) v h, List.all_eq_true.mp (by decide +kernel : (u_ws RX1 TX1 3).all goodWord = true) v h⟩
theorem zft_1 : zFt TX1 3 tyX1 := ⟨tyX1_ok, nmX1⟩
theorem zin_2 : ∀ v ∈ u_ws RX2 TX2 7, v ∈ ztb := fun v h => List.mem_filter.mpr ⟨(by decide +kernel : ∀ v ∈ u_ws RX2 TX2 7, v ∈ lw_tbl) v h, List.all_eq_true.mp (by decide +kernel : (u_ws RX2 TX2 7).all goodWord = true) v h⟩
theorem zft_2 : zFt TX2 7 tyX2 := ⟨tyX2_ok, nmX2⟩
theorem zin_3 : ∀ v ∈ u_ws RX3 TX3 2, v ∈ ztb := fun v h => List.mem_filter.mpr ⟨(by decide +kernel : ∀ v ∈ u_ws RX3 TX3 2, v ∈ lw_tbl) v h, List.all_eq_true.mp (by decide +kernel : (u_ws RX3 TX3 2).all goodWord = true) v h⟩
theorem zft_3 : zFt TX3 2 tyX3 := ⟨tyX3_ok, nmX3⟩
theorem zin_4 : ∀ v ∈ u_ws RX4 TX4 3, v ∈ ztb := fun v h => List.mem_filter.mpr ⟨(by decide +kernel : ∀ v ∈ u_ws RX4 TX4 3, v ∈ lw_tbl) v h, List.all_eq_true.mp (by decide +kernel : (u_ws RX4 TX4 3).all goodWord = true) v h⟩
theorem zft_4 : zFt TX4 3 tyX4 := ⟨tyX4_ok, nmX4⟩
theorem zin_5 : ∀ v ∈ u_ws RX5 TX5 3, v ∈ ztb := fun v h => List.mem_filter.mpr ⟨(by decide +kernel : ∀ v ∈ u_ws RX5 TX5 3, v ∈ lw_tbl) v h, List.all_eq_true.mp (by decide +kernel : (u_ws RX5 TX5 3).all goodWord = true) v h⟩
theorem zft_5 : zFt TX5 3 tyX5 := ⟨tyX5_ok, nmX5⟩
theorem zin_6 : ∀ v ∈ u_ws RX6 TX6 4, v ∈ ztb := fun v h => List.mem_filter.mpr ⟨(by decide +kernel : ∀ v ∈ u_ws RX6 TX6 4, v ∈ lw_tbl) v h, List.all_eq_true.mp (by decide +kernel : (u_ws RX6 TX6 4).all goodWord = true) v h⟩
theorem zft_6 : zFt TX6 4 tyX6 := ⟨tyX6_ok, nmX6⟩
theorem zin_7 : ∀ v ∈ u_ws RX7 TX7 2, v ∈ ztb := fun v h => List.mem_filter.mpr ⟨(by decide +kernel : ∀ v ∈ u_ws RX7 TX7 2, v ∈ lw_tbl) v h, List.all_eq_true.mp (by decide +kernel : (u_ws RX7 TX7 2).all goodWord = true) v h⟩
theorem zft_7 : zFt TX7 2 tyX7 := ⟨tyX7_ok, nmX7⟩
theorem zin_8 : ∀ v ∈ u_ws RX8 TX8 3, v ∈ ztb := fun v h => List.mem_filter.mpr ⟨(by decide +kernel : ∀ v ∈ u_ws RX8 TX8 3, v ∈ lw_tbl) v h, List.all_eq_true.mp (by decide +kernel : (u_ws RX8 TX8 3).all goodWord = true) v h⟩
theorem zft_8 : zFt TX8 3 tyX8 := ⟨tyX8_ok, nmX8⟩
theorem zin_9 : ∀ v ∈ u_ws RX9 TX9 3, v ∈ ztb := fun v h => List.mem_filter.mpr ⟨(by decide +kernel : ∀ v ∈ u_ws RX9 TX9 3, v ∈ lw_tbl) v h, List.all_eq_true.mp (by decide +kernel : (u_ws RX9 TX9 3).all goodWord = true) v h⟩
theorem zft_9 : zFt TX9 3 tyX9 := ⟨tyX9_ok, nmX9⟩
theorem zin_10 : ∀ v ∈ u_ws RX10 TX10 3, v ∈ ztb := fun v h => List.mem_filter.mpr ⟨(by decide +kernel : ∀ v ∈ u_ws RX10 TX10 3, v ∈ lw_tbl) v h, List.all_eq_true.mp (by decide +kernel : (u_ws RX10 TX10 3).all goodWord = true) v h⟩
theorem zft_10 : zFt TX10 3 tyX10 := ⟨tyX10_ok, nmX10⟩
theorem zin_11 : ∀ v ∈ u_ws RX11 TX11 9, v ∈ ztb := fun v h => List.mem_filter.mpr ⟨(by decide +kernel : ∀ v ∈ u_ws RX11 TX11 9, v ∈ lw_tbl) v h, List.all_eq_true.mp (by decide +kernel : (u_ws RX11 TX11 9).all goodWord = true) v h⟩
theorem zft_11 : zFt TX11 9 tyX11 := ⟨tyX11_ok, nmX11⟩
theorem zin_12 : ∀ v ∈ u_ws RX12 TX12 37, v ∈ ztb := fun v h => List.mem_filter.mpr ⟨(by decide +kernel : ∀ v ∈ u_ws RX12 TX12 37, v ∈ lw_tbl) v h, List.all_eq_true.mp (by decide +kernel : (u_ws RX12 TX12 37).all goodWord = true) v h⟩
theorem zft_12 : zFt TX12 37 tyX12 := ⟨tyX12_ok, nmX12⟩
theorem zfd_RX11_10_11 : zFd RX11 10 11 0 TX11 9 RX11 := ⟨rfl, zin_11, by decide, "PaidByCoast", zw_149, Or.inl rfl⟩
theorem zfd_RX11_16_11 : zFd RX11 16 11 1 TX11 9 RX11 := ⟨rfl, zin_11, by decide, "PaidByCoast", zw_150, Or.inl rfl⟩
theorem zfd_RX11_19_11 : zFd RX11 19 11 2 TX11 9 RX11 := ⟨rfl, zin_11, by decide, "PaidByCoast", zw_151, Or.inl rfl⟩
theorem zfd_RX11_25_11 : zFd RX11 25 11 4 TX11 9 RX11 := ⟨rfl, zin_11, by decide, "PaidByCoast", zw_153, Or.inl rfl⟩
theorem zfd_RX11_32_11 : zFd RX11 32 11 5 TX11 9 RX11 := ⟨rfl, zin_11, by decide, "PaidByCoast", zw_154, Or.inl rfl⟩
theorem zfd_RX11_36_11 : zFd RX11 36 11 6 TX11 9 RX11 := ⟨rfl, zin_11, by decide, "PaidByCoast", zw_155, Or.inl rfl⟩
theorem zfd_RX11_40_11 : zFd RX11 40 11 8 TX11 9 RX11 := ⟨rfl, zin_11, by decide, "PaidByCoast", zw_157, Or.inl rfl⟩
theorem zfd_RX11_51_3 : zFn RX11 51 3 1 TX3 2 RX3 := ⟨rfl, zin_3, by decide, "PaidByCoast$Letters", "PaidByCoast", zw_143, Or.inl rfl⟩
theorem zfd_RX11_71_1 : zFd RX11 71 1 0 TX1 3 RX1 := ⟨rfl, zin_1, by decide, "PaidByCoast$Shore", zw_272, Or.inl rfl⟩
theorem zfd_RX11_71_4 : zFd RX11 71 4 0 TX4 3 RX4 := ⟨rfl, zin_4, by decide, "PaidByCoast$Shore", zw_272, Or.inl rfl⟩
theorem zfd_RX11_71_5 : zFd RX11 71 5 0 TX5 3 RX5 := ⟨rfl, zin_5, by decide, "PaidByCoast$Shore", zw_272, Or.inl rfl⟩
theorem zfd_RX11_71_8 : zFd RX11 71 8 0 TX8 3 RX8 := ⟨rfl, zin_8, by decide, "PaidByCoast$Shore", zw_272, Or.inl rfl⟩
theorem zfd_RX11_71_9 : zFd RX11 71 9 0 TX9 3 RX9 := ⟨rfl, zin_9, by decide, "PaidByCoast$Shore", zw_272, Or.inl rfl⟩
theorem zfd_RX11_71_10 : zFd RX11 71 10 0 TX10 3 RX10 := ⟨rfl, zin_10, by decide, "PaidByCoast$Shore", zw_272, Or.inl rfl⟩
theorem zfd_RX11_74_1 : zFd RX11 74 1 2 TX1 3 RX1 := ⟨rfl, zin_1, by decide, "PaidByCoast$Shore", zw_276, Or.inl rfl⟩
theorem zfd_RX11_74_4 : zFd RX11 74 4 2 TX4 3 RX4 := ⟨rfl, zin_4, by decide, "PaidByCoast$Shore", zw_276, Or.inl rfl⟩
theorem zfd_RX11_74_5 : zFd RX11 74 5 2 TX5 3 RX5 := ⟨rfl, zin_5, by decide, "PaidByCoast$Shore", zw_276, Or.inl rfl⟩
theorem zfd_RX11_74_8 : zFd RX11 74 8 2 TX8 3 RX8 := ⟨rfl, zin_8, by decide, "PaidByCoast$Shore", zw_276, Or.inl rfl⟩
theorem zfd_RX11_74_9 : zFd RX11 74 9 2 TX9 3 RX9 := ⟨rfl, zin_9, by decide, "PaidByCoast$Shore", zw_276, Or.inl rfl⟩
theorem zfd_RX11_74_10 : zFd RX11 74 10 2 TX10 3 RX10 := ⟨rfl, zin_10, by decide, "PaidByCoast$Shore", zw_276, Or.inl rfl⟩
theorem zfd_RX11_77_1 : zFd RX11 77 1 1 TX1 3 RX1 := ⟨rfl, zin_1, by decide, "PaidByCoast$Shore", zw_274, Or.inl rfl⟩
theorem zfd_RX11_77_4 : zFd RX11 77 4 1 TX4 3 RX4 := ⟨rfl, zin_4, by decide, "PaidByCoast$Shore", zw_274, Or.inl rfl⟩
theorem zfd_RX11_77_5 : zFd RX11 77 5 1 TX5 3 RX5 := ⟨rfl, zin_5, by decide, "PaidByCoast$Shore", zw_274, Or.inl rfl⟩
theorem zfd_RX11_77_8 : zFd RX11 77 8 1 TX8 3 RX8 := ⟨rfl, zin_8, by decide, "PaidByCoast$Shore", zw_274, Or.inl rfl⟩
theorem zfd_RX11_77_9 : zFd RX11 77 9 1 TX9 3 RX9 := ⟨rfl, zin_9, by decide, "PaidByCoast$Shore", zw_274, Or.inl rfl⟩
theorem zfd_RX11_77_10 : zFd RX11 77 10 1 TX10 3 RX10 := ⟨rfl, zin_10, by decide, "PaidByCoast$Shore", zw_274, Or.inl rfl⟩
theorem zfd_RX11_80_2 : zFn RX11 80 2 6 TX2 7 RX2 := ⟨rfl, zin_2, by decide, "PaidByCoast$Coast", "PaidByCoast", zw_108, Or.inl rfl⟩
theorem zfd_RX11_156_2 : zFn RX11 156 2 5 TX2 7 RX2 := ⟨rfl, zin_2, by decide, "PaidByCoast$Coast", "PaidByCoast", zw_106, Or.inl rfl⟩
theorem zfd_RX11_166_6 : zFn RX11 166 6 0 TX6 4 RX6 := ⟨rfl, zin_6, by decide, "PaidByCoast$Rock", "PaidByCoast", zw_353, Or.inl rfl⟩
theorem zfd_RX11_171_6 : zFn RX11 171 6 1 TX6 4 RX6 := ⟨rfl, zin_6, by decide, "PaidByCoast$Rock", "PaidByCoast", zw_356, Or.inl rfl⟩
theorem zfd_RX11_174_6 : zFn RX11 174 6 2 TX6 4 RX6 := ⟨rfl, zin_6, by decide, "PaidByCoast$Rock", "PaidByCoast", zw_358, Or.inl rfl⟩
theorem zfd_RX11_177_6 : zFn RX11 177 6 3 TX6 4 RX6 := ⟨rfl, zin_6, by decide, "PaidByCoast$Rock", "PaidByCoast", zw_360, Or.inl rfl⟩
theorem zfd_RX11_210_11 : zFd RX11 210 11 7 TX11 9 RX11 := ⟨rfl, zin_11, by decide, "PaidByCoast", zw_156, Or.inl rfl⟩
theorem zfd_RX11_223_11 : zFd RX11 223 11 3 TX11 9 RX11 := ⟨rfl, zin_11, by decide, "PaidByCoast", zw_152, Or.inl rfl⟩
theorem zfd_RX11_227_2 : zFn RX11 227 2 4 TX2 7 RX2 := ⟨rfl, zin_2, by decide, "PaidByCoast$Coast", "PaidByCoast", zw_103, Or.inl rfl⟩
theorem zfd_RX11_230_2 : zFn RX11 230 2 1 TX2 7 RX2 := ⟨rfl, zin_2, by decide, "PaidByCoast$Coast", "PaidByCoast", zw_99, Or.inl rfl⟩
theorem zfd_RX11_233_7 : zFn RX11 233 7 1 TX7 2 RX7 := ⟨rfl, zin_7, by decide, "PaidByCoast$Rocks", "PaidByCoast", zw_90, Or.inl rfl⟩
theorem zfd_RX0_9_0 : zFd RX0 9 0 0 TX0 1 RX0 := ⟨rfl, zin_0, by decide, "PaidByCoast$Boat", zw_131, Or.inl rfl⟩
theorem zfd_RX1_11_1 : zFd RX1 11 1 0 TX1 3 RX1 := ⟨rfl, zin_1, by decide, "PaidByCoast$Cliff", zw_268, Or.inr zw_269⟩
theorem zfd_RX1_11_10 : zFd RX1 11 10 0 TX10 3 RX10 := ⟨rfl, zin_10, by decide, "PaidByCoast$Cliff", zw_268, Or.inr zw_269⟩
theorem zfd_RX2_11_2 : zFd RX2 11 2 0 TX2 7 RX2 := ⟨rfl, zin_2, by decide, "PaidByCoast$Coast", zw_97, Or.inl rfl⟩
theorem zfd_RX2_17_2 : zFd RX2 17 2 2 TX2 7 RX2 := ⟨rfl, zin_2, by decide, "PaidByCoast$Coast", zw_100, Or.inl rfl⟩
theorem zfd_RX2_21_2 : zFd RX2 21 2 3 TX2 7 RX2 := ⟨rfl, zin_2, by decide, "PaidByCoast$Coast", zw_101, Or.inl rfl⟩
theorem zfd_RX2_27_2 : zFd RX2 27 2 5 TX2 7 RX2 := ⟨rfl, zin_2, by decide, "PaidByCoast$Coast", zw_104, Or.inl rfl⟩
theorem zfd_RX2_31_2 : zFd RX2 31 2 1 TX2 7 RX2 := ⟨rfl, zin_2, by decide, "PaidByCoast$Coast", zw_98, Or.inl rfl⟩
theorem zfd_RX2_39_2 : zFd RX2 39 2 4 TX2 7 RX2 := ⟨rfl, zin_2, by decide, "PaidByCoast$Coast", zw_102, Or.inl rfl⟩
theorem zfd_RX2_53_2 : zFd RX2 53 2 6 TX2 7 RX2 := ⟨rfl, zin_2, by decide, "PaidByCoast$Coast", zw_107, Or.inl rfl⟩
theorem zfd_RX3_9_3 : zFd RX3 9 3 0 TX3 2 RX3 := ⟨rfl, zin_3, by decide, "PaidByCoast$Letters", zw_141, Or.inl rfl⟩
theorem zfd_RX3_15_3 : zFd RX3 15 3 1 TX3 2 RX3 := ⟨rfl, zin_3, by decide, "PaidByCoast$Letters", zw_142, Or.inl rfl⟩
theorem zfd_RX3_52_2 : zFn RX3 52 2 5 TX2 7 RX2 := ⟨rfl, zin_2, by decide, "PaidByCoast$Coast", "PaidByCoast", zw_105, Or.inl rfl⟩
theorem zfd_RX3_65_2 : zFn RX3 65 2 6 TX2 7 RX2 := ⟨rfl, zin_2, by decide, "PaidByCoast$Coast", "PaidByCoast", zw_109, Or.inl rfl⟩
theorem zfd_RX6_7_6 : zFd RX6 7 6 0 TX6 4 RX6 := ⟨rfl, zin_6, by decide, "PaidByCoast$Rock", zw_351, Or.inl rfl⟩
theorem zfd_RX6_13_6 : zFd RX6 13 6 1 TX6 4 RX6 := ⟨rfl, zin_6, by decide, "PaidByCoast$Rock", zw_354, Or.inl rfl⟩
theorem zfd_RX6_16_6 : zFd RX6 16 6 2 TX6 4 RX6 := ⟨rfl, zin_6, by decide, "PaidByCoast$Rock", zw_357, Or.inl rfl⟩
theorem zfd_RX6_19_6 : zFd RX6 19 6 3 TX6 4 RX6 := ⟨rfl, zin_6, by decide, "PaidByCoast$Rock", zw_359, Or.inl rfl⟩
theorem zfd_RX7_11_7 : zFd RX7 11 7 0 TX7 2 RX7 := ⟨rfl, zin_7, by decide, "PaidByCoast$Rocks", zw_88, Or.inl rfl⟩
theorem zfd_RX7_17_7 : zFd RX7 17 7 1 TX7 2 RX7 := ⟨rfl, zin_7, by decide, "PaidByCoast$Rocks", zw_89, Or.inl rfl⟩
theorem zfd_RX7_44_6 : zFn RX7 44 6 0 TX6 4 RX6 := ⟨rfl, zin_6, by decide, "PaidByCoast$Rock", "PaidByCoast", zw_352, Or.inl rfl⟩
theorem zfd_RX7_47_6 : zFn RX7 47 6 1 TX6 4 RX6 := ⟨rfl, zin_6, by decide, "PaidByCoast$Rock", "PaidByCoast", zw_355, Or.inl rfl⟩
theorem zfd_RX8_7_4 : zFd RX8 7 4 0 TX4 3 RX4 := ⟨rfl, zin_4, by decide, "PaidByCoast$Sand", zw_266, Or.inr zw_267⟩
theorem zfd_RX8_7_8 : zFd RX8 7 8 0 TX8 3 RX8 := ⟨rfl, zin_8, by decide, "PaidByCoast$Sand", zw_266, Or.inr zw_267⟩
theorem zfd_RX9_7_1 : zFd RX9 7 1 0 TX1 3 RX1 := ⟨rfl, zin_1, by decide, "PaidByCoast$Shore", zw_265, Or.inl rfl⟩
theorem zfd_RX9_7_4 : zFd RX9 7 4 0 TX4 3 RX4 := ⟨rfl, zin_4, by decide, "PaidByCoast$Shore", zw_265, Or.inl rfl⟩
theorem zfd_RX9_7_5 : zFd RX9 7 5 0 TX5 3 RX5 := ⟨rfl, zin_5, by decide, "PaidByCoast$Shore", zw_265, Or.inl rfl⟩
theorem zfd_RX9_7_8 : zFd RX9 7 8 0 TX8 3 RX8 := ⟨rfl, zin_8, by decide, "PaidByCoast$Shore", zw_265, Or.inl rfl⟩
theorem zfd_RX9_7_9 : zFd RX9 7 9 0 TX9 3 RX9 := ⟨rfl, zin_9, by decide, "PaidByCoast$Shore", zw_265, Or.inl rfl⟩
theorem zfd_RX9_7_10 : zFd RX9 7 10 0 TX10 3 RX10 := ⟨rfl, zin_10, by decide, "PaidByCoast$Shore", zw_265, Or.inl rfl⟩
theorem zfd_RX9_13_1 : zFd RX9 13 1 1 TX1 3 RX1 := ⟨rfl, zin_1, by decide, "PaidByCoast$Shore", zw_273, Or.inl rfl⟩
theorem zfd_RX9_13_4 : zFd RX9 13 4 1 TX4 3 RX4 := ⟨rfl, zin_4, by decide, "PaidByCoast$Shore", zw_273, Or.inl rfl⟩
theorem zfd_RX9_13_5 : zFd RX9 13 5 1 TX5 3 RX5 := ⟨rfl, zin_5, by decide, "PaidByCoast$Shore", zw_273, Or.inl rfl⟩
theorem zfd_RX9_13_8 : zFd RX9 13 8 1 TX8 3 RX8 := ⟨rfl, zin_8, by decide, "PaidByCoast$Shore", zw_273, Or.inl rfl⟩
theorem zfd_RX9_13_9 : zFd RX9 13 9 1 TX9 3 RX9 := ⟨rfl, zin_9, by decide, "PaidByCoast$Shore", zw_273, Or.inl rfl⟩
theorem zfd_RX9_13_10 : zFd RX9 13 10 1 TX10 3 RX10 := ⟨rfl, zin_10, by decide, "PaidByCoast$Shore", zw_273, Or.inl rfl⟩
theorem zfd_RX9_16_1 : zFd RX9 16 1 2 TX1 3 RX1 := ⟨rfl, zin_1, by decide, "PaidByCoast$Shore", zw_275, Or.inl rfl⟩
theorem zfd_RX9_16_4 : zFd RX9 16 4 2 TX4 3 RX4 := ⟨rfl, zin_4, by decide, "PaidByCoast$Shore", zw_275, Or.inl rfl⟩
theorem zfd_RX9_16_5 : zFd RX9 16 5 2 TX5 3 RX5 := ⟨rfl, zin_5, by decide, "PaidByCoast$Shore", zw_275, Or.inl rfl⟩
theorem zfd_RX9_16_8 : zFd RX9 16 8 2 TX8 3 RX8 := ⟨rfl, zin_8, by decide, "PaidByCoast$Shore", zw_275, Or.inl rfl⟩
theorem zfd_RX9_16_9 : zFd RX9 16 9 2 TX9 3 RX9 := ⟨rfl, zin_9, by decide, "PaidByCoast$Shore", zw_275, Or.inl rfl⟩
theorem zfd_RX9_16_10 : zFd RX9 16 10 2 TX10 3 RX10 := ⟨rfl, zin_10, by decide, "PaidByCoast$Shore", zw_275, Or.inl rfl⟩
theorem zfd_RX10_11_10 : zFd RX10 11 10 0 TX10 3 RX10 := ⟨rfl, zin_10, by decide, "PaidByCoast$Wall", zw_270, Or.inr zw_271⟩
theorem zfd_RX12_7_12 : zFd RX12 7 12 0 TX12 37 RX12 := ⟨rfl, zin_12, by decide, "PaidByCoastModel", zw_719, Or.inl rfl⟩
theorem zfd_RX12_13_12 : zFd RX12 13 12 1 TX12 37 RX12 := ⟨rfl, zin_12, by decide, "PaidByCoastModel", zw_720, Or.inl rfl⟩
theorem zfd_RX12_16_12 : zFd RX12 16 12 2 TX12 37 RX12 := ⟨rfl, zin_12, by decide, "PaidByCoastModel", zw_721, Or.inl rfl⟩
theorem zfd_RX12_19_12 : zFd RX12 19 12 3 TX12 37 RX12 := ⟨rfl, zin_12, by decide, "PaidByCoastModel", zw_722, Or.inl rfl⟩
theorem zfd_RX12_22_12 : zFd RX12 22 12 4 TX12 37 RX12 := ⟨rfl, zin_12, by decide, "PaidByCoastModel", zw_723, Or.inl rfl⟩
theorem zfd_RX12_25_12 : zFd RX12 25 12 5 TX12 37 RX12 := ⟨rfl, zin_12, by decide, "PaidByCoastModel", zw_724, Or.inl rfl⟩
theorem zfd_RX12_28_12 : zFd RX12 28 12 6 TX12 37 RX12 := ⟨rfl, zin_12, by decide, "PaidByCoastModel", zw_725, Or.inl rfl⟩
theorem zfd_RX12_31_12 : zFd RX12 31 12 7 TX12 37 RX12 := ⟨rfl, zin_12, by decide, "PaidByCoastModel", zw_726, Or.inl rfl⟩
theorem zfd_RX12_34_12 : zFd RX12 34 12 8 TX12 37 RX12 := ⟨rfl, zin_12, by decide, "PaidByCoastModel", zw_727, Or.inl rfl⟩
theorem zfd_RX12_37_12 : zFd RX12 37 12 9 TX12 37 RX12 := ⟨rfl, zin_12, by decide, "PaidByCoastModel", zw_728, Or.inl rfl⟩
theorem zfd_RX12_40_12 : zFd RX12 40 12 10 TX12 37 RX12 := ⟨rfl, zin_12, by decide, "PaidByCoastModel", zw_729, Or.inl rfl⟩
theorem zfd_RX12_43_12 : zFd RX12 43 12 11 TX12 37 RX12 := ⟨rfl, zin_12, by decide, "PaidByCoastModel", zw_730, Or.inl rfl⟩
theorem zfd_RX12_46_12 : zFd RX12 46 12 16 TX12 37 RX12 := ⟨rfl, zin_12, by decide, "PaidByCoastModel", zw_735, Or.inl rfl⟩
theorem zfd_RX12_49_12 : zFd RX12 49 12 17 TX12 37 RX12 := ⟨rfl, zin_12, by decide, "PaidByCoastModel", zw_736, Or.inl rfl⟩
theorem zfd_RX12_52_12 : zFd RX12 52 12 18 TX12 37 RX12 := ⟨rfl, zin_12, by decide, "PaidByCoastModel", zw_737, Or.inl rfl⟩
theorem zfd_RX12_55_12 : zFd RX12 55 12 19 TX12 37 RX12 := ⟨rfl, zin_12, by decide, "PaidByCoastModel", zw_738, Or.inl rfl⟩
theorem zfd_RX12_58_12 : zFd RX12 58 12 23 TX12 37 RX12 := ⟨rfl, zin_12, by decide, "PaidByCoastModel", zw_742, Or.inl rfl⟩
theorem zfd_RX12_61_12 : zFd RX12 61 12 27 TX12 37 RX12 := ⟨rfl, zin_12, by decide, "PaidByCoastModel", zw_746, Or.inl rfl⟩
theorem zfd_RX12_64_12 : zFd RX12 64 12 28 TX12 37 RX12 := ⟨rfl, zin_12, by decide, "PaidByCoastModel", zw_747, Or.inl rfl⟩
theorem zfd_RX12_67_12 : zFd RX12 67 12 31 TX12 37 RX12 := ⟨rfl, zin_12, by decide, "PaidByCoastModel", zw_750, Or.inl rfl⟩
theorem zfd_RX12_70_12 : zFd RX12 70 12 33 TX12 37 RX12 := ⟨rfl, zin_12, by decide, "PaidByCoastModel", zw_752, Or.inl rfl⟩
theorem zfd_RX12_73_12 : zFd RX12 73 12 34 TX12 37 RX12 := ⟨rfl, zin_12, by decide, "PaidByCoastModel", zw_753, Or.inl rfl⟩
theorem zfd_RX12_81_12 : zFd RX12 81 12 20 TX12 37 RX12 := ⟨rfl, zin_12, by decide, "PaidByCoastModel", zw_739, Or.inl rfl⟩
theorem zfd_RX12_89_12 : zFd RX12 89 12 21 TX12 37 RX12 := ⟨rfl, zin_12, by decide, "PaidByCoastModel", zw_740, Or.inl rfl⟩
theorem zfd_RX12_107_12 : zFd RX12 107 12 22 TX12 37 RX12 := ⟨rfl, zin_12, by decide, "PaidByCoastModel", zw_741, Or.inl rfl⟩
theorem zfd_RX12_114_12 : zFd RX12 114 12 12 TX12 37 RX12 := ⟨rfl, zin_12, by decide, "PaidByCoastModel", zw_731, Or.inl rfl⟩
theorem zfd_RX12_117_12 : zFd RX12 117 12 13 TX12 37 RX12 := ⟨rfl, zin_12, by decide, "PaidByCoastModel", zw_732, Or.inl rfl⟩
theorem zfd_RX12_120_12 : zFd RX12 120 12 14 TX12 37 RX12 := ⟨rfl, zin_12, by decide, "PaidByCoastModel", zw_733, Or.inl rfl⟩
theorem zfd_RX12_129_12 : zFd RX12 129 12 15 TX12 37 RX12 := ⟨rfl, zin_12, by decide, "PaidByCoastModel", zw_734, Or.inl rfl⟩
theorem zfd_RX12_143_12 : zFd RX12 143 12 25 TX12 37 RX12 := ⟨rfl, zin_12, by decide, "PaidByCoastModel", zw_744, Or.inl rfl⟩
theorem zfd_RX12_147_12 : zFd RX12 147 12 26 TX12 37 RX12 := ⟨rfl, zin_12, by decide, "PaidByCoastModel", zw_745, Or.inl rfl⟩
theorem zfd_RX12_157_12 : zFd RX12 157 12 24 TX12 37 RX12 := ⟨rfl, zin_12, by decide, "PaidByCoastModel", zw_743, Or.inl rfl⟩
theorem zfd_RX12_175_12 : zFd RX12 175 12 29 TX12 37 RX12 := ⟨rfl, zin_12, by decide, "PaidByCoastModel", zw_748, Or.inl rfl⟩
theorem zfd_RX12_178_12 : zFd RX12 178 12 30 TX12 37 RX12 := ⟨rfl, zin_12, by decide, "PaidByCoastModel", zw_749, Or.inl rfl⟩
theorem zfd_RX12_216_12 : zFd RX12 216 12 32 TX12 37 RX12 := ⟨rfl, zin_12, by decide, "PaidByCoastModel", zw_751, Or.inl rfl⟩
theorem zfd_RX12_234_12 : zFd RX12 234 12 35 TX12 37 RX12 := ⟨rfl, zin_12, by decide, "PaidByCoastModel", zw_754, Or.inl rfl⟩
theorem zfd_RX12_237_12 : zFd RX12 237 12 36 TX12 37 RX12 := ⟨rfl, zin_12, by decide, "PaidByCoastModel", zw_755, Or.inl rfl⟩
theorem zcw_X0_init : zCw m_X0_init 0 := ⟨zwc_X0_init, zw_51, ⟨by decide +kernel, by decide +kernel⟩, by decide +kernel, by decide +kernel⟩
theorem zcw_X0_roundTrip : zCw m_X0_roundTrip 2 := ⟨zwc_X0_roundTrip, zw_51, ⟨by decide +kernel, by decide +kernel⟩, by decide +kernel, by decide +kernel⟩
theorem zcw_X0_putWays : zCw m_X0_putWays 2 := ⟨zwc_X0_putWays, zw_51, ⟨by decide +kernel, by decide +kernel⟩, by decide +kernel, by decide +kernel⟩
theorem zcw_X0_leastWay : zCw m_X0_leastWay 3 := ⟨zwc_X0_leastWay, zw_51, ⟨by decide +kernel, by decide +kernel⟩, by decide +kernel, by decide +kernel⟩
theorem zcw_X0_wayBy : zCw m_X0_wayBy 2 := ⟨zwc_X0_wayBy, zw_51, ⟨by decide +kernel, by decide +kernel⟩, by decide +kernel, by decide +kernel⟩
theorem zcw_X1_init : zCw m_X1_init 3 := ⟨zwc_X1_init, zw_57, ⟨by decide +kernel, by decide +kernel⟩, by decide +kernel, by decide +kernel⟩
theorem zcw_X1_kind : zCw m_X1_kind 0 := ⟨zwc_X1_kind, zw_57, ⟨by decide +kernel, by decide +kernel⟩, by decide +kernel, by decide +kernel⟩
theorem zcw_X1_fee : zCw m_X1_fee 0 := ⟨zwc_X1_fee, zw_57, ⟨by decide +kernel, by decide +kernel⟩, by decide +kernel, by decide +kernel⟩
theorem zcw_X2_init : zCw m_X2_init 0 := ⟨zwc_X2_init, zw_49, ⟨by decide +kernel, by decide +kernel⟩, by decide +kernel, by decide +kernel⟩
theorem zcw_X2_become : zCw m_X2_become 1 := ⟨zwc_X2_become, zw_49, ⟨by decide +kernel, by decide +kernel⟩, by decide +kernel, by decide +kernel⟩
theorem zcw_X2_stretchAt : zCw m_X2_stretchAt 1 := ⟨zwc_X2_stretchAt, zw_49, ⟨by decide +kernel, by decide +kernel⟩, by decide +kernel, by decide +kernel⟩
theorem zcw_X2_appendStretch : zCw m_X2_appendStretch 3 := ⟨zwc_X2_appendStretch, zw_49, ⟨by decide +kernel, by decide +kernel⟩, by decide +kernel, by decide +kernel⟩
theorem zcw_X2_appendYard : zCw m_X2_appendYard 1 := ⟨zwc_X2_appendYard, zw_49, ⟨by decide +kernel, by decide +kernel⟩, by decide +kernel, by decide +kernel⟩
theorem zcw_X2_hasPlace : zCw m_X2_hasPlace 1 := ⟨zwc_X2_hasPlace, zw_49, ⟨by decide +kernel, by decide +kernel⟩, by decide +kernel, by decide +kernel⟩
theorem zcw_X2_xAt : zCw m_X2_xAt 1 := ⟨zwc_X2_xAt, zw_49, ⟨by decide +kernel, by decide +kernel⟩, by decide +kernel, by decide +kernel⟩
theorem zcw_X2_yAt : zCw m_X2_yAt 1 := ⟨zwc_X2_yAt, zw_49, ⟨by decide +kernel, by decide +kernel⟩, by decide +kernel, by decide +kernel⟩
theorem zcw_X2_shoreNow : zCw m_X2_shoreNow 0 := ⟨zwc_X2_shoreNow, zw_49, ⟨by decide +kernel, by decide +kernel⟩, by decide +kernel, by decide +kernel⟩
theorem zcw_X2_shoreAt : zCw m_X2_shoreAt 1 := ⟨zwc_X2_shoreAt, zw_49, ⟨by decide +kernel, by decide +kernel⟩, by decide +kernel, by decide +kernel⟩
theorem zcw_X2_feesOfStretches : zCw m_X2_feesOfStretches 0 := ⟨zwc_X2_feesOfStretches, zw_49, ⟨by decide +kernel, by decide +kernel⟩, by decide +kernel, by decide +kernel⟩
theorem zcw_X2_feesOf : zCw m_X2_feesOf 1 := ⟨zwc_X2_feesOf, zw_49, ⟨by decide +kernel, by decide +kernel⟩, by decide +kernel, by decide +kernel⟩
theorem zcw_X2_isRodApart : zCw m_X2_isRodApart 3 := ⟨zwc_X2_isRodApart, zw_49, ⟨by decide +kernel, by decide +kernel⟩, by decide +kernel, by decide +kernel⟩
theorem zcw_X2_reachedFrom : zCw m_X2_reachedFrom 3 := ⟨zwc_X2_reachedFrom, zw_49, ⟨by decide +kernel, by decide +kernel⟩, by decide +kernel, by decide +kernel⟩
theorem zcw_X2_milesOf : zCw m_X2_milesOf 3 := ⟨zwc_X2_milesOf, zw_49, ⟨by decide +kernel, by decide +kernel⟩, by decide +kernel, by decide +kernel⟩
theorem zcw_X2_milesWithout : zCw m_X2_milesWithout 2 := ⟨zwc_X2_milesWithout, zw_49, ⟨by decide +kernel, by decide +kernel⟩, by decide +kernel, by decide +kernel⟩
theorem zcw_X2_milesOfTwo : zCw m_X2_milesOfTwo 3 := ⟨zwc_X2_milesOfTwo, zw_49, ⟨by decide +kernel, by decide +kernel⟩, by decide +kernel, by decide +kernel⟩
theorem zcw_X2_stepFrom : zCw m_X2_stepFrom 4 := ⟨zwc_X2_stepFrom, zw_49, ⟨by decide +kernel, by decide +kernel⟩, by decide +kernel, by decide +kernel⟩
theorem zcw_X3_init : zCw m_X3_init 0 := ⟨zwc_X3_init, zw_52, ⟨by decide +kernel, by decide +kernel⟩, by decide +kernel, by decide +kernel⟩
theorem zcw_X3_append : zCw m_X3_append 1 := ⟨zwc_X3_append, zw_52, ⟨by decide +kernel, by decide +kernel⟩, by decide +kernel, by decide +kernel⟩
theorem zcw_X3_letterAt : zCw m_X3_letterAt 1 := ⟨zwc_X3_letterAt, zw_52, ⟨by decide +kernel, by decide +kernel⟩, by decide +kernel, by decide +kernel⟩
theorem zcw_X3_isDigit : zCw m_X3_isDigit 1 := ⟨zwc_X3_isDigit, zw_52, ⟨by decide +kernel, by decide +kernel⟩, by decide +kernel, by decide +kernel⟩
theorem zcw_X3_digitAt : zCw m_X3_digitAt 1 := ⟨zwc_X3_digitAt, zw_52, ⟨by decide +kernel, by decide +kernel⟩, by decide +kernel, by decide +kernel⟩
theorem zcw_X3_pairAt : zCw m_X3_pairAt 1 := ⟨zwc_X3_pairAt, zw_52, ⟨by decide +kernel, by decide +kernel⟩, by decide +kernel, by decide +kernel⟩
theorem zcw_X3_isWay : zCw m_X3_isWay 1 := ⟨zwc_X3_isWay, zw_52, ⟨by decide +kernel, by decide +kernel⟩, by decide +kernel, by decide +kernel⟩
theorem zcw_X3_waysFrom : zCw m_X3_waysFrom 1 := ⟨zwc_X3_waysFrom, zw_52, ⟨by decide +kernel, by decide +kernel⟩, by decide +kernel, by decide +kernel⟩
theorem zcw_X3_digitsOf : zCw m_X3_digitsOf 1 := ⟨zwc_X3_digitsOf, zw_52, ⟨by decide +kernel, by decide +kernel⟩, by decide +kernel, by decide +kernel⟩
theorem zcw_X3_behindStatement : zCw m_X3_behindStatement 1 := ⟨zwc_X3_behindStatement, zw_52, ⟨by decide +kernel, by decide +kernel⟩, by decide +kernel, by decide +kernel⟩
theorem zcw_X3_wrongLetter : zCw m_X3_wrongLetter 0 := ⟨zwc_X3_wrongLetter, zw_52, ⟨by decide +kernel, by decide +kernel⟩, by decide +kernel, by decide +kernel⟩
theorem zcw_X3_tell : zCw m_X3_tell 2 := ⟨zwc_X3_tell, zw_52, ⟨by decide +kernel, by decide +kernel⟩, by decide +kernel, by decide +kernel⟩
theorem zcw_X4_init : zCw m_X4_init 3 := ⟨zwc_X4_init, zw_58, ⟨by decide +kernel, by decide +kernel⟩, by decide +kernel, by decide +kernel⟩
theorem zcw_X4_kind : zCw m_X4_kind 0 := ⟨zwc_X4_kind, zw_58, ⟨by decide +kernel, by decide +kernel⟩, by decide +kernel, by decide +kernel⟩
theorem zcw_X4_isDry : zCw m_X4_isDry 1 := ⟨zwc_X4_isDry, zw_58, ⟨by decide +kernel, by decide +kernel⟩, by decide +kernel, by decide +kernel⟩
theorem zcw_X4_fee : zCw m_X4_fee 0 := ⟨zwc_X4_fee, zw_58, ⟨by decide +kernel, by decide +kernel⟩, by decide +kernel, by decide +kernel⟩
theorem zcw_X5_init : zCw m_X5_init 3 := ⟨zwc_X5_init, zw_56, ⟨by decide +kernel, by decide +kernel⟩, by decide +kernel, by decide +kernel⟩
theorem zcw_X5_kind : zCw m_X5_kind 0 := ⟨zwc_X5_kind, zw_56, ⟨by decide +kernel, by decide +kernel⟩, by decide +kernel, by decide +kernel⟩
theorem zcw_X5_isDry : zCw m_X5_isDry 1 := ⟨zwc_X5_isDry, zw_56, ⟨by decide +kernel, by decide +kernel⟩, by decide +kernel, by decide +kernel⟩
theorem zcw_X5_fee : zCw m_X5_fee 0 := ⟨zwc_X5_fee, zw_56, ⟨by decide +kernel, by decide +kernel⟩, by decide +kernel, by decide +kernel⟩
theorem zcw_X6_init : zCw m_X6_init 4 := ⟨zwc_X6_init, zw_60, ⟨by decide +kernel, by decide +kernel⟩, by decide +kernel, by decide +kernel⟩
theorem zcw_X6_isIsland : zCw m_X6_isIsland 1 := ⟨zwc_X6_isIsland, zw_60, ⟨by decide +kernel, by decide +kernel⟩, by decide +kernel, by decide +kernel⟩
theorem zcw_X7_init : zCw m_X7_init 0 := ⟨zwc_X7_init, zw_50, ⟨by decide +kernel, by decide +kernel⟩, by decide +kernel, by decide +kernel⟩
theorem zcw_X7_rockAt : zCw m_X7_rockAt 1 := ⟨zwc_X7_rockAt, zw_50, ⟨by decide +kernel, by decide +kernel⟩, by decide +kernel, by decide +kernel⟩
theorem zcw_X7_append : zCw m_X7_append 4 := ⟨zwc_X7_append, zw_50, ⟨by decide +kernel, by decide +kernel⟩, by decide +kernel, by decide +kernel⟩
theorem zcw_X7_become : zCw m_X7_become 1 := ⟨zwc_X7_become, zw_50, ⟨by decide +kernel, by decide +kernel⟩, by decide +kernel, by decide +kernel⟩
theorem zcw_X7_islandsAt : zCw m_X7_islandsAt 1 := ⟨zwc_X7_islandsAt, zw_50, ⟨by decide +kernel, by decide +kernel⟩, by decide +kernel, by decide +kernel⟩
theorem zcw_X7_fewestHours : zCw m_X7_fewestHours 0 := ⟨zwc_X7_fewestHours, zw_50, ⟨by decide +kernel, by decide +kernel⟩, by decide +kernel, by decide +kernel⟩
theorem zcw_X7_showsAll : zCw m_X7_showsAll 1 := ⟨zwc_X7_showsAll, zw_50, ⟨by decide +kernel, by decide +kernel⟩, by decide +kernel, by decide +kernel⟩
theorem zcw_X7_yardsFromHome : zCw m_X7_yardsFromHome 1 := ⟨zwc_X7_yardsFromHome, zw_50, ⟨by decide +kernel, by decide +kernel⟩, by decide +kernel, by decide +kernel⟩
theorem zcw_X7_yardsBetween : zCw m_X7_yardsBetween 2 := ⟨zwc_X7_yardsBetween, zw_50, ⟨by decide +kernel, by decide +kernel⟩, by decide +kernel, by decide +kernel⟩
theorem zcw_X8_init : zCw m_X8_init 3 := ⟨zwc_X8_init, zw_55, ⟨by decide +kernel, by decide +kernel⟩, by decide +kernel, by decide +kernel⟩
theorem zcw_X8_kind : zCw m_X8_kind 0 := ⟨zwc_X8_kind, zw_55, ⟨by decide +kernel, by decide +kernel⟩, by decide +kernel, by decide +kernel⟩
theorem zcw_X8_isDry : zCw m_X8_isDry 1 := ⟨zwc_X8_isDry, zw_55, ⟨by decide +kernel, by decide +kernel⟩, by decide +kernel, by decide +kernel⟩
theorem zcw_X8_fee : zCw m_X8_fee 0 := ⟨zwc_X8_fee, zw_55, ⟨by decide +kernel, by decide +kernel⟩, by decide +kernel, by decide +kernel⟩
theorem zcw_X9_init : zCw m_X9_init 3 := ⟨zwc_X9_init, zw_54, ⟨by decide +kernel, by decide +kernel⟩, by decide +kernel, by decide +kernel⟩
theorem zcw_X9_kind : zCw m_X9_kind 0 := ⟨zwc_X9_kind, zw_54, ⟨by decide +kernel, by decide +kernel⟩, by decide +kernel, by decide +kernel⟩
theorem zcw_X9_isDry : zCw m_X9_isDry 1 := ⟨zwc_X9_isDry, zw_54, ⟨by decide +kernel, by decide +kernel⟩, by decide +kernel, by decide +kernel⟩
theorem zcw_X9_fee : zCw m_X9_fee 0 := ⟨zwc_X9_fee, zw_54, ⟨by decide +kernel, by decide +kernel⟩, by decide +kernel, by decide +kernel⟩
theorem zcw_X9_places : zCw m_X9_places 0 := ⟨zwc_X9_places, zw_54, ⟨by decide +kernel, by decide +kernel⟩, by decide +kernel, by decide +kernel⟩
theorem zcw_X10_init : zCw m_X10_init 3 := ⟨zwc_X10_init, zw_59, ⟨by decide +kernel, by decide +kernel⟩, by decide +kernel, by decide +kernel⟩
theorem zcw_X10_kind : zCw m_X10_kind 0 := ⟨zwc_X10_kind, zw_59, ⟨by decide +kernel, by decide +kernel⟩, by decide +kernel, by decide +kernel⟩
theorem zcw_X10_isDry : zCw m_X10_isDry 1 := ⟨zwc_X10_isDry, zw_59, ⟨by decide +kernel, by decide +kernel⟩, by decide +kernel, by decide +kernel⟩
theorem zcw_X10_fee : zCw m_X10_fee 0 := ⟨zwc_X10_fee, zw_59, ⟨by decide +kernel, by decide +kernel⟩, by decide +kernel, by decide +kernel⟩
theorem zcw_X11_init : zCw m_X11_init 0 := ⟨zwc_X11_init, zw_48, ⟨by decide +kernel, by decide +kernel⟩, by decide +kernel, by decide +kernel⟩
theorem zcw_X11_feed : zCw m_X11_feed 1 := ⟨zwc_X11_feed, zw_48, ⟨by decide +kernel, by decide +kernel⟩, by decide +kernel, by decide +kernel⟩
theorem zcw_X11_coast : zCw m_X11_coast 0 := ⟨zwc_X11_coast, zw_48, ⟨by decide +kernel, by decide +kernel⟩, by decide +kernel, by decide +kernel⟩
theorem zcw_X11_stretch : zCw m_X11_stretch 2 := ⟨zwc_X11_stretch, zw_48, ⟨by decide +kernel, by decide +kernel⟩, by decide +kernel, by decide +kernel⟩
theorem zcw_X11_point : zCw m_X11_point 2 := ⟨zwc_X11_point, zw_48, ⟨by decide +kernel, by decide +kernel⟩, by decide +kernel, by decide +kernel⟩
theorem zcw_X11_shore : zCw m_X11_shore 1 := ⟨zwc_X11_shore, zw_48, ⟨by decide +kernel, by decide +kernel⟩, by decide +kernel, by decide +kernel⟩
theorem zcw_X11_tide : zCw m_X11_tide 1 := ⟨zwc_X11_tide, zw_48, ⟨by decide +kernel, by decide +kernel⟩, by decide +kernel, by decide +kernel⟩
theorem zcw_X11_walk : zCw m_X11_walk 3 := ⟨zwc_X11_walk, zw_48, ⟨by decide +kernel, by decide +kernel⟩, by decide +kernel, by decide +kernel⟩
theorem zcw_X11_place : zCw m_X11_place 3 := ⟨zwc_X11_place, zw_48, ⟨by decide +kernel, by decide +kernel⟩, by decide +kernel, by decide +kernel⟩
theorem zcw_X11_best : zCw m_X11_best 2 := ⟨zwc_X11_best, zw_48, ⟨by decide +kernel, by decide +kernel⟩, by decide +kernel, by decide +kernel⟩
theorem zcw_X11_span : zCw m_X11_span 1 := ⟨zwc_X11_span, zw_48, ⟨by decide +kernel, by decide +kernel⟩, by decide +kernel, by decide +kernel⟩
theorem zcw_X11_finer : zCw m_X11_finer 1 := ⟨zwc_X11_finer, zw_48, ⟨by decide +kernel, by decide +kernel⟩, by decide +kernel, by decide +kernel⟩
theorem zcw_X11_two : zCw m_X11_two 3 := ⟨zwc_X11_two, zw_48, ⟨by decide +kernel, by decide +kernel⟩, by decide +kernel, by decide +kernel⟩
theorem zcw_X11_map : zCw m_X11_map 2 := ⟨zwc_X11_map, zw_48, ⟨by decide +kernel, by decide +kernel⟩, by decide +kernel, by decide +kernel⟩
theorem zcw_X11_rock : zCw m_X11_rock 2 := ⟨zwc_X11_rock, zw_48, ⟨by decide +kernel, by decide +kernel⟩, by decide +kernel, by decide +kernel⟩
theorem zcw_X11_islands : zCw m_X11_islands 0 := ⟨zwc_X11_islands, zw_48, ⟨by decide +kernel, by decide +kernel⟩, by decide +kernel, by decide +kernel⟩
theorem zcw_X11_hours : zCw m_X11_hours 1 := ⟨zwc_X11_hours, zw_48, ⟨by decide +kernel, by decide +kernel⟩, by decide +kernel, by decide +kernel⟩
theorem zcw_X11_boat : zCw m_X11_boat 0 := ⟨zwc_X11_boat, zw_48, ⟨by decide +kernel, by decide +kernel⟩, by decide +kernel, by decide +kernel⟩
theorem zcw_X11_cut : zCw m_X11_cut 2 := ⟨zwc_X11_cut, zw_48, ⟨by decide +kernel, by decide +kernel⟩, by decide +kernel, by decide +kernel⟩
theorem zcw_X11_worstCut : zCw m_X11_worstCut 1 := ⟨zwc_X11_worstCut, zw_48, ⟨by decide +kernel, by decide +kernel⟩, by decide +kernel, by decide +kernel⟩
theorem zcw_X11_copy : zCw m_X11_copy 2 := ⟨zwc_X11_copy, zw_48, ⟨by decide +kernel, by decide +kernel⟩, by decide +kernel, by decide +kernel⟩
theorem zcw_X11_sure : zCw m_X11_sure 1 := ⟨zwc_X11_sure, zw_48, ⟨by decide +kernel, by decide +kernel⟩, by decide +kernel, by decide +kernel⟩
theorem zcw_X11_row : zCw m_X11_row 1 := ⟨zwc_X11_row, zw_48, ⟨by decide +kernel, by decide +kernel⟩, by decide +kernel, by decide +kernel⟩
theorem zcw_X11_judge : zCw m_X11_judge 2 := ⟨zwc_X11_judge, zw_48, ⟨by decide +kernel, by decide +kernel⟩, by decide +kernel, by decide +kernel⟩
theorem zcw_X11_seeds : zCw m_X11_seeds 2 := ⟨zwc_X11_seeds, zw_48, ⟨by decide +kernel, by decide +kernel⟩, by decide +kernel, by decide +kernel⟩
theorem zcw_X11_image : zCw m_X11_image 0 := ⟨zwc_X11_image, zw_48, ⟨by decide +kernel, by decide +kernel⟩, by decide +kernel, by decide +kernel⟩
theorem zcw_X11_restore : zCw m_X11_restore 0 := ⟨zwc_X11_restore, zw_48, ⟨by decide +kernel, by decide +kernel⟩, by decide +kernel, by decide +kernel⟩
theorem zcw_X11_count : zCw m_X11_count 1 := ⟨zwc_X11_count, zw_48, ⟨by decide +kernel, by decide +kernel⟩, by decide +kernel, by decide +kernel⟩
theorem zcw_X11_refuse : zCw m_X11_refuse 1 := ⟨zwc_X11_refuse, zw_48, ⟨by decide +kernel, by decide +kernel⟩, by decide +kernel, by decide +kernel⟩
theorem zcw_X11_refusalsOf : zCw m_X11_refusalsOf 1 := ⟨zwc_X11_refusalsOf, zw_48, ⟨by decide +kernel, by decide +kernel⟩, by decide +kernel, by decide +kernel⟩
theorem zcw_X11_rodRefusal : zCw m_X11_rodRefusal 1 := ⟨zwc_X11_rodRefusal, zw_48, ⟨by decide +kernel, by decide +kernel⟩, by decide +kernel, by decide +kernel⟩
theorem zcw_X11_walkRefusal : zCw m_X11_walkRefusal 2 := ⟨zwc_X11_walkRefusal, zw_48, ⟨by decide +kernel, by decide +kernel⟩, by decide +kernel, by decide +kernel⟩
theorem zcw_X11_readStatements : zCw m_X11_readStatements 0 := ⟨zwc_X11_readStatements, zw_48, ⟨by decide +kernel, by decide +kernel⟩, by decide +kernel, by decide +kernel⟩
theorem zcw_X11_holds : zCw m_X11_holds 2 := ⟨zwc_X11_holds, zw_48, ⟨by decide +kernel, by decide +kernel⟩, by decide +kernel, by decide +kernel⟩
theorem zcw_X11_memberOf : zCw m_X11_memberOf 2 := ⟨zwc_X11_memberOf, zw_48, ⟨by decide +kernel, by decide +kernel⟩, by decide +kernel, by decide +kernel⟩
theorem zcw_X11_lastOf : zCw m_X11_lastOf 1 := ⟨zwc_X11_lastOf, zw_48, ⟨by decide +kernel, by decide +kernel⟩, by decide +kernel, by decide +kernel⟩
theorem zcw_X11_eachOf : zCw m_X11_eachOf 2 := ⟨zwc_X11_eachOf, zw_48, ⟨by decide +kernel, by decide +kernel⟩, by decide +kernel, by decide +kernel⟩
theorem zcw_X11_stepsOf : zCw m_X11_stepsOf 1 := ⟨zwc_X11_stepsOf, zw_48, ⟨by decide +kernel, by decide +kernel⟩, by decide +kernel, by decide +kernel⟩
theorem zcw_X11_payOf : zCw m_X11_payOf 2 := ⟨zwc_X11_payOf, zw_48, ⟨by decide +kernel, by decide +kernel⟩, by decide +kernel, by decide +kernel⟩
theorem zcw_X11_overOf : zCw m_X11_overOf 2 := ⟨zwc_X11_overOf, zw_48, ⟨by decide +kernel, by decide +kernel⟩, by decide +kernel, by decide +kernel⟩
theorem zcw_X11_nextState : zCw m_X11_nextState 1 := ⟨zwc_X11_nextState, zw_48, ⟨by decide +kernel, by decide +kernel⟩, by decide +kernel, by decide +kernel⟩
theorem zcw_X11_drawBelow : zCw m_X11_drawBelow 2 := ⟨zwc_X11_drawBelow, zw_48, ⟨by decide +kernel, by decide +kernel⟩, by decide +kernel, by decide +kernel⟩
theorem zcw_X12_init : zCw m_X12_init 0 := ⟨zwc_X12_init, zw_53, ⟨by decide +kernel, by decide +kernel⟩, by decide +kernel, by decide +kernel⟩
theorem zcw_X12_no : zCw m_X12_no 1 := ⟨zwc_X12_no, zw_53, ⟨by decide +kernel, by decide +kernel⟩, by decide +kernel, by decide +kernel⟩
theorem zcw_X12_lower : zCw m_X12_lower 1 := ⟨zwc_X12_lower, zw_53, ⟨by decide +kernel, by decide +kernel⟩, by decide +kernel, by decide +kernel⟩
theorem zcw_X12_isIn : zCw m_X12_isIn 3 := ⟨zwc_X12_isIn, zw_53, ⟨by decide +kernel, by decide +kernel⟩, by decide +kernel, by decide +kernel⟩
theorem zcw_X12_bound : zCw m_X12_bound 3 := ⟨zwc_X12_bound, zw_53, ⟨by decide +kernel, by decide +kernel⟩, by decide +kernel, by decide +kernel⟩
theorem zcw_X12_feed : zCw m_X12_feed 1 := ⟨zwc_X12_feed, zw_53, ⟨by decide +kernel, by decide +kernel⟩, by decide +kernel, by decide +kernel⟩
theorem zcw_X12_next : zCw m_X12_next 0 := ⟨zwc_X12_next, zw_53, ⟨by decide +kernel, by decide +kernel⟩, by decide +kernel, by decide +kernel⟩
theorem zcw_X12_readsOnes : zCw m_X12_readsOnes 2 := ⟨zwc_X12_readsOnes, zw_53, ⟨by decide +kernel, by decide +kernel⟩, by decide +kernel, by decide +kernel⟩
theorem zcw_X12_wayOf : zCw m_X12_wayOf 1 := ⟨zwc_X12_wayOf, zw_53, ⟨by decide +kernel, by decide +kernel⟩, by decide +kernel, by decide +kernel⟩
theorem zcw_X12_readsStretch : zCw m_X12_readsStretch 1 := ⟨zwc_X12_readsStretch, zw_53, ⟨by decide +kernel, by decide +kernel⟩, by decide +kernel, by decide +kernel⟩
theorem zcw_X12_statement : zCw m_X12_statement 0 := ⟨zwc_X12_statement, zw_53, ⟨by decide +kernel, by decide +kernel⟩, by decide +kernel, by decide +kernel⟩
theorem zcw_X12_comesStretch : zCw m_X12_comesStretch 1 := ⟨zwc_X12_comesStretch, zw_53, ⟨by decide +kernel, by decide +kernel⟩, by decide +kernel, by decide +kernel⟩
theorem zcw_X12_comesRock : zCw m_X12_comesRock 1 := ⟨zwc_X12_comesRock, zw_53, ⟨by decide +kernel, by decide +kernel⟩, by decide +kernel, by decide +kernel⟩
theorem zcw_X12_comes : zCw m_X12_comes 1 := ⟨zwc_X12_comes, zw_53, ⟨by decide +kernel, by decide +kernel⟩, by decide +kernel, by decide +kernel⟩
theorem zcw_X12_coast : zCw m_X12_coast 0 := ⟨zwc_X12_coast, zw_53, ⟨by decide +kernel, by decide +kernel⟩, by decide +kernel, by decide +kernel⟩
theorem zcw_X12_passes : zCw m_X12_passes 1 := ⟨zwc_X12_passes, zw_53, ⟨by decide +kernel, by decide +kernel⟩, by decide +kernel, by decide +kernel⟩
theorem zcw_X12_passOne : zCw m_X12_passOne 1 := ⟨zwc_X12_passOne, zw_53, ⟨by decide +kernel, by decide +kernel⟩, by decide +kernel, by decide +kernel⟩
theorem zcw_X12_passesAll : zCw m_X12_passesAll 2 := ⟨zwc_X12_passesAll, zw_53, ⟨by decide +kernel, by decide +kernel⟩, by decide +kernel, by decide +kernel⟩
theorem zcw_X12_image : zCw m_X12_image 0 := ⟨zwc_X12_image, zw_53, ⟨by decide +kernel, by decide +kernel⟩, by decide +kernel, by decide +kernel⟩
theorem zcw_X12_restore : zCw m_X12_restore 0 := ⟨zwc_X12_restore, zw_53, ⟨by decide +kernel, by decide +kernel⟩, by decide +kernel, by decide +kernel⟩
theorem zcw_X12_isDry : zCw m_X12_isDry 1 := ⟨zwc_X12_isDry, zw_53, ⟨by decide +kernel, by decide +kernel⟩, by decide +kernel, by decide +kernel⟩
theorem zcw_X12_feeOf : zCw m_X12_feeOf 1 := ⟨zwc_X12_feeOf, zw_53, ⟨by decide +kernel, by decide +kernel⟩, by decide +kernel, by decide +kernel⟩
theorem zcw_X12_isStretch : zCw m_X12_isStretch 1 := ⟨zwc_X12_isStretch, zw_53, ⟨by decide +kernel, by decide +kernel⟩, by decide +kernel, by decide +kernel⟩
theorem zcw_X12_isPlace : zCw m_X12_isPlace 1 := ⟨zwc_X12_isPlace, zw_53, ⟨by decide +kernel, by decide +kernel⟩, by decide +kernel, by decide +kernel⟩
theorem zcw_X12_stretch : zCw m_X12_stretch 2 := ⟨zwc_X12_stretch, zw_53, ⟨by decide +kernel, by decide +kernel⟩, by decide +kernel, by decide +kernel⟩
theorem zcw_X12_point : zCw m_X12_point 2 := ⟨zwc_X12_point, zw_53, ⟨by decide +kernel, by decide +kernel⟩, by decide +kernel, by decide +kernel⟩
theorem zcw_X12_tide : zCw m_X12_tide 1 := ⟨zwc_X12_tide, zw_53, ⟨by decide +kernel, by decide +kernel⟩, by decide +kernel, by decide +kernel⟩
theorem zcw_X12_findShore : zCw m_X12_findShore 2 := ⟨zwc_X12_findShore, zw_53, ⟨by decide +kernel, by decide +kernel⟩, by decide +kernel, by decide +kernel⟩
theorem zcw_X12_isFar : zCw m_X12_isFar 3 := ⟨zwc_X12_isFar, zw_53, ⟨by decide +kernel, by decide +kernel⟩, by decide +kernel, by decide +kernel⟩
theorem zcw_X12_walks : zCw m_X12_walks 2 := ⟨zwc_X12_walks, zw_53, ⟨by decide +kernel, by decide +kernel⟩, by decide +kernel, by decide +kernel⟩
theorem zcw_X12_miles : zCw m_X12_miles 2 := ⟨zwc_X12_miles, zw_53, ⟨by decide +kernel, by decide +kernel⟩, by decide +kernel, by decide +kernel⟩
theorem zcw_X12_pay : zCw m_X12_pay 2 := ⟨zwc_X12_pay, zw_53, ⟨by decide +kernel, by decide +kernel⟩, by decide +kernel, by decide +kernel⟩
theorem zcw_X12_over : zCw m_X12_over 0 := ⟨zwc_X12_over, zw_53, ⟨by decide +kernel, by decide +kernel⟩, by decide +kernel, by decide +kernel⟩
theorem zcw_X12_shore : zCw m_X12_shore 1 := ⟨zwc_X12_shore, zw_53, ⟨by decide +kernel, by decide +kernel⟩, by decide +kernel, by decide +kernel⟩
theorem zcw_X12_notWalk : zCw m_X12_notWalk 2 := ⟨zwc_X12_notWalk, zw_53, ⟨by decide +kernel, by decide +kernel⟩, by decide +kernel, by decide +kernel⟩
theorem zcw_X12_walk : zCw m_X12_walk 3 := ⟨zwc_X12_walk, zw_53, ⟨by decide +kernel, by decide +kernel⟩, by decide +kernel, by decide +kernel⟩
theorem zcw_X12_place : zCw m_X12_place 3 := ⟨zwc_X12_place, zw_53, ⟨by decide +kernel, by decide +kernel⟩, by decide +kernel, by decide +kernel⟩
theorem zcw_X12_best : zCw m_X12_best 2 := ⟨zwc_X12_best, zw_53, ⟨by decide +kernel, by decide +kernel⟩, by decide +kernel, by decide +kernel⟩
theorem zcw_X12_span : zCw m_X12_span 1 := ⟨zwc_X12_span, zw_53, ⟨by decide +kernel, by decide +kernel⟩, by decide +kernel, by decide +kernel⟩
theorem zcw_X12_finer : zCw m_X12_finer 1 := ⟨zwc_X12_finer, zw_53, ⟨by decide +kernel, by decide +kernel⟩, by decide +kernel, by decide +kernel⟩
theorem zcw_X12_stepFrom : zCw m_X12_stepFrom 3 := ⟨zwc_X12_stepFrom, zw_53, ⟨by decide +kernel, by decide +kernel⟩, by decide +kernel, by decide +kernel⟩
theorem zcw_X12_two : zCw m_X12_two 3 := ⟨zwc_X12_two, zw_53, ⟨by decide +kernel, by decide +kernel⟩, by decide +kernel, by decide +kernel⟩
theorem zcw_X12_map : zCw m_X12_map 2 := ⟨zwc_X12_map, zw_53, ⟨by decide +kernel, by decide +kernel⟩, by decide +kernel, by decide +kernel⟩
theorem zcw_X12_isIsland : zCw m_X12_isIsland 2 := ⟨zwc_X12_isIsland, zw_53, ⟨by decide +kernel, by decide +kernel⟩, by decide +kernel, by decide +kernel⟩
theorem zcw_X12_rock : zCw m_X12_rock 2 := ⟨zwc_X12_rock, zw_53, ⟨by decide +kernel, by decide +kernel⟩, by decide +kernel, by decide +kernel⟩
theorem zcw_X12_islands : zCw m_X12_islands 0 := ⟨zwc_X12_islands, zw_53, ⟨by decide +kernel, by decide +kernel⟩, by decide +kernel, by decide +kernel⟩
theorem zcw_X12_areSeen : zCw m_X12_areSeen 1 := ⟨zwc_X12_areSeen, zw_53, ⟨by decide +kernel, by decide +kernel⟩, by decide +kernel, by decide +kernel⟩
theorem zcw_X12_bits : zCw m_X12_bits 1 := ⟨zwc_X12_bits, zw_53, ⟨by decide +kernel, by decide +kernel⟩, by decide +kernel, by decide +kernel⟩
theorem zcw_X12_hours : zCw m_X12_hours 1 := ⟨zwc_X12_hours, zw_53, ⟨by decide +kernel, by decide +kernel⟩, by decide +kernel, by decide +kernel⟩
theorem zcw_X12_nextOrder : zCw m_X12_nextOrder 0 := ⟨zwc_X12_nextOrder, zw_53, ⟨by decide +kernel, by decide +kernel⟩, by decide +kernel, by decide +kernel⟩
theorem zcw_X12_changes : zCw m_X12_changes 2 := ⟨zwc_X12_changes, zw_53, ⟨by decide +kernel, by decide +kernel⟩, by decide +kernel, by decide +kernel⟩
theorem zcw_X12_apart : zCw m_X12_apart 2 := ⟨zwc_X12_apart, zw_53, ⟨by decide +kernel, by decide +kernel⟩, by decide +kernel, by decide +kernel⟩
theorem zcw_X12_wayRound : zCw m_X12_wayRound 0 := ⟨zwc_X12_wayRound, zw_53, ⟨by decide +kernel, by decide +kernel⟩, by decide +kernel, by decide +kernel⟩
theorem zcw_X12_boat : zCw m_X12_boat 0 := ⟨zwc_X12_boat, zw_53, ⟨by decide +kernel, by decide +kernel⟩, by decide +kernel, by decide +kernel⟩
theorem zcw_X12_milesWithout : zCw m_X12_milesWithout 2 := ⟨zwc_X12_milesWithout, zw_53, ⟨by decide +kernel, by decide +kernel⟩, by decide +kernel, by decide +kernel⟩
theorem zcw_X12_cut : zCw m_X12_cut 2 := ⟨zwc_X12_cut, zw_53, ⟨by decide +kernel, by decide +kernel⟩, by decide +kernel, by decide +kernel⟩
theorem zcw_X12_worstCut : zCw m_X12_worstCut 1 := ⟨zwc_X12_worstCut, zw_53, ⟨by decide +kernel, by decide +kernel⟩, by decide +kernel, by decide +kernel⟩
theorem zcw_X12_copy : zCw m_X12_copy 2 := ⟨zwc_X12_copy, zw_53, ⟨by decide +kernel, by decide +kernel⟩, by decide +kernel, by decide +kernel⟩
theorem zcw_X12_sure : zCw m_X12_sure 1 := ⟨zwc_X12_sure, zw_53, ⟨by decide +kernel, by decide +kernel⟩, by decide +kernel, by decide +kernel⟩
theorem zcw_X12_row : zCw m_X12_row 1 := ⟨zwc_X12_row, zw_53, ⟨by decide +kernel, by decide +kernel⟩, by decide +kernel, by decide +kernel⟩
theorem zcw_X12_judge : zCw m_X12_judge 2 := ⟨zwc_X12_judge, zw_53, ⟨by decide +kernel, by decide +kernel⟩, by decide +kernel, by decide +kernel⟩
theorem zcw_X12_draw : zCw m_X12_draw 1 := ⟨zwc_X12_draw, zw_53, ⟨by decide +kernel, by decide +kernel⟩, by decide +kernel, by decide +kernel⟩
theorem zcw_X12_seeds : zCw m_X12_seeds 2 := ⟨zwc_X12_seeds, zw_53, ⟨by decide +kernel, by decide +kernel⟩, by decide +kernel, by decide +kernel⟩
theorem zcw_X12_fees : zCw m_X12_fees 0 := ⟨zwc_X12_fees, zw_53, ⟨by decide +kernel, by decide +kernel⟩, by decide +kernel, by decide +kernel⟩
theorem zcw_X12_count : zCw m_X12_count 1 := ⟨zwc_X12_count, zw_53, ⟨by decide +kernel, by decide +kernel⟩, by decide +kernel, by decide +kernel⟩
theorem zcw_J6_bitCount_0f7a4 : zCw m_J6_bitCount_0f7a4 1 := ⟨zwc_J6_bitCount_0f7a4, zw_63, ⟨by decide +kernel, by decide +kernel⟩, by decide +kernel, by decide +kernel⟩
theorem zcw_J13_bitCount_95d88 : zCw m_J13_bitCount_95d88 1 := ⟨zwc_J13_bitCount_95d88, zw_61, ⟨by decide +kernel, by decide +kernel⟩, by decide +kernel, by decide +kernel⟩
def zKV (own : String) (index : Nat) (d' : ZD) : Prop := Cond.methodLink own index d'.1 ∈ ztb ∧ Cond.instanceMethod d'.1 ∈ ztb ∧ Cond.selects d'.1.cls d'.1 d'.1 ∈ ztb
def zKS (own : String) (index : Nat) (d' : ZD) : Prop := Cond.methodLink own index d'.1 ∈ ztb ∧ Cond.static d'.1 ∈ ztb
def zKSN (own : String) (index : Nat) (d' : ZD) : Prop := (∃ host, Cond.methodLinkNest own index d'.1 host ∈ ztbN) ∧ Cond.static d'.1 ∈ ztb
def zKI (own : String) (index : Nat) (d' : ZD) : Prop := Cond.methodLink own index d'.1 ∈ ztb ∧ Cond.instanceMethod d'.1 ∈ ztb
def zKIN (own : String) (index : Nat) (d' : ZD) : Prop := (∃ host, Cond.methodLinkNest own index d'.1 host ∈ ztbN) ∧ Cond.instanceMethod d'.1 ∈ ztb
def zKsuper (own : String) (index : Nat) (d' : ZD) : Prop := Cond.methodLink own index d'.1 ∈ ztb ∧ Cond.sameMethod d'.1.cls d'.1.cls d'.1.name d'.1.desc ∈ ztb ∧ Cond.superclass own d'.1.cls ∈ ztb ∧ Cond.instanceMethod d'.1 ∈ ztb
/-- the call names x; on an object of class C it runs d' -/
def zKO (own : String) (index : Nat) (C : String) (x : MethodName) (d' : ZD) (nn : Nat) : Prop := ∃ owner, Cond.methodLink own index x ∈ ztb ∧ Cond.sameMethod x.cls owner x.name x.desc ∈ ztb ∧ Cond.instanceMethod d'.1 ∈ ztb ∧ Cond.selects C x d'.1 ∈ ztb ∧ (owner ≠ "java/lang/invoke/MethodHandle" ∧ owner ≠ "java/lang/invoke/VarHandle") ∧ (parseMethodDescriptor x.desc).map (fun q => q.parameters.length) = some nn ∧ ((∃ b0 m0 r0, Cond.code ⟨owner, x.name, x.desc⟩ b0 m0 r0 ∈ ztb ∧ Cond.instanceMethod ⟨owner, x.name, x.desc⟩ ∈ ztb) ∨ Cond.declares ⟨owner, x.name, x.desc⟩ ∈ ztbN)
theorem zko_RX0_3 : Cond.methodLink RX0 3 Lib.objectInit ∈ ztb := zw_130
theorem zk_RX0_15 : zKV RX0 15 m_X0_putWays := ⟨zw_623, zw_625, zw_12⟩
theorem zk_RX0_20 : zKV RX0 20 m_X0_wayBy := ⟨zw_636, zw_638, zw_14⟩
theorem zk_RX0_24 : zKV RX0 24 m_X7_yardsFromHome := ⟨zw_632, zw_633, zw_634⟩
theorem zk_RX0_30 : zKS RX0 30 m_J9_min_7cf53 := ⟨zw_647, zw_552⟩
theorem zk_RX0_35 : zKV RX0 35 m_X0_leastWay := ⟨zw_627, zw_629, zw_13⟩
theorem zk_RX0_39 : zKV RX0 39 m_X7_yardsBetween := ⟨zw_640, zw_641, zw_642⟩
theorem zk_RX1_1 : zKI RX1 1 m_X9_init := ⟨zw_309, zw_262⟩
theorem zk_RX1_7 : zKsuper RX1 7 m_X9_fee := ⟨zw_425, zw_421, zw_313, zw_419⟩
theorem zko_RX2_3 : Cond.methodLink RX2 3 Lib.objectInit ∈ ztb := zw_77
theorem zk_RX2_26 : zKIN RX2 26 m_X7_init := ⟨⟨"PaidByCoast", zw_82⟩, zw_83⟩
theorem zk_RX2_35 : zKV RX2 35 m_X2_stretchAt := ⟨zw_228, zw_229, zw_230⟩
theorem zk_RX2_42 : zKV RX2 42 m_X2_xAt := ⟨zw_232, zw_233, zw_234⟩
theorem zk_RX2_46 : zKV RX2 46 m_X2_yAt := ⟨zw_236, zw_237, zw_238⟩
theorem zk_RX2_49 : zKV RX2 49 m_X7_become := ⟨zw_240, zw_241, zw_242⟩
theorem zk_RX2_56 : zKI RX2 56 m_X9_init := ⟨zw_261, zw_262⟩
theorem zk_RX2_61 : zKI RX2 61 m_X8_init := ⟨zw_286, zw_287⟩
theorem zk_RX2_64 : zKI RX2 64 m_X5_init := ⟨zw_296, zw_297⟩
theorem zk_RX2_67 : zKI RX2 67 m_X1_init := ⟨zw_306, zw_307⟩
theorem zk_RX2_70 : zKI RX2 70 m_X4_init := ⟨zw_316, zw_317⟩
theorem zk_RX2_73 : zKI RX2 73 m_X10_init := ⟨zw_326, zw_327⟩
theorem zk_RX2_74 : zKV RX2 74 m_X2_shoreAt := ⟨zw_461, zw_462, zw_463⟩
theorem zk_RX2_78_1 : zKO RX2 78 RX1 ⟨"PaidByCoast$Shore", "isDry", "(I)Z"⟩ m_X9_isDry 1 := ⟨"PaidByCoast$Shore", zw_465, zw_399, zw_397, zw_400, ⟨by decide +kernel, by decide +kernel⟩, by decide +kernel, Or.inl ⟨_, _, _, zwc_X9_isDry, zw_397⟩⟩
theorem zk_RX2_78_4 : zKO RX2 78 RX4 ⟨"PaidByCoast$Shore", "isDry", "(I)Z"⟩ m_X4_isDry 1 := ⟨"PaidByCoast$Shore", zw_465, zw_399, zw_402, zw_401, ⟨by decide +kernel, by decide +kernel⟩, by decide +kernel, Or.inl ⟨_, _, _, zwc_X9_isDry, zw_397⟩⟩
theorem zk_RX2_78_5 : zKO RX2 78 RX5 ⟨"PaidByCoast$Shore", "isDry", "(I)Z"⟩ m_X5_isDry 1 := ⟨"PaidByCoast$Shore", zw_465, zw_399, zw_408, zw_407, ⟨by decide +kernel, by decide +kernel⟩, by decide +kernel, Or.inl ⟨_, _, _, zwc_X9_isDry, zw_397⟩⟩
theorem zk_RX2_78_8 : zKO RX2 78 RX8 ⟨"PaidByCoast$Shore", "isDry", "(I)Z"⟩ m_X8_isDry 1 := ⟨"PaidByCoast$Shore", zw_465, zw_399, zw_405, zw_410, ⟨by decide +kernel, by decide +kernel⟩, by decide +kernel, Or.inl ⟨_, _, _, zwc_X9_isDry, zw_397⟩⟩
theorem zk_RX2_78_9 : zKO RX2 78 RX9 ⟨"PaidByCoast$Shore", "isDry", "(I)Z"⟩ m_X9_isDry 1 := ⟨"PaidByCoast$Shore", zw_465, zw_399, zw_397, zw_398, ⟨by decide +kernel, by decide +kernel⟩, by decide +kernel, Or.inl ⟨_, _, _, zwc_X9_isDry, zw_397⟩⟩
theorem zk_RX2_78_10 : zKO RX2 78 RX10 ⟨"PaidByCoast$Shore", "isDry", "(I)Z"⟩ m_X10_isDry 1 := ⟨"PaidByCoast$Shore", zw_465, zw_399, zw_412, zw_411, ⟨by decide +kernel, by decide +kernel⟩, by decide +kernel, Or.inl ⟨_, _, _, zwc_X9_isDry, zw_397⟩⟩
theorem zk_RX2_82_1 : zKO RX2 82 RX1 ⟨"PaidByCoast$Shore", "places", "()J"⟩ m_X9_places 0 := ⟨"PaidByCoast$Shore", zw_466, zw_469, zw_467, zw_470, ⟨by decide +kernel, by decide +kernel⟩, by decide +kernel, Or.inl ⟨_, _, _, zwc_X9_places, zw_467⟩⟩
theorem zk_RX2_82_4 : zKO RX2 82 RX4 ⟨"PaidByCoast$Shore", "places", "()J"⟩ m_X9_places 0 := ⟨"PaidByCoast$Shore", zw_466, zw_469, zw_467, zw_471, ⟨by decide +kernel, by decide +kernel⟩, by decide +kernel, Or.inl ⟨_, _, _, zwc_X9_places, zw_467⟩⟩
theorem zk_RX2_82_5 : zKO RX2 82 RX5 ⟨"PaidByCoast$Shore", "places", "()J"⟩ m_X9_places 0 := ⟨"PaidByCoast$Shore", zw_466, zw_469, zw_467, zw_472, ⟨by decide +kernel, by decide +kernel⟩, by decide +kernel, Or.inl ⟨_, _, _, zwc_X9_places, zw_467⟩⟩
theorem zk_RX2_82_8 : zKO RX2 82 RX8 ⟨"PaidByCoast$Shore", "places", "()J"⟩ m_X9_places 0 := ⟨"PaidByCoast$Shore", zw_466, zw_469, zw_467, zw_473, ⟨by decide +kernel, by decide +kernel⟩, by decide +kernel, Or.inl ⟨_, _, _, zwc_X9_places, zw_467⟩⟩
theorem zk_RX2_82_9 : zKO RX2 82 RX9 ⟨"PaidByCoast$Shore", "places", "()J"⟩ m_X9_places 0 := ⟨"PaidByCoast$Shore", zw_466, zw_469, zw_467, zw_468, ⟨by decide +kernel, by decide +kernel⟩, by decide +kernel, Or.inl ⟨_, _, _, zwc_X9_places, zw_467⟩⟩
theorem zk_RX2_82_10 : zKO RX2 82 RX10 ⟨"PaidByCoast$Shore", "places", "()J"⟩ m_X9_places 0 := ⟨"PaidByCoast$Shore", zw_466, zw_469, zw_467, zw_474, ⟨by decide +kernel, by decide +kernel⟩, by decide +kernel, Or.inl ⟨_, _, _, zwc_X9_places, zw_467⟩⟩
theorem zk_RX2_86_1 : zKO RX2 86 RX1 ⟨"PaidByCoast$Shore", "fee", "()I"⟩ m_X1_fee 0 := ⟨"PaidByCoast$Shore", zw_519, zw_421, zw_423, zw_422, ⟨by decide +kernel, by decide +kernel⟩, by decide +kernel, Or.inl ⟨_, _, _, zwc_X9_fee, zw_419⟩⟩
theorem zk_RX2_86_4 : zKO RX2 86 RX4 ⟨"PaidByCoast$Shore", "fee", "()I"⟩ m_X4_fee 0 := ⟨"PaidByCoast$Shore", zw_519, zw_421, zw_427, zw_426, ⟨by decide +kernel, by decide +kernel⟩, by decide +kernel, Or.inl ⟨_, _, _, zwc_X9_fee, zw_419⟩⟩
theorem zk_RX2_86_5 : zKO RX2 86 RX5 ⟨"PaidByCoast$Shore", "fee", "()I"⟩ m_X5_fee 0 := ⟨"PaidByCoast$Shore", zw_519, zw_421, zw_434, zw_433, ⟨by decide +kernel, by decide +kernel⟩, by decide +kernel, Or.inl ⟨_, _, _, zwc_X9_fee, zw_419⟩⟩
theorem zk_RX2_86_8 : zKO RX2 86 RX8 ⟨"PaidByCoast$Shore", "fee", "()I"⟩ m_X8_fee 0 := ⟨"PaidByCoast$Shore", zw_519, zw_421, zw_430, zw_436, ⟨by decide +kernel, by decide +kernel⟩, by decide +kernel, Or.inl ⟨_, _, _, zwc_X9_fee, zw_419⟩⟩
theorem zk_RX2_86_9 : zKO RX2 86 RX9 ⟨"PaidByCoast$Shore", "fee", "()I"⟩ m_X9_fee 0 := ⟨"PaidByCoast$Shore", zw_519, zw_421, zw_419, zw_420, ⟨by decide +kernel, by decide +kernel⟩, by decide +kernel, Or.inl ⟨_, _, _, zwc_X9_fee, zw_419⟩⟩
theorem zk_RX2_86_10 : zKO RX2 86 RX10 ⟨"PaidByCoast$Shore", "fee", "()I"⟩ m_X10_fee 0 := ⟨"PaidByCoast$Shore", zw_519, zw_421, zw_438, zw_437, ⟨by decide +kernel, by decide +kernel⟩, by decide +kernel, Or.inl ⟨_, _, _, zwc_X9_fee, zw_419⟩⟩
theorem zk_RX2_90 : zKS RX2 90 m_J13_bitCount_95d88 := ⟨zw_520, zw_503⟩
theorem zk_RX2_96 : zKSN RX2 96 m_X11_holds := ⟨⟨"PaidByCoast", zw_494⟩, zw_477⟩
theorem zk_RX2_100 : zKV RX2 100 m_X2_isRodApart := ⟨zw_495, zw_497, zw_8⟩
theorem zk_RX2_104 : zKV RX2 104 m_X2_reachedFrom := ⟨zw_549, zw_491, zw_492⟩
theorem zk_RX2_108 : zKSN RX2 108 m_X11_stepsOf := ⟨⟨"PaidByCoast", zw_550⟩, zw_500⟩
theorem zk_RX2_111 : zKV RX2 111 m_X2_shoreNow := ⟨zw_566, zw_458, zw_459⟩
theorem zk_RX2_116 : zKV RX2 116 m_X2_milesOf := ⟨zw_657, zw_546, zw_547⟩
theorem zk_RX2_120 : zKSN RX2 120 m_X11_lastOf := ⟨⟨"PaidByCoast", zw_567⟩, zw_522⟩
theorem zk_RX2_123 : zKV RX2 123 m_X2_stepFrom := ⟨zw_568, zw_570, zw_10⟩
theorem zko_RX3_3 : Cond.methodLink RX3 3 Lib.objectInit ∈ ztb := zw_140
theorem zk_RX3_19 : zKV RX3 19 m_X3_letterAt := ⟨zw_201, zw_203, zw_1⟩
theorem zk_RX3_23 : zKV RX3 23 m_X3_digitAt := ⟨zw_252, zw_254, zw_6⟩
theorem zk_RX3_26 : zKV RX3 26 m_X3_isWay := ⟨zw_216, zw_218, zw_4⟩
theorem zk_RX3_30 : zKS RX3 30 m_X3_digitsOf := ⟨zw_205, zw_206⟩
theorem zk_RX3_33 : zKV RX3 33 m_X3_isDigit := ⟨zw_208, zw_210, zw_2⟩
theorem zk_RX3_36 : zKV RX3 36 m_X3_waysFrom := ⟨zw_212, zw_214, zw_3⟩
theorem zk_RX3_39 : zKV RX3 39 m_X3_behindStatement := ⟨zw_197, zw_198, zw_199⟩
theorem zk_RX3_42 : zKV RX3 42 m_X2_appendStretch := ⟨zw_256, zw_257, zw_258⟩
theorem zk_RX3_48 : zKV RX3 48 m_X2_appendYard := ⟨zw_334, zw_335, zw_336⟩
theorem zk_RX3_56 : zKV RX3 56 m_X3_pairAt := ⟨zw_338, zw_340, zw_7⟩
theorem zk_RX3_59 : zKV RX3 59 m_X7_append := ⟨zw_342, zw_343, zw_344⟩
theorem zk_RX4_1 : zKI RX4 1 m_X8_init := ⟨zw_319, zw_287⟩
theorem zk_RX4_7 : zKsuper RX4 7 m_X8_isDry := ⟨zw_404, zw_1085, zw_323, zw_405⟩
theorem zk_RX4_11 : zKsuper RX4 11 m_X8_fee := ⟨zw_429, zw_1086, zw_323, zw_430⟩
theorem zk_RX5_1 : zKI RX5 1 m_X9_init := ⟨zw_299, zw_262⟩
theorem zko_RX6_1 : Cond.methodLink RX6 1 Lib.objectInit ∈ ztb := zw_350
theorem zko_RX7_3 : Cond.methodLink RX7 3 Lib.objectInit ∈ ztb := zw_85
theorem zk_RX7_21 : zKI RX7 21 m_X6_init := ⟨zw_347, zw_348⟩
theorem zk_RX7_24 : zKV RX7 24 m_X7_rockAt := ⟨zw_244, zw_245, zw_246⟩
theorem zk_RX7_28 : zKV RX7 28 m_X6_isIsland := ⟨zw_594, zw_583, zw_584⟩
theorem zk_RX7_32 : zKS RX7 32 m_J6_bitCount_0f7a4 := ⟨zw_603, zw_604⟩
theorem zk_RX7_38 : zKV RX7 38 m_X7_showsAll := ⟨zw_609, zw_611, zw_11⟩
theorem zk_RX7_41 : zKV RX7 41 m_X7_islandsAt := ⟨zw_613, zw_591, zw_592⟩
theorem zk_RX7_50 : zKS RX7 50 m_J9_abs_0f7a4 := ⟨zw_644, zw_645⟩
theorem zk_RX8_1 : zKI RX8 1 m_X9_init := ⟨zw_289, zw_262⟩
theorem zk_RX8_13 : zKsuper RX8 13 m_X9_fee := ⟨zw_432, zw_421, zw_293, zw_419⟩
theorem zko_RX9_1 : Cond.methodLink RX9 1 Lib.objectInit ∈ ztb := zw_264
theorem zk_RX10_1 : zKI RX10 1 m_X1_init := ⟨zw_329, zw_307⟩
theorem zk_RX10_7 : Cond.methodLink RX10 7 ⟨"PaidByCoast$Cliff", "isDry", "(I)Z"⟩ ∈ ztb ∧ Cond.sameMethod "PaidByCoast$Cliff" "PaidByCoast$Shore" "isDry" "(I)Z" ∈ ztb ∧ Cond.superclass RX10 "PaidByCoast$Cliff" ∈ ztb ∧ Cond.superclass "PaidByCoast$Cliff" "PaidByCoast$Shore" ∈ ztb ∧ Cond.instanceMethod m_X9_isDry.1 ∈ ztb := ⟨zw_414, zw_415, zw_333, zw_313, zw_397⟩
theorem zk_RX10_17 : zKsuper RX10 17 m_X1_fee := ⟨zw_440, zw_1087, zw_333, zw_423⟩
theorem zko_RX11_1 : Cond.methodLink RX11 1 Lib.objectInit ∈ ztb := zw_69
theorem zk_RX11_9 : zKIN RX11 9 m_X2_init := ⟨⟨"PaidByCoast", zw_74⟩, zw_75⟩
theorem zk_RX11_24 : zKIN RX11 24 m_X0_init := ⟨⟨"PaidByCoast", zw_127⟩, zw_128⟩
theorem zk_RX11_31 : zKIN RX11 31 m_X3_init := ⟨⟨"PaidByCoast", zw_137⟩, zw_138⟩
theorem zk_RX11_43 : zKV RX11 43 m_X11_refuse := ⟨zw_181, zw_183, zw_0⟩
theorem zk_RX11_47 : zKV RX11 47 m_X3_append := ⟨zw_185, zw_186, zw_187⟩
theorem zk_RX11_55 : zKV RX11 55 m_X3_wrongLetter := ⟨zw_193, zw_194, zw_195⟩
theorem zk_RX11_59 : zKV RX11 59 m_X11_readStatements := ⟨zw_220, zw_222, zw_5⟩
theorem zk_RX11_62 : zKV RX11 62 m_X2_stretchAt := ⟨zw_375, zw_229, zw_230⟩
theorem zk_RX11_66_1 : zKO RX11 66 RX1 ⟨"PaidByCoast$Shore", "kind", "()I"⟩ m_X1_kind 0 := ⟨"PaidByCoast$Shore", zw_376, zw_379, zw_381, zw_380, ⟨by decide +kernel, by decide +kernel⟩, by decide +kernel, Or.inl ⟨_, _, _, zwc_X9_kind, zw_377⟩⟩
theorem zk_RX11_66_4 : zKO RX11 66 RX4 ⟨"PaidByCoast$Shore", "kind", "()I"⟩ m_X4_kind 0 := ⟨"PaidByCoast$Shore", zw_376, zw_379, zw_384, zw_383, ⟨by decide +kernel, by decide +kernel⟩, by decide +kernel, Or.inl ⟨_, _, _, zwc_X9_kind, zw_377⟩⟩
theorem zk_RX11_66_5 : zKO RX11 66 RX5 ⟨"PaidByCoast$Shore", "kind", "()I"⟩ m_X5_kind 0 := ⟨"PaidByCoast$Shore", zw_376, zw_379, zw_387, zw_386, ⟨by decide +kernel, by decide +kernel⟩, by decide +kernel, Or.inl ⟨_, _, _, zwc_X9_kind, zw_377⟩⟩
theorem zk_RX11_66_8 : zKO RX11 66 RX8 ⟨"PaidByCoast$Shore", "kind", "()I"⟩ m_X8_kind 0 := ⟨"PaidByCoast$Shore", zw_376, zw_379, zw_390, zw_389, ⟨by decide +kernel, by decide +kernel⟩, by decide +kernel, Or.inl ⟨_, _, _, zwc_X9_kind, zw_377⟩⟩
theorem zk_RX11_66_9 : zKO RX11 66 RX9 ⟨"PaidByCoast$Shore", "kind", "()I"⟩ m_X9_kind 0 := ⟨"PaidByCoast$Shore", zw_376, zw_379, zw_377, zw_378, ⟨by decide +kernel, by decide +kernel⟩, by decide +kernel, Or.inl ⟨_, _, _, zwc_X9_kind, zw_377⟩⟩
theorem zk_RX11_66_10 : zKO RX11 66 RX10 ⟨"PaidByCoast$Shore", "kind", "()I"⟩ m_X10_kind 0 := ⟨"PaidByCoast$Shore", zw_376, zw_379, zw_393, zw_392, ⟨by decide +kernel, by decide +kernel⟩, by decide +kernel, Or.inl ⟨_, _, _, zwc_X9_kind, zw_377⟩⟩
theorem zk_RX11_83_1 : zKO RX11 83 RX1 ⟨"PaidByCoast$Shore", "isDry", "(I)Z"⟩ m_X9_isDry 1 := ⟨"PaidByCoast$Shore", zw_396, zw_399, zw_397, zw_400, ⟨by decide +kernel, by decide +kernel⟩, by decide +kernel, Or.inl ⟨_, _, _, zwc_X9_isDry, zw_397⟩⟩
theorem zk_RX11_83_4 : zKO RX11 83 RX4 ⟨"PaidByCoast$Shore", "isDry", "(I)Z"⟩ m_X4_isDry 1 := ⟨"PaidByCoast$Shore", zw_396, zw_399, zw_402, zw_401, ⟨by decide +kernel, by decide +kernel⟩, by decide +kernel, Or.inl ⟨_, _, _, zwc_X9_isDry, zw_397⟩⟩
theorem zk_RX11_83_5 : zKO RX11 83 RX5 ⟨"PaidByCoast$Shore", "isDry", "(I)Z"⟩ m_X5_isDry 1 := ⟨"PaidByCoast$Shore", zw_396, zw_399, zw_408, zw_407, ⟨by decide +kernel, by decide +kernel⟩, by decide +kernel, Or.inl ⟨_, _, _, zwc_X9_isDry, zw_397⟩⟩
theorem zk_RX11_83_8 : zKO RX11 83 RX8 ⟨"PaidByCoast$Shore", "isDry", "(I)Z"⟩ m_X8_isDry 1 := ⟨"PaidByCoast$Shore", zw_396, zw_399, zw_405, zw_410, ⟨by decide +kernel, by decide +kernel⟩, by decide +kernel, Or.inl ⟨_, _, _, zwc_X9_isDry, zw_397⟩⟩
theorem zk_RX11_83_9 : zKO RX11 83 RX9 ⟨"PaidByCoast$Shore", "isDry", "(I)Z"⟩ m_X9_isDry 1 := ⟨"PaidByCoast$Shore", zw_396, zw_399, zw_397, zw_398, ⟨by decide +kernel, by decide +kernel⟩, by decide +kernel, Or.inl ⟨_, _, _, zwc_X9_isDry, zw_397⟩⟩
theorem zk_RX11_83_10 : zKO RX11 83 RX10 ⟨"PaidByCoast$Shore", "isDry", "(I)Z"⟩ m_X10_isDry 1 := ⟨"PaidByCoast$Shore", zw_396, zw_399, zw_412, zw_411, ⟨by decide +kernel, by decide +kernel⟩, by decide +kernel, Or.inl ⟨_, _, _, zwc_X9_isDry, zw_397⟩⟩
theorem zk_RX11_86_1 : zKO RX11 86 RX1 ⟨"PaidByCoast$Shore", "fee", "()I"⟩ m_X1_fee 0 := ⟨"PaidByCoast$Shore", zw_418, zw_421, zw_423, zw_422, ⟨by decide +kernel, by decide +kernel⟩, by decide +kernel, Or.inl ⟨_, _, _, zwc_X9_fee, zw_419⟩⟩
theorem zk_RX11_86_4 : zKO RX11 86 RX4 ⟨"PaidByCoast$Shore", "fee", "()I"⟩ m_X4_fee 0 := ⟨"PaidByCoast$Shore", zw_418, zw_421, zw_427, zw_426, ⟨by decide +kernel, by decide +kernel⟩, by decide +kernel, Or.inl ⟨_, _, _, zwc_X9_fee, zw_419⟩⟩
theorem zk_RX11_86_5 : zKO RX11 86 RX5 ⟨"PaidByCoast$Shore", "fee", "()I"⟩ m_X5_fee 0 := ⟨"PaidByCoast$Shore", zw_418, zw_421, zw_434, zw_433, ⟨by decide +kernel, by decide +kernel⟩, by decide +kernel, Or.inl ⟨_, _, _, zwc_X9_fee, zw_419⟩⟩
theorem zk_RX11_86_8 : zKO RX11 86 RX8 ⟨"PaidByCoast$Shore", "fee", "()I"⟩ m_X8_fee 0 := ⟨"PaidByCoast$Shore", zw_418, zw_421, zw_430, zw_436, ⟨by decide +kernel, by decide +kernel⟩, by decide +kernel, Or.inl ⟨_, _, _, zwc_X9_fee, zw_419⟩⟩
theorem zk_RX11_86_9 : zKO RX11 86 RX9 ⟨"PaidByCoast$Shore", "fee", "()I"⟩ m_X9_fee 0 := ⟨"PaidByCoast$Shore", zw_418, zw_421, zw_419, zw_420, ⟨by decide +kernel, by decide +kernel⟩, by decide +kernel, Or.inl ⟨_, _, _, zwc_X9_fee, zw_419⟩⟩
theorem zk_RX11_86_10 : zKO RX11 86 RX10 ⟨"PaidByCoast$Shore", "fee", "()I"⟩ m_X10_fee 0 := ⟨"PaidByCoast$Shore", zw_418, zw_421, zw_438, zw_437, ⟨by decide +kernel, by decide +kernel⟩, by decide +kernel, Or.inl ⟨_, _, _, zwc_X9_fee, zw_419⟩⟩
theorem zk_RX11_89 : zKV RX11 89 m_X2_hasPlace := ⟨zw_446, zw_447, zw_448⟩
theorem zk_RX11_93 : zKV RX11 93 m_X2_xAt := ⟨zw_451, zw_233, zw_234⟩
theorem zk_RX11_96 : zKV RX11 96 m_X2_yAt := ⟨zw_452, zw_237, zw_238⟩
theorem zk_RX11_99 : zKV RX11 99 m_X2_shoreNow := ⟨zw_457, zw_458, zw_459⟩
theorem zk_RX11_103 : zKS RX11 103 m_X11_holds := ⟨zw_476, zw_477⟩
theorem zk_RX11_107 : zKS RX11 107 m_X11_walkRefusal := ⟨zw_487, zw_488⟩
theorem zk_RX11_111 : zKV RX11 111 m_X2_reachedFrom := ⟨zw_490, zw_491, zw_492⟩
theorem zk_RX11_115 : zKS RX11 115 m_X11_stepsOf := ⟨zw_499, zw_500⟩
theorem zk_RX11_119 : zKV RX11 119 m_X11_payOf := ⟨zw_511, zw_513, zw_9⟩
theorem zk_RX11_123 : zKS RX11 123 m_X11_lastOf := ⟨zw_521, zw_522⟩
theorem zk_RX11_126 : zKS RX11 126 m_X11_overOf := ⟨zw_524, zw_525⟩
theorem zk_RX11_130 : zKS RX11 130 m_X11_memberOf := ⟨zw_531, zw_532⟩
theorem zk_RX11_133 : zKS RX11 133 m_X11_rodRefusal := ⟨zw_542, zw_543⟩
theorem zk_RX11_136 : zKV RX11 136 m_X2_milesOf := ⟨zw_545, zw_546, zw_547⟩
theorem zk_RX11_140 : zKS RX11 140 m_J9_max_7cf53 := ⟨zw_508, zw_509⟩
theorem zk_RX11_145 : zKS RX11 145 m_J9_min_7cf53 := ⟨zw_551, zw_552⟩
theorem zk_RX11_148 : zKV RX11 148 m_X2_milesOfTwo := ⟨zw_562, zw_563, zw_564⟩
theorem zk_RX11_152 : zKV RX11 152 m_X2_shoreAt := ⟨zw_576, zw_462, zw_463⟩
theorem zk_RX11_160 : zKV RX11 160 m_X7_rockAt := ⟨zw_581, zw_245, zw_246⟩
theorem zk_RX11_180 : zKV RX11 180 m_X6_isIsland := ⟨zw_582, zw_583, zw_584⟩
theorem zk_RX11_183 : zKV RX11 183 m_X7_islandsAt := ⟨zw_590, zw_591, zw_592⟩
theorem zk_RX11_186 : zKV RX11 186 m_X7_fewestHours := ⟨zw_599, zw_600, zw_601⟩
theorem zk_RX11_189 : zKS RX11 189 m_J6_bitCount_0f7a4 := ⟨zw_614, zw_604⟩
theorem zk_RX11_194 : zKV RX11 194 m_X0_roundTrip := ⟨zw_619, zw_620, zw_621⟩
theorem zk_RX11_198 : zKV RX11 198 m_X2_milesWithout := ⟨zw_652, zw_653, zw_654⟩
theorem zk_RX11_202 : zKS RX11 202 m_X11_eachOf := ⟨zw_666, zw_667⟩
theorem zk_RX11_206 : zKS RX11 206 m_J13_bitCount_95d88 := ⟨zw_502, zw_503⟩
theorem zk_RX11_213 : zKS RX11 213 m_X11_nextState := ⟨zw_685, zw_686⟩
theorem zk_RX11_216 : zKS RX11 216 m_X11_drawBelow := ⟨zw_689, zw_690⟩
theorem zk_RX11_219 : zKV RX11 219 m_X2_become := ⟨zw_224, zw_225, zw_226⟩
theorem zk_RX11_234 : zKV RX11 234 m_X2_feesOfStretches := ⟨zw_705, zw_706, zw_707⟩
theorem zk_RX11_237 : zKV RX11 237 m_X11_refusalsOf := ⟨zw_709, zw_711, zw_15⟩
theorem zk_RX11_240 : zKV RX11 240 m_X3_tell := ⟨zw_248, zw_249, zw_250⟩
theorem zk_RX11_244 : zKV RX11 244 m_X3_behindStatement := ⟨zw_370, zw_198, zw_199⟩
theorem zk_RX11_247 : zKV RX11 247 m_X2_feesOf := ⟨zw_515, zw_516, zw_517⟩
theorem zko_RX12_1 : Cond.methodLink RX12 1 Lib.objectInit ∈ ztb := zw_718
theorem zk_RX12_77 : zKS RX12 77 m_X12_bound := ⟨zw_835, zw_836⟩
theorem zk_RX12_85 : zKV RX12 85 m_X12_no := ⟨zw_838, zw_840, zw_16⟩
theorem zk_RX12_92 : zKV RX12 92 m_X12_next := ⟨zw_850, zw_852, zw_18⟩
theorem zk_RX12_96 : zKS RX12 96 m_X12_isIn := ⟨zw_862, zw_863⟩
theorem zk_RX12_100 : zKV RX12 100 m_X12_readsOnes := ⟨zw_858, zw_860, zw_20⟩
theorem zk_RX12_104 : zKS RX12 104 m_X12_wayOf := ⟨zw_865, zw_866⟩
theorem zk_RX12_110 : zKV RX12 110 m_X12_readsStretch := ⟨zw_854, zw_856, zw_19⟩
theorem zk_RX12_123 : zKV RX12 123 m_X12_comesStretch := ⟨zw_884, zw_886, zw_25⟩
theorem zk_RX12_126 : zKV RX12 126 m_X12_comesRock := ⟨zw_888, zw_890, zw_26⟩
theorem zk_RX12_132 : zKV RX12 132 m_X12_statement := ⟨zw_846, zw_848, zw_17⟩
theorem zk_RX12_136 : zKV RX12 136 m_X12_passesAll := ⟨zw_868, zw_870, zw_21⟩
theorem zk_RX12_140 : zKV RX12 140 m_X12_comes := ⟨zw_880, zw_882, zw_24⟩
theorem zk_RX12_150 : zKV RX12 150 m_X12_passes := ⟨zw_872, zw_874, zw_22⟩
theorem zk_RX12_154 : zKV RX12 154 m_X12_passOne := ⟨zw_876, zw_878, zw_23⟩
theorem zk_RX12_160 : zKV RX12 160 m_X12_isStretch := ⟨zw_904, zw_906, zw_27⟩
theorem zk_RX12_163 : zKV RX12 163 m_X12_isDry := ⟨zw_908, zw_910, zw_28⟩
theorem zk_RX12_166 : zKV RX12 166 m_X12_feeOf := ⟨zw_912, zw_914, zw_29⟩
theorem zk_RX12_169 : zKV RX12 169 m_X12_isPlace := ⟨zw_920, zw_922, zw_30⟩
theorem zk_RX12_172 : zKV RX12 172 m_X12_lower := ⟨zw_924, zw_926, zw_31⟩
theorem zk_RX12_181 : zKV RX12 181 m_X12_isFar := ⟨zw_960, zw_962, zw_36⟩
theorem zk_RX12_184 : zKV RX12 184 m_X12_findShore := ⟨zw_952, zw_954, zw_34⟩
theorem zk_RX12_188 : zKV RX12 188 m_X12_walks := ⟨zw_956, zw_958, zw_35⟩
theorem zk_RX12_192 : zKV RX12 192 m_X12_miles := ⟨zw_948, zw_950, zw_33⟩
theorem zk_RX12_195 : zKS RX12 195 m_X12_notWalk := ⟨zw_941, zw_942⟩
theorem zk_RX12_198 : zKV RX12 198 m_X12_pay := ⟨zw_944, zw_946, zw_32⟩
theorem zk_RX12_201 : zKV RX12 201 m_X12_over := ⟨zw_964, zw_966, zw_37⟩
theorem zk_RX12_204 : zKV RX12 204 m_X12_stepFrom := ⟨zw_988, zw_990, zw_38⟩
theorem zk_RX12_207 : zKV RX12 207 m_X12_isIsland := ⟨zw_1000, zw_1002, zw_39⟩
theorem zk_RX12_210 : zKS RX12 210 m_X12_bits := ⟨zw_1012, zw_1013⟩
theorem zk_RX12_213 : zKV RX12 213 m_X12_areSeen := ⟨zw_1015, zw_1017, zw_40⟩
theorem zk_RX12_219 : zKV RX12 219 m_X12_changes := ⟨zw_1034, zw_1036, zw_43⟩
theorem zk_RX12_222 : zKS RX12 222 m_X12_apart := ⟨zw_1027, zw_1028⟩
theorem zk_RX12_225 : zKV RX12 225 m_X12_wayRound := ⟨zw_1023, zw_1025, zw_41⟩
theorem zk_RX12_228 : zKV RX12 228 m_X12_nextOrder := ⟨zw_1030, zw_1032, zw_42⟩
theorem zk_RX12_231 : zKV RX12 231 m_X12_milesWithout := ⟨zw_1042, zw_1044, zw_44⟩
theorem zk_RX12_243 : zKV RX12 243 m_X12_draw := ⟨zw_1070, zw_1072, zw_45⟩
theorem zk_RX12_246 : zKV RX12 246 m_X12_fees := ⟨zw_1081, zw_1083, zw_46⟩
theorem zk_RL_9 : zKI RL 9 m_X11_init := ⟨zw_66, zw_67⟩
theorem zk_RL_12 : zKI RL 12 m_X12_init := ⟨zw_715, zw_716⟩
theorem zk_RL_13 : zKV RL 13 m_X11_feed := ⟨zw_177, zw_178, zw_179⟩
theorem zk_RL_17 : zKV RL 17 m_X12_feed := ⟨zw_831, zw_832, zw_833⟩
theorem zk_RL_18 : zKV RL 18 m_X11_coast := ⟨zw_189, zw_190, zw_191⟩
theorem zk_RL_22 : zKV RL 22 m_X12_coast := ⟨zw_842, zw_843, zw_844⟩
theorem zk_RL_23 : zKV RL 23 m_X11_stretch := ⟨zw_371, zw_372, zw_373⟩
theorem zk_RL_27 : zKV RL 27 m_X12_stretch := ⟨zw_900, zw_901, zw_902⟩
theorem zk_RL_28 : zKV RL 28 m_X11_point := ⟨zw_442, zw_443, zw_444⟩
theorem zk_RL_31 : zKV RL 31 m_X12_point := ⟨zw_916, zw_917, zw_918⟩
theorem zk_RL_32 : zKV RL 32 m_X11_shore := ⟨zw_453, zw_454, zw_455⟩
theorem zk_RL_35 : zKV RL 35 m_X12_shore := ⟨zw_933, zw_934, zw_935⟩
theorem zk_RL_36 : zKV RL 36 m_X11_tide := ⟨zw_479, zw_480, zw_481⟩
theorem zk_RL_39 : zKV RL 39 m_X12_tide := ⟨zw_929, zw_930, zw_931⟩
theorem zk_RL_40 : zKV RL 40 m_X11_walk := ⟨zw_483, zw_484, zw_485⟩
theorem zk_RL_44 : zKV RL 44 m_X12_walk := ⟨zw_937, zw_938, zw_939⟩
theorem zk_RL_45 : zKV RL 45 m_X11_place := ⟨zw_527, zw_528, zw_529⟩
theorem zk_RL_48 : zKV RL 48 m_X12_place := ⟨zw_968, zw_969, zw_970⟩
theorem zk_RL_49 : zKV RL 49 m_X11_best := ⟨zw_534, zw_535, zw_536⟩
theorem zk_RL_52 : zKV RL 52 m_X12_best := ⟨zw_972, zw_973, zw_974⟩
theorem zk_RL_53 : zKV RL 53 m_X11_span := ⟨zw_538, zw_539, zw_540⟩
theorem zk_RL_56 : zKV RL 56 m_X12_span := ⟨zw_976, zw_977, zw_978⟩
theorem zk_RL_57 : zKV RL 57 m_X11_finer := ⟨zw_554, zw_555, zw_556⟩
theorem zk_RL_60 : zKV RL 60 m_X12_finer := ⟨zw_980, zw_981, zw_982⟩
theorem zk_RL_61 : zKV RL 61 m_X11_two := ⟨zw_558, zw_559, zw_560⟩
theorem zk_RL_64 : zKV RL 64 m_X12_two := ⟨zw_984, zw_985, zw_986⟩
theorem zk_RL_65 : zKV RL 65 m_X11_map := ⟨zw_572, zw_573, zw_574⟩
theorem zk_RL_68 : zKV RL 68 m_X12_map := ⟨zw_992, zw_993, zw_994⟩
theorem zk_RL_69 : zKV RL 69 m_X11_rock := ⟨zw_577, zw_578, zw_579⟩
theorem zk_RL_72 : zKV RL 72 m_X12_rock := ⟨zw_996, zw_997, zw_998⟩
theorem zk_RL_73 : zKV RL 73 m_X11_islands := ⟨zw_586, zw_587, zw_588⟩
theorem zk_RL_76 : zKV RL 76 m_X12_islands := ⟨zw_1004, zw_1005, zw_1006⟩
theorem zk_RL_77 : zKV RL 77 m_X11_hours := ⟨zw_595, zw_596, zw_597⟩
theorem zk_RL_80 : zKV RL 80 m_X12_hours := ⟨zw_1008, zw_1009, zw_1010⟩
theorem zk_RL_81 : zKV RL 81 m_X11_boat := ⟨zw_615, zw_616, zw_617⟩
theorem zk_RL_84 : zKV RL 84 m_X12_boat := ⟨zw_1019, zw_1020, zw_1021⟩
theorem zk_RL_85 : zKV RL 85 m_X11_cut := ⟨zw_648, zw_649, zw_650⟩
theorem zk_RL_88 : zKV RL 88 m_X12_cut := ⟨zw_1038, zw_1039, zw_1040⟩
theorem zk_RL_89 : zKV RL 89 m_X11_worstCut := ⟨zw_658, zw_659, zw_660⟩
theorem zk_RL_92 : zKV RL 92 m_X12_worstCut := ⟨zw_1046, zw_1047, zw_1048⟩
theorem zk_RL_93 : zKV RL 93 m_X11_copy := ⟨zw_662, zw_663, zw_664⟩
theorem zk_RL_96 : zKV RL 96 m_X12_copy := ⟨zw_1050, zw_1051, zw_1052⟩
theorem zk_RL_97 : zKV RL 97 m_X11_sure := ⟨zw_669, zw_670, zw_671⟩
theorem zk_RL_100 : zKV RL 100 m_X12_sure := ⟨zw_1054, zw_1055, zw_1056⟩
theorem zk_RL_101 : zKV RL 101 m_X11_row := ⟨zw_673, zw_674, zw_675⟩
theorem zk_RL_104 : zKV RL 104 m_X12_row := ⟨zw_1058, zw_1059, zw_1060⟩
theorem zk_RL_105 : zKV RL 105 m_X11_judge := ⟨zw_677, zw_678, zw_679⟩
theorem zk_RL_108 : zKV RL 108 m_X12_judge := ⟨zw_1062, zw_1063, zw_1064⟩
theorem zk_RL_109 : zKV RL 109 m_X11_seeds := ⟨zw_681, zw_682, zw_683⟩
theorem zk_RL_112 : zKV RL 112 m_X12_seeds := ⟨zw_1066, zw_1067, zw_1068⟩
theorem zk_RL_113 : zKV RL 113 m_X11_image := ⟨zw_693, zw_694, zw_695⟩
theorem zk_RL_116 : zKV RL 116 m_X12_image := ⟨zw_892, zw_893, zw_894⟩
theorem zk_RL_117 : zKV RL 117 m_X11_restore := ⟨zw_697, zw_698, zw_699⟩
theorem zk_RL_120 : zKV RL 120 m_X12_restore := ⟨zw_896, zw_897, zw_898⟩
theorem zk_RL_121 : zKV RL 121 m_X11_count := ⟨zw_701, zw_702, zw_703⟩
theorem zk_RL_124 : zKV RL 124 m_X12_count := ⟨zw_1077, zw_1078, zw_1079⟩
end
section
/-! the layout: address, and what stands there; f: the whole numbers of the object or the row, g: the references of a row -/
def shp (a : Nat) (f : Nat → Int32) (g : Nat → Option Nat) : ZO := match a with
  | 0 => .inl (11, [.ref 1, .ref 7, .ref 13, .int (f 3), .ref 19, .ref 21, .ref 23, .int (f 7), .ref 24])
  | 1 => .inl (2, [.ref 2, .int (f 1), .ref 3, .ref 4, .int (f 4), .ref 5, .int (f 6)])
  | 2 => .inr (.inr (1, 8, g))
  | 3 => .inr (.inl (49, f))
  | 4 => .inr (.inl (49, f))
  | 5 => .inl (7, [.ref 6, .int (f 1)])
  | 6 => .inr (.inr (2, 6, g))
  | 7 => .inl (2, [.ref 8, .int (f 1), .ref 9, .ref 10, .int (f 4), .ref 11, .int (f 6)])
  | 8 => .inr (.inr (1, 8, g))
  | 9 => .inr (.inl (49, f))
  | 10 => .inr (.inl (49, f))
  | 11 => .inl (7, [.ref 12, .int (f 1)])
  | 12 => .inr (.inr (2, 6, g))
  | 13 => .inl (2, [.ref 14, .int (f 1), .ref 15, .ref 16, .int (f 4), .ref 17, .int (f 6)])
  | 14 => .inr (.inr (1, 8, g))
  | 15 => .inr (.inl (49, f))
  | 16 => .inr (.inl (49, f))
  | 17 => .inl (7, [.ref 18, .int (f 1)])
  | 18 => .inr (.inr (2, 6, g))
  | 19 => .inl (0, [.ref 20])
  | 20 => .inr (.inl (384, f))
  | 21 => .inl (3, [.ref 22, .int (f 1)])
  | 22 => .inr (.inl (80, f))
  | 23 => .inr (.inl (12, f))
  | 24 => .inr (.inl (7, f))
  | 25 => .inl (12, [.ref 26, .ref 27, .ref 28, .ref 29, .ref 30, .ref 31, .ref 32, .ref 33, .ref 34, .ref 35, .ref 36, .ref 37, .int (f 12), .int (f 13), .int (f 14), .int (f 15), .ref 38, .ref 39, .ref 40, .ref 41, .int (f 20), .int (f 21), .int (f 22), .ref 42, .int (f 24), .int (f 25), .int (f 26), .ref 43, .ref 44, .int (f 29), .int (f 30), .ref 45, .int (f 32), .ref 46, .ref 47, .int (f 35), .int (f 36)])
  | 26 => .inr (.inl (7, f))
  | 27 => .inr (.inl (8, f))
  | 28 => .inr (.inl (8, f))
  | 29 => .inr (.inl (8, f))
  | 30 => .inr (.inl (8, f))
  | 31 => .inr (.inl (49, f))
  | 32 => .inr (.inl (49, f))
  | 33 => .inr (.inl (49, f))
  | 34 => .inr (.inl (6, f))
  | 35 => .inr (.inl (6, f))
  | 36 => .inr (.inl (6, f))
  | 37 => .inr (.inl (6, f))
  | 38 => .inr (.inl (80, f))
  | 39 => .inr (.inl (40, f))
  | 40 => .inr (.inl (40, f))
  | 41 => .inr (.inl (640, f))
  | 42 => .inr (.inl (440, f))
  | 43 => .inr (.inl (49, f))
  | 44 => .inr (.inl (49, f))
  | 45 => .inr (.inl (6, f))
  | 46 => .inr (.inl (49, f))
  | _ => .inr (.inl (12, f))
/-- whole numbers by cell and place, references by row and place, made objects by number -/
abbrev ZS : Type := (Nat → Nat → Int32) × (Nat → Nat → Option Nat) × (Nat → Nat × List Int32)
def zW (S : ZS) : Nat → ZO := fun a => if a < 48 then shp a (S.1 a) (S.2.1 a) else .inl ((S.2.2 (a - 48)).1, (S.2.2 (a - 48)).2.map Value.int)
abbrev zw (S : ZS) (n : Nat) : ZW := (zW S, 48 + n)
def sA (S : ZS) (a k : Nat) (x : Int32) : ZS := (zup S.1 a (zup (S.1 a) k x), S.2)
def sB (S : ZS) (a k : Nat) (r : Option Nat) : ZS := (S.1, zup S.2.1 a (zup (S.2.1 a) k r), S.2.2)
def sP (S : ZS) (j : Nat) (x : Nat × List Int32) : ZS := (S.1, S.2.1, zup S.2.2 j x)
theorem zW_lo {S : ZS} {a : Nat} (h : a < 48) : zW S a = shp a (S.1 a) (S.2.1 a) := if_pos h
theorem zW_hi {S : ZS} {j : Nat} : zW S (48 + j) = .inl ((S.2.2 j).1, (S.2.2 j).2.map Value.int) := by
  unfold zW
  rw [if_neg (by omega), Nat.add_sub_cancel_left]
theorem zW_sA {S : ZS} {a k : Nat} {x : Int32} (h : a < 48) : zup (zW S) a (shp a (zup (S.1 a) k x) (S.2.1 a)) = zW (sA S a k x) := by
  funext j
  by_cases hj : j = a
  · subst hj
    rw [zup_same, zW_lo h]
    show _ = shp j (zup S.1 j (zup (S.1 j) k x) j) (S.2.1 j)
    rw [zup_same]
  · rw [zup_ne _ _ hj]
    unfold zW sA
    show (if j < 48 then shp j (S.1 j) (S.2.1 j) else _) = if j < 48 then shp j (zup S.1 a (zup (S.1 a) k x) j) (S.2.1 j) else _
    rw [zup_ne _ _ hj]
theorem zW_sB {S : ZS} {a k : Nat} {r : Option Nat} (h : a < 48) : zup (zW S) a (shp a (S.1 a) (zup (S.2.1 a) k r)) = zW (sB S a k r) := by
  funext j
  by_cases hj : j = a
  · subst hj
    rw [zup_same, zW_lo h]
    show _ = shp j (S.1 j) (zup S.2.1 j (zup (S.2.1 j) k r) j)
    rw [zup_same]
  · rw [zup_ne _ _ hj]
    unfold zW sB
    show (if j < 48 then shp j (S.1 j) (S.2.1 j) else _) = if j < 48 then shp j (S.1 j) (zup S.2.1 a (zup (S.2.1 a) k r) j) else _
    rw [zup_ne _ _ hj]
theorem zW_sP {S : ZS} {i : Nat} {x : Nat × List Int32} : zup (zW S) (48 + i) (.inl (x.1, x.2.map Value.int)) = zW (sP S i x) := by
  funext j
  by_cases hj : j = 48 + i
  · subst hj
    rw [zup_same, zW_hi]
    show _ = Sum.inl ((zup S.2.2 i x i).1, (zup S.2.2 i x i).2.map Value.int)
    rw [zup_same]
  · rw [zup_ne _ _ hj]
    unfold zW sP
    by_cases h : j < 48
    · rw [if_pos h, if_pos h]
    · rw [if_neg h, if_neg h]
      show _ = Sum.inl ((zup S.2.2 i x (j - 48)).1, (zup S.2.2 i x (j - 48)).2.map Value.int)
      rw [zup_ne _ _ (by omega)]
/-- a field of the object at a, as the entry 'index' of 'own' names it: a whole number -/
def zGI (own : String) (index a k : Nat) : Prop := a < 48 ∧ ∃ ci T N C, (zFd own index ci k T N C ∨ zFn own index ci k T N C) ∧ ∀ f g, ∃ fs, shp a f g = .inl (ci, fs) ∧ fs[k]? = some (.int (f k))
/-- .. a reference that never changes -/
def zGR (own : String) (index a r : Nat) : Prop := a < 48 ∧ ∃ ci k T N C, (zFd own index ci k T N C ∨ zFn own index ci k T N C) ∧ ∀ f g, ∃ fs, shp a f g = .inl (ci, fs) ∧ fs[k]? = some (.ref r)
/-- .. a whole number that may be written -/
def zPI (own : String) (index a k : Nat) (ty : FieldType) : Prop := a < 48 ∧ ∃ ci T N C ty0, (zFd own index ci k T N C ∨ zFn own index ci k T N C) ∧ zFt T N ty0 ∧ (T k).2.2.2 = false ∧ ty0 k = ty ∧ ∀ f g x, ∃ fs, shp a f g = .inl (ci, fs) ∧ k < fs.length ∧ shp a (zup f k x) g = .inl (ci, fs.set k (.int x))
def zAr (a N : Nat) : Prop := a < 48 ∧ ∀ f g, shp a f g = .inr (.inl (N, f))
def zAq (a t N : Nat) (E : String) : Prop := a < 48 ∧ (∀ f g, shp a f g = .inr (.inr (t, N, g))) ∧ ∀ cA : Nat → ClassId, (vtys cA)[t]? = some (cA t, .object E)
def zOb (a : Nat) (C : String) : Prop := a < 48 ∧ ∃ ci T N, vwCl[ci]? = some (C, T, N) ∧ ∀ f g, ∃ fs, shp a f g = .inl (ci, fs)
section ZLAY
variable {d d' : ZD} {kc ks kc' ks' : Nat} {R R' : Option Value → ZW → Prop} {pc pc' : Nat} {ls ls' : List (Option Value)} {As st rest : List Value} {ω : ZW} {S : ZS} {n : Nat}
theorem zlt {a : Nat} (h : a < 48) : a < 48 + n := Nat.lt_of_lt_of_le h (Nat.le_add_right _ _)
theorem Z_gI {own : String} {index a k : Nat} (hd : decode d.2.1 pc = .ok (.getfield index, 3)) (ho : d.1.cls = own) (G : zGI own index a k) (hp : pc + 3 = pc') (kk : Z d kc ks R pc' ls (.int (S.1 a k) :: st) (zw S n)) : Z d kc ks R pc ls (.ref a :: st) (zw S n) := by
  obtain ⟨ha, ci, T, N, C, F, hs⟩ := G
  obtain ⟨fs, h1, h2⟩ := hs (S.1 a) (S.2.1 a)
  rcases F with F | F
  · exact Z_getfield hd ho F (zlt ha) ((zW_lo ha).trans h1) h2 hp kk
  · exact Z_getfieldN hd ho F (zlt ha) ((zW_lo ha).trans h1) h2 hp kk
theorem Z_gR {own : String} {index a r : Nat} (hd : decode d.2.1 pc = .ok (.getfield index, 3)) (ho : d.1.cls = own) (G : zGR own index a r) (hp : pc + 3 = pc') (kk : Z d kc ks R pc' ls (.ref r :: st) (zw S n)) : Z d kc ks R pc ls (.ref a :: st) (zw S n) := by
  obtain ⟨ha, ci, k, T, N, C, F, hs⟩ := G
  obtain ⟨fs, h1, h2⟩ := hs (S.1 a) (S.2.1 a)
  rcases F with F | F
  · exact Z_getfield hd ho F (zlt ha) ((zW_lo ha).trans h1) h2 hp kk
  · exact Z_getfieldN hd ho F (zlt ha) ((zW_lo ha).trans h1) h2 hp kk
theorem Z_pI {own : String} {index a k : Nat} {x : Int32} (hd : decode d.2.1 pc = .ok (.putfield index, 3)) (ho : d.1.cls = own) (G : zPI own index a k .int) (hp : pc + 3 = pc') (kk : Z d kc ks R pc' ls st (zw (sA S a k x) n)) : Z d kc ks R pc ls (.int x :: .ref a :: st) (zw S n) := by
  obtain ⟨ha, ci, T, N, C, ty0, F, hty, hfin, ht, hs⟩ := G
  obtain ⟨fs, h1, h2, h3⟩ := hs (S.1 a) (S.2.1 a) x
  have kk2 : Z d kc ks R pc' ls st (zup (zW S) a (.inl (ci, fs.set k (.int x))), 48 + n) := by rw [← h3, zW_sA ha]; exact kk
  rcases F with F | F
  · exact Z_putfield hd ho F hty hfin (zlt ha) ((zW_lo ha).trans h1) h2 (fun _ => by rw [ht]; rfl) (fun _ => by rw [ht]; rfl) hp kk2
  · exact Z_putfieldN hd ho F hty hfin (zlt ha) ((zW_lo ha).trans h1) h2 (fun _ => by rw [ht]; rfl) (fun _ => by rw [ht]; rfl) hp kk2
theorem Z_pZ {own : String} {index a k : Nat} {x : Int32} (hd : decode d.2.1 pc = .ok (.putfield index, 3)) (ho : d.1.cls = own) (G : zPI own index a k .boolean) (hx : x = 0 ∨ x = 1) (hp : pc + 3 = pc') (kk : Z d kc ks R pc' ls st (zw (sA S a k x) n)) : Z d kc ks R pc ls (.int x :: .ref a :: st) (zw S n) := by
  obtain ⟨ha, ci, T, N, C, ty0, F, hty, hfin, ht, hs⟩ := G
  obtain ⟨fs, h1, h2, h3⟩ := hs (S.1 a) (S.2.1 a) x
  have kk2 : Z d kc ks R pc' ls st (zup (zW S) a (.inl (ci, fs.set k (.int x))), 48 + n) := by rw [← h3, zW_sA ha]; exact kk
  have g1 : narrow .boolean (.int x) = .int x := by rcases hx with rfl | rfl <;> decide
  have g2 : fits .boolean (.int x) = true := by rcases hx with rfl | rfl <;> decide
  rcases F with F | F
  · exact Z_putfield hd ho F hty hfin (zlt ha) ((zW_lo ha).trans h1) h2 (fun _ => by rw [ht]; exact g1) (fun _ => by rw [ht]; exact g2) hp kk2
  · exact Z_putfieldN hd ho F hty hfin (zlt ha) ((zW_lo ha).trans h1) h2 (fun _ => by rw [ht]; exact g1) (fun _ => by rw [ht]; exact g2) hp kk2
theorem Z_al {a N : Nat} {v : Int32} (hd : decode d.2.1 pc = .ok (.arraylength, 1)) (G : zAr a N) (hv : Int32.ofNat N = v) (hp : pc + 1 = pc') (k : Z d kc ks R pc' ls (.int v :: st) (zw S n)) : Z d kc ks R pc ls (.ref a :: st) (zw S n) := Z_alen hd (zlt G.1) ((zW_lo G.1).trans (G.2 _ _)) hv hp k
theorem Z_alq {a t N : Nat} {E : String} {v : Int32} (hd : decode d.2.1 pc = .ok (.arraylength, 1)) (G : zAq a t N E) (hv : Int32.ofNat N = v) (hp : pc + 1 = pc') (k : Z d kc ks R pc' ls (.int v :: st) (zw S n)) : Z d kc ks R pc ls (.ref a :: st) (zw S n) := Z_alenq hd (zlt G.1) ((zW_lo G.1).trans (G.2.1 _ _)) G.2.2 hv hp k
theorem Z_il {a N : Nat} {i : Int32} (hd : decode d.2.1 pc = .ok (.iaload, 1)) (G : zAr a N) (hi : vp_in i N) (hp : pc + 1 = pc') (k : Z d kc ks R pc' ls (.int (S.1 a i.toNatClampNeg) :: st) (zw S n)) : Z d kc ks R pc ls (.int i :: .ref a :: st) (zw S n) := Z_iaload hd (zlt G.1) ((zW_lo G.1).trans (G.2 _ _)) hi hp k
theorem Z_is {a N : Nat} {i x : Int32} (hd : decode d.2.1 pc = .ok (.iastore, 1)) (G : zAr a N) (hi : vp_in i N) (hp : pc + 1 = pc') (k : Z d kc ks R pc' ls st (zw (sA S a i.toNatClampNeg x) n)) : Z d kc ks R pc ls (.int x :: .int i :: .ref a :: st) (zw S n) := by
  refine Z_iastore hd (zlt G.1) ((zW_lo G.1).trans (G.2 _ _)) hi hp ?_
  rw [← G.2 (zup (S.1 a) i.toNatClampNeg x) (S.2.1 a), zW_sA G.1]
  exact k
theorem Z_ql {a t N : Nat} {E : String} {i : Int32} (hd : decode d.2.1 pc = .ok (.aaload, 1)) (G : zAq a t N E) (hi : vp_in i N) (hp : pc + 1 = pc') (k : Z d kc ks R pc' ls (va_rf (S.2.1 a i.toNatClampNeg) :: st) (zw S n)) : Z d kc ks R pc ls (.int i :: .ref a :: st) (zw S n) := Z_aaload hd (zlt G.1) ((zW_lo G.1).trans (G.2.1 _ _)) G.2.2 hi hp k
theorem Z_qsN {a t N : Nat} {E : String} {i : Int32} (hd : decode d.2.1 pc = .ok (.aastore, 1)) (G : zAq a t N E) (hi : vp_in i N) (hp : pc + 1 = pc') (k : Z d kc ks R pc' ls st (zw (sB S a i.toNatClampNeg none) n)) : Z d kc ks R pc ls (.null :: .int i :: .ref a :: st) (zw S n) := by
  refine Z_aastoreN hd (zlt G.1) ((zW_lo G.1).trans (G.2.1 _ _)) G.2.2 hi hp ?_
  rw [← G.2.1 (S.1 a) (zup (S.2.1 a) i.toNatClampNeg none), zW_sB G.1]
  exact k
theorem Z_qs {a t N j : Nat} {E : String} {i : Int32} {r : vw_C} (hd : decode d.2.1 pc = .ok (.aastore, 1)) (G : zAq a t N E) (hj : j < n) (hc : vwCl[(S.2.2 j).1]? = some r) (hca : r.1 = E ∨ Cond.castable r.1 E ∈ ztbN) (hi : vp_in i N) (hp : pc + 1 = pc') (k : Z d kc ks R pc' ls st (zw (sB S a i.toNatClampNeg (some (48 + j))) n)) : Z d kc ks R pc ls (.ref (48 + j) :: .int i :: .ref a :: st) (zw S n) := by
  refine Z_aastore hd (zlt G.1) ((zW_lo G.1).trans (G.2.1 _ _)) G.2.2 (a := 48 + j) (by omega) zW_hi hc hca hi hp ?_
  rw [← G.2.1 (S.1 a) (zup (S.2.1 a) i.toNatClampNeg (some (48 + j))), zW_sB G.1]
  exact k
/-- a field of a made object -/
theorem Z_gP {own C0 : String} {T : u_T} {N ci k index j : Nat} {x : Int32} {fs : List Int32} (hd : decode d.2.1 pc = .ok (.getfield index, 3)) (ho : d.1.cls = own) (F : zFd own index ci k T N C0) (hj : j < n) (hP : S.2.2 j = (ci, fs)) (hv : fs[k]? = some x) (hp : pc + 3 = pc') (kk : Z d kc ks R pc' ls (.int x :: st) (zw S n)) : Z d kc ks R pc ls (.ref (48 + j) :: st) (zw S n) :=
  Z_getfield hd ho F (by omega) (zW_hi.trans (by rw [hP])) (by rw [List.getElem?_map, hv]; rfl) hp kk
theorem Z_pP {own C0 : String} {T : u_T} {N ci k index j : Nat} {x : Int32} {fs : List Int32} {ty0 : Nat → FieldType} (hd : decode d.2.1 pc = .ok (.putfield index, 3)) (ho : d.1.cls = own) (F : zFd own index ci k T N C0) (hty : zFt T N ty0) (hfin : (T k).2.2.2 = true) (hini : d.1.name = "<init>") (hdecl : (T k).1 = own) (ht : ty0 k = .int) (hj : j < n) (hP : S.2.2 j = (ci, fs)) (hl : k < fs.length) (hp : pc + 3 = pc') (kk : Z d kc ks R pc' ls st (zw (sP S j (ci, fs.set k x)) n)) : Z d kc ks R pc ls (.int x :: .ref (48 + j) :: st) (zw S n) := by
  refine Z_putfieldF hd ho F hty hfin hini hdecl (by omega) (zW_hi.trans (by rw [hP])) (by simpa using hl) (fun _ => by rw [ht]; rfl) (fun _ => by rw [ht]; rfl) hp ?_
  have e9 : (fs.map Value.int).set k (.int x) = (fs.set k x).map Value.int := by rw [List.map_set]
  rw [e9, zW_sP (x := (ci, fs.set k x))]
  exact kk
/-- a new object behind the constructors -/
theorem Z_nP {own C0 : String} {T : u_T} {N ci index : Nat} {fs : List Int32} {ty : Nat → FieldType} (hd : decode d.2.1 pc = .ok (.new index, 3)) (ho : d.1.cls = own) (hc : vwCl[ci]? = some (C0, T, N)) (hin : ∀ w ∈ u_ws C0 T N, w ∈ ztb) (hty : zFt T N ty) (hcl : Cond.classLink own index C0 ∈ ztb) (hinst : Cond.instantiable C0 N ∈ ztb) (hini : Cond.initialized C0 ∈ ztb) (hfs : ∀ j, j < N → defaultValue (ty j) = vp_V (fs.map Value.int) j) (hp : pc + 3 = pc') (k : Z d kc ks R pc' ls (.ref (48 + n) :: st) (zw (sP S n (ci, fs)) (n + 1))) : Z d (kc + 1) (ks + N) R pc ls st (zw S n) := by
  refine Z_new hd ho hc hin hty hcl hinst hini (fs := fs.map Value.int) (fun lo j hj => ?_) hp ?_
  · rw [hfs j hj, List.map_map]; rfl
  · rw [zW_sP (x := (ci, fs))]; exact k
/-- the receiver: an object of the layout, or a made one -/
abbrev zRcv (ω : ZW) (o : Nat) (C : String) : Prop := ∃ ci fs r, o < ω.2 ∧ ω.1 o = .inl (ci, fs) ∧ vwCl[ci]? = some r ∧ r.1 = C
theorem zRcv.lay {a : Nat} {C : String} (G : zOb a C) : zRcv (zw S n) a C := by
  obtain ⟨ha, ci, T, N, hc, hs⟩ := G
  obtain ⟨fs, h⟩ := hs (S.1 a) (S.2.1 a)
  exact ⟨ci, fs, _, zlt ha, (zW_lo ha).trans h, hc, rfl⟩
theorem zRcv.made {j ci : Nat} {fs : List Int32} {r : vw_C} (hj : j < n) (hP : S.2.2 j = (ci, fs)) (hc : vwCl[ci]? = some r) : zRcv (zw S n) (48 + j) r.1 := ⟨ci, _, r, by show 48 + j < 48 + n; omega, zW_hi.trans (by rw [hP]), hc, rfl⟩
/-- what a method that answers v and leaves the world ω1 says -/
def zE (v : Option Value) (ω1 : ZW) : Option Value → ZW → Prop := fun q ω2 => q = v ∧ ω2 = ω1
theorem Z_cVa {own : String} {index nn : Nat} {o : Nat} (hd : decode d.2.1 pc = .ok (.invokevirtual index, 3)) (ho : d.1.cls = own) (cw : zCw d' nn) (hn : As.length = nn) (hfit : zFit d d') (hrest : zrest rest ≤ 8) (hr : zRcv ω o d'.1.cls) (ok : zOK d' (.ref o :: As)) (kb : zKV own index d') (hm : zM d' kc' ks' (.ref o :: As) ω R') (hp : pc + 3 = pc') (kk : ∀ (r : Option Value) (ω' : ZW), R' r ω' → Z d kc ks R pc' ls (r.toList ++ rest) ω') : Z d (kc' + kc) (ks' + ks) R pc ls (As.reverse ++ .ref o :: rest) ω := by
  obtain ⟨ci, fs, r, g1, g2, g3, g4⟩ := hr
  exact Z_virtual hd ho cw hn hfit hrest ⟨g1, g2, g3⟩ g4 ok kb.1 kb.2.1 kb.2.2 hm hp kk
theorem Z_cV {own : String} {index nn : Nat} {o : Nat} (hd : decode d.2.1 pc = .ok (.invokevirtual index, 3)) (ho : d.1.cls = own) (cw : zCw d' nn) (hn : As.length = nn) (hfit : zFit d d') (hrest : zrest rest ≤ 8) (hr : zRcv ω o d'.1.cls) (ok : zOK d' (.ref o :: As)) (kb : zKV own index d') (hm : zM d' 0 0 (.ref o :: As) ω R') (hp : pc + 3 = pc') (kk : ∀ (r : Option Value) (ω' : ZW), R' r ω' → Z d kc ks R pc' ls (r.toList ++ rest) ω') : Z d kc ks R pc ls (As.reverse ++ .ref o :: rest) ω := by
  have h := Z_cVa (kc := kc) (ks := ks) hd ho cw hn hfit hrest hr ok kb hm hp kk
  rw [Nat.zero_add, Nat.zero_add] at h
  exact h
theorem Z_cVe {v : Value} {ω1 : ZW} {own : String} {index nn : Nat} {o : Nat} (hd : decode d.2.1 pc = .ok (.invokevirtual index, 3)) (ho : d.1.cls = own) (cw : zCw d' nn) (hn : As.length = nn) (hfit : zFit d d') (hrest : zrest rest ≤ 8) (hr : zRcv ω o d'.1.cls) (ok : zOK d' (.ref o :: As)) (kb : zKV own index d') (hm : zM d' 0 0 (.ref o :: As) ω (zE (some v) ω1)) (hp : pc + 3 = pc') (kk : Z d kc ks R pc' ls (v :: rest) ω1) : Z d kc ks R pc ls (As.reverse ++ .ref o :: rest) ω :=
  Z_cV hd ho cw hn hfit hrest hr ok kb hm hp (fun r ω' h => by obtain ⟨rfl, rfl⟩ := h; exact kk)
theorem Z_cVv {ω1 : ZW} {own : String} {index nn : Nat} {o : Nat} (hd : decode d.2.1 pc = .ok (.invokevirtual index, 3)) (ho : d.1.cls = own) (cw : zCw d' nn) (hn : As.length = nn) (hfit : zFit d d') (hrest : zrest rest ≤ 8) (hr : zRcv ω o d'.1.cls) (ok : zOK d' (.ref o :: As)) (kb : zKV own index d') (hm : zM d' 0 0 (.ref o :: As) ω (zE none ω1)) (hp : pc + 3 = pc') (kk : Z d kc ks R pc' ls rest ω1) : Z d kc ks R pc ls (As.reverse ++ .ref o :: rest) ω :=
  Z_cV hd ho cw hn hfit hrest hr ok kb hm hp (fun r ω' h => by obtain ⟨rfl, rfl⟩ := h; exact kk)
theorem Z_cSa {own : String} {index nn : Nat} (hd : decode d.2.1 pc = .ok (.invokestatic index, 3)) (ho : d.1.cls = own) (cw : zCw d' nn) (hn : As.length = nn) (hfit : zFit d d') (hrest : zrest rest ≤ 8) (ok : zOK d' (As)) (kb : zKS own index d') (hm : zM d' kc' ks' (As) ω R') (hp : pc + 3 = pc') (kk : ∀ (r : Option Value) (ω' : ZW), R' r ω' → Z d kc ks R pc' ls (r.toList ++ rest) ω') : Z d (kc' + kc) (ks' + ks) R pc ls (As.reverse ++ rest) ω := Z_static hd ho cw hn hfit hrest ok kb.1 kb.2 hm hp kk
theorem Z_cS {own : String} {index nn : Nat} (hd : decode d.2.1 pc = .ok (.invokestatic index, 3)) (ho : d.1.cls = own) (cw : zCw d' nn) (hn : As.length = nn) (hfit : zFit d d') (hrest : zrest rest ≤ 8) (ok : zOK d' (As)) (kb : zKS own index d') (hm : zM d' 0 0 (As) ω R') (hp : pc + 3 = pc') (kk : ∀ (r : Option Value) (ω' : ZW), R' r ω' → Z d kc ks R pc' ls (r.toList ++ rest) ω') : Z d kc ks R pc ls (As.reverse ++ rest) ω := by
  have h := Z_cSa (kc := kc) (ks := ks) hd ho cw hn hfit hrest ok kb hm hp kk
  rw [Nat.zero_add, Nat.zero_add] at h
  exact h
theorem Z_cSe {v : Value} {ω1 : ZW} {own : String} {index nn : Nat} (hd : decode d.2.1 pc = .ok (.invokestatic index, 3)) (ho : d.1.cls = own) (cw : zCw d' nn) (hn : As.length = nn) (hfit : zFit d d') (hrest : zrest rest ≤ 8) (ok : zOK d' (As)) (kb : zKS own index d') (hm : zM d' 0 0 (As) ω (zE (some v) ω1)) (hp : pc + 3 = pc') (kk : Z d kc ks R pc' ls (v :: rest) ω1) : Z d kc ks R pc ls (As.reverse ++ rest) ω :=
  Z_cS hd ho cw hn hfit hrest ok kb hm hp (fun r ω' h => by obtain ⟨rfl, rfl⟩ := h; exact kk)
theorem Z_cSv {ω1 : ZW} {own : String} {index nn : Nat} (hd : decode d.2.1 pc = .ok (.invokestatic index, 3)) (ho : d.1.cls = own) (cw : zCw d' nn) (hn : As.length = nn) (hfit : zFit d d') (hrest : zrest rest ≤ 8) (ok : zOK d' (As)) (kb : zKS own index d') (hm : zM d' 0 0 (As) ω (zE none ω1)) (hp : pc + 3 = pc') (kk : Z d kc ks R pc' ls rest ω1) : Z d kc ks R pc ls (As.reverse ++ rest) ω :=
  Z_cS hd ho cw hn hfit hrest ok kb hm hp (fun r ω' h => by obtain ⟨rfl, rfl⟩ := h; exact kk)
theorem Z_cSNa {own : String} {index nn : Nat} (hd : decode d.2.1 pc = .ok (.invokestatic index, 3)) (ho : d.1.cls = own) (cw : zCw d' nn) (hn : As.length = nn) (hfit : zFit d d') (hrest : zrest rest ≤ 8) (ok : zOK d' (As)) (kb : zKSN own index d') (hm : zM d' kc' ks' (As) ω R') (hp : pc + 3 = pc') (kk : ∀ (r : Option Value) (ω' : ZW), R' r ω' → Z d kc ks R pc' ls (r.toList ++ rest) ω') : Z d (kc' + kc) (ks' + ks) R pc ls (As.reverse ++ rest) ω := by
  obtain ⟨⟨host, kb1⟩, kb2⟩ := kb
  exact Z_staticN hd ho cw hn hfit hrest ok kb1 kb2 hm hp kk
theorem Z_cSN {own : String} {index nn : Nat} (hd : decode d.2.1 pc = .ok (.invokestatic index, 3)) (ho : d.1.cls = own) (cw : zCw d' nn) (hn : As.length = nn) (hfit : zFit d d') (hrest : zrest rest ≤ 8) (ok : zOK d' (As)) (kb : zKSN own index d') (hm : zM d' 0 0 (As) ω R') (hp : pc + 3 = pc') (kk : ∀ (r : Option Value) (ω' : ZW), R' r ω' → Z d kc ks R pc' ls (r.toList ++ rest) ω') : Z d kc ks R pc ls (As.reverse ++ rest) ω := by
  have h := Z_cSNa (kc := kc) (ks := ks) hd ho cw hn hfit hrest ok kb hm hp kk
  rw [Nat.zero_add, Nat.zero_add] at h
  exact h
theorem Z_cSNe {v : Value} {ω1 : ZW} {own : String} {index nn : Nat} (hd : decode d.2.1 pc = .ok (.invokestatic index, 3)) (ho : d.1.cls = own) (cw : zCw d' nn) (hn : As.length = nn) (hfit : zFit d d') (hrest : zrest rest ≤ 8) (ok : zOK d' (As)) (kb : zKSN own index d') (hm : zM d' 0 0 (As) ω (zE (some v) ω1)) (hp : pc + 3 = pc') (kk : Z d kc ks R pc' ls (v :: rest) ω1) : Z d kc ks R pc ls (As.reverse ++ rest) ω :=
  Z_cSN hd ho cw hn hfit hrest ok kb hm hp (fun r ω' h => by obtain ⟨rfl, rfl⟩ := h; exact kk)
theorem Z_cSNv {ω1 : ZW} {own : String} {index nn : Nat} (hd : decode d.2.1 pc = .ok (.invokestatic index, 3)) (ho : d.1.cls = own) (cw : zCw d' nn) (hn : As.length = nn) (hfit : zFit d d') (hrest : zrest rest ≤ 8) (ok : zOK d' (As)) (kb : zKSN own index d') (hm : zM d' 0 0 (As) ω (zE none ω1)) (hp : pc + 3 = pc') (kk : Z d kc ks R pc' ls rest ω1) : Z d kc ks R pc ls (As.reverse ++ rest) ω :=
  Z_cSN hd ho cw hn hfit hrest ok kb hm hp (fun r ω' h => by obtain ⟨rfl, rfl⟩ := h; exact kk)
theorem Z_cIa {own : String} {index nn : Nat} {o : Nat} (hd : decode d.2.1 pc = .ok (.invokespecial index, 3)) (ho : d.1.cls = own) (cw : zCw d' nn) (hn : As.length = nn) (hfit : zFit d d') (hrest : zrest rest ≤ 8) (hret : d'.2.2.2.1 = none) (hy1 : d'.1.name = "<init>") (ok : zOK d' (.ref o :: As)) (kb : zKI own index d') (hm : zM d' kc' ks' (.ref o :: As) ω R') (hp : pc + 3 = pc') (kk : ∀ (r : Option Value) (ω' : ZW), R' r ω' → Z d kc ks R pc' ls (r.toList ++ rest) ω') : Z d (kc' + kc) (ks' + ks) R pc ls (As.reverse ++ .ref o :: rest) ω := Z_init hd ho cw hn hfit hrest ok hret kb.1 kb.2 hy1 hm hp kk
theorem Z_cI {own : String} {index nn : Nat} {o : Nat} (hd : decode d.2.1 pc = .ok (.invokespecial index, 3)) (ho : d.1.cls = own) (cw : zCw d' nn) (hn : As.length = nn) (hfit : zFit d d') (hrest : zrest rest ≤ 8) (hret : d'.2.2.2.1 = none) (hy1 : d'.1.name = "<init>") (ok : zOK d' (.ref o :: As)) (kb : zKI own index d') (hm : zM d' 0 0 (.ref o :: As) ω R') (hp : pc + 3 = pc') (kk : ∀ (r : Option Value) (ω' : ZW), R' r ω' → Z d kc ks R pc' ls (r.toList ++ rest) ω') : Z d kc ks R pc ls (As.reverse ++ .ref o :: rest) ω := by
  have h := Z_cIa (kc := kc) (ks := ks) hd ho cw hn hfit hrest hret hy1 ok kb hm hp kk
  rw [Nat.zero_add, Nat.zero_add] at h
  exact h
theorem Z_cIe {v : Value} {ω1 : ZW} {own : String} {index nn : Nat} {o : Nat} (hd : decode d.2.1 pc = .ok (.invokespecial index, 3)) (ho : d.1.cls = own) (cw : zCw d' nn) (hn : As.length = nn) (hfit : zFit d d') (hrest : zrest rest ≤ 8) (hret : d'.2.2.2.1 = none) (hy1 : d'.1.name = "<init>") (ok : zOK d' (.ref o :: As)) (kb : zKI own index d') (hm : zM d' 0 0 (.ref o :: As) ω (zE (some v) ω1)) (hp : pc + 3 = pc') (kk : Z d kc ks R pc' ls (v :: rest) ω1) : Z d kc ks R pc ls (As.reverse ++ .ref o :: rest) ω :=
  Z_cI hd ho cw hn hfit hrest hret hy1 ok kb hm hp (fun r ω' h => by obtain ⟨rfl, rfl⟩ := h; exact kk)
theorem Z_cIv {ω1 : ZW} {own : String} {index nn : Nat} {o : Nat} (hd : decode d.2.1 pc = .ok (.invokespecial index, 3)) (ho : d.1.cls = own) (cw : zCw d' nn) (hn : As.length = nn) (hfit : zFit d d') (hrest : zrest rest ≤ 8) (hret : d'.2.2.2.1 = none) (hy1 : d'.1.name = "<init>") (ok : zOK d' (.ref o :: As)) (kb : zKI own index d') (hm : zM d' 0 0 (.ref o :: As) ω (zE none ω1)) (hp : pc + 3 = pc') (kk : Z d kc ks R pc' ls rest ω1) : Z d kc ks R pc ls (As.reverse ++ .ref o :: rest) ω :=
  Z_cI hd ho cw hn hfit hrest hret hy1 ok kb hm hp (fun r ω' h => by obtain ⟨rfl, rfl⟩ := h; exact kk)
theorem Z_cINa {own : String} {index nn : Nat} {o : Nat} (hd : decode d.2.1 pc = .ok (.invokespecial index, 3)) (ho : d.1.cls = own) (cw : zCw d' nn) (hn : As.length = nn) (hfit : zFit d d') (hrest : zrest rest ≤ 8) (hret : d'.2.2.2.1 = none) (hy1 : d'.1.name = "<init>") (ok : zOK d' (.ref o :: As)) (kb : zKIN own index d') (hm : zM d' kc' ks' (.ref o :: As) ω R') (hp : pc + 3 = pc') (kk : ∀ (r : Option Value) (ω' : ZW), R' r ω' → Z d kc ks R pc' ls (r.toList ++ rest) ω') : Z d (kc' + kc) (ks' + ks) R pc ls (As.reverse ++ .ref o :: rest) ω := by
  obtain ⟨⟨host, kb1⟩, kb2⟩ := kb
  exact Z_initN hd ho cw hn hfit hrest ok hret kb1 kb2 hy1 hm hp kk
theorem Z_cIN {own : String} {index nn : Nat} {o : Nat} (hd : decode d.2.1 pc = .ok (.invokespecial index, 3)) (ho : d.1.cls = own) (cw : zCw d' nn) (hn : As.length = nn) (hfit : zFit d d') (hrest : zrest rest ≤ 8) (hret : d'.2.2.2.1 = none) (hy1 : d'.1.name = "<init>") (ok : zOK d' (.ref o :: As)) (kb : zKIN own index d') (hm : zM d' 0 0 (.ref o :: As) ω R') (hp : pc + 3 = pc') (kk : ∀ (r : Option Value) (ω' : ZW), R' r ω' → Z d kc ks R pc' ls (r.toList ++ rest) ω') : Z d kc ks R pc ls (As.reverse ++ .ref o :: rest) ω := by
  have h := Z_cINa (kc := kc) (ks := ks) hd ho cw hn hfit hrest hret hy1 ok kb hm hp kk
  rw [Nat.zero_add, Nat.zero_add] at h
  exact h
theorem Z_cINe {v : Value} {ω1 : ZW} {own : String} {index nn : Nat} {o : Nat} (hd : decode d.2.1 pc = .ok (.invokespecial index, 3)) (ho : d.1.cls = own) (cw : zCw d' nn) (hn : As.length = nn) (hfit : zFit d d') (hrest : zrest rest ≤ 8) (hret : d'.2.2.2.1 = none) (hy1 : d'.1.name = "<init>") (ok : zOK d' (.ref o :: As)) (kb : zKIN own index d') (hm : zM d' 0 0 (.ref o :: As) ω (zE (some v) ω1)) (hp : pc + 3 = pc') (kk : Z d kc ks R pc' ls (v :: rest) ω1) : Z d kc ks R pc ls (As.reverse ++ .ref o :: rest) ω :=
  Z_cIN hd ho cw hn hfit hrest hret hy1 ok kb hm hp (fun r ω' h => by obtain ⟨rfl, rfl⟩ := h; exact kk)
theorem Z_cINv {ω1 : ZW} {own : String} {index nn : Nat} {o : Nat} (hd : decode d.2.1 pc = .ok (.invokespecial index, 3)) (ho : d.1.cls = own) (cw : zCw d' nn) (hn : As.length = nn) (hfit : zFit d d') (hrest : zrest rest ≤ 8) (hret : d'.2.2.2.1 = none) (hy1 : d'.1.name = "<init>") (ok : zOK d' (.ref o :: As)) (kb : zKIN own index d') (hm : zM d' 0 0 (.ref o :: As) ω (zE none ω1)) (hp : pc + 3 = pc') (kk : Z d kc ks R pc' ls rest ω1) : Z d kc ks R pc ls (As.reverse ++ .ref o :: rest) ω :=
  Z_cIN hd ho cw hn hfit hrest hret hy1 ok kb hm hp (fun r ω' h => by obtain ⟨rfl, rfl⟩ := h; exact kk)
theorem Z_cUa {own : String} {index nn : Nat} {o : Nat} {C : String} (hd : decode d.2.1 pc = .ok (.invokespecial index, 3)) (ho : d.1.cls = own) (cw : zCw d' nn) (hn : As.length = nn) (hfit : zFit d d') (hrest : zrest rest ≤ 8) (hr : zRcv ω o C) (hy1 : d'.1.name ≠ "<init>") (ok : zOK d' (.ref o :: As)) (kb : zKsuper own index d') (hm : zM d' kc' ks' (.ref o :: As) ω R') (hp : pc + 3 = pc') (kk : ∀ (r : Option Value) (ω' : ZW), R' r ω' → Z d kc ks R pc' ls (r.toList ++ rest) ω') : Z d (kc' + kc) (ks' + ks) R pc ls (As.reverse ++ .ref o :: rest) ω := by
  obtain ⟨ci, fs, r, g1, g2, g3, g4⟩ := hr
  exact Z_super hd ho cw hn hfit hrest ⟨g1, g2, g3⟩ ok kb.1 kb.2.1 kb.2.2.1 kb.2.2.2 hy1 hm hp kk
theorem Z_cU {own : String} {index nn : Nat} {o : Nat} {C : String} (hd : decode d.2.1 pc = .ok (.invokespecial index, 3)) (ho : d.1.cls = own) (cw : zCw d' nn) (hn : As.length = nn) (hfit : zFit d d') (hrest : zrest rest ≤ 8) (hr : zRcv ω o C) (hy1 : d'.1.name ≠ "<init>") (ok : zOK d' (.ref o :: As)) (kb : zKsuper own index d') (hm : zM d' 0 0 (.ref o :: As) ω R') (hp : pc + 3 = pc') (kk : ∀ (r : Option Value) (ω' : ZW), R' r ω' → Z d kc ks R pc' ls (r.toList ++ rest) ω') : Z d kc ks R pc ls (As.reverse ++ .ref o :: rest) ω := by
  have h := Z_cUa (kc := kc) (ks := ks) hd ho cw hn hfit hrest hr hy1 ok kb hm hp kk
  rw [Nat.zero_add, Nat.zero_add] at h
  exact h
theorem Z_cUe {v : Value} {ω1 : ZW} {own : String} {index nn : Nat} {o : Nat} {C : String} (hd : decode d.2.1 pc = .ok (.invokespecial index, 3)) (ho : d.1.cls = own) (cw : zCw d' nn) (hn : As.length = nn) (hfit : zFit d d') (hrest : zrest rest ≤ 8) (hr : zRcv ω o C) (hy1 : d'.1.name ≠ "<init>") (ok : zOK d' (.ref o :: As)) (kb : zKsuper own index d') (hm : zM d' 0 0 (.ref o :: As) ω (zE (some v) ω1)) (hp : pc + 3 = pc') (kk : Z d kc ks R pc' ls (v :: rest) ω1) : Z d kc ks R pc ls (As.reverse ++ .ref o :: rest) ω :=
  Z_cU hd ho cw hn hfit hrest hr hy1 ok kb hm hp (fun r ω' h => by obtain ⟨rfl, rfl⟩ := h; exact kk)
theorem Z_cUv {ω1 : ZW} {own : String} {index nn : Nat} {o : Nat} {C : String} (hd : decode d.2.1 pc = .ok (.invokespecial index, 3)) (ho : d.1.cls = own) (cw : zCw d' nn) (hn : As.length = nn) (hfit : zFit d d') (hrest : zrest rest ≤ 8) (hr : zRcv ω o C) (hy1 : d'.1.name ≠ "<init>") (ok : zOK d' (.ref o :: As)) (kb : zKsuper own index d') (hm : zM d' 0 0 (.ref o :: As) ω (zE none ω1)) (hp : pc + 3 = pc') (kk : Z d kc ks R pc' ls rest ω1) : Z d kc ks R pc ls (As.reverse ++ .ref o :: rest) ω :=
  Z_cU hd ho cw hn hfit hrest hr hy1 ok kb hm hp (fun r ω' h => by obtain ⟨rfl, rfl⟩ := h; exact kk)
theorem Z_cOa {own : String} {index nn : Nat} {o : Nat} {C : String} {x : MethodName} (hd : decode d.2.1 pc = .ok (.invokevirtual index, 3)) (ho : d.1.cls = own) (cw : zCw d' nn) (hn : As.length = nn) (hfit : zFit d d') (hrest : zrest rest ≤ 8) (hr : zRcv ω o C) (ok : zOK d' (.ref o :: As)) (kb : zKO own index C x d' nn) (hm : zM d' kc' ks' (.ref o :: As) ω R') (hp : pc + 3 = pc') (kk : ∀ (r : Option Value) (ω' : ZW), R' r ω' → Z d kc ks R pc' ls (r.toList ++ rest) ω') : Z d (kc' + kc) (ks' + ks) R pc ls (As.reverse ++ .ref o :: rest) ω := by
  obtain ⟨ci, fs, r, g1, g2, g3, rfl⟩ := hr
  obtain ⟨owner, k1, k2, k3, k4, k5, k6, k7⟩ := kb
  exact Z_over hd ho cw hn hfit hrest ⟨g1, g2, g3⟩ ok k1 k2 k3 k4 k5 k6 k7 hm hp kk
theorem Z_cO {own : String} {index nn : Nat} {o : Nat} {C : String} {x : MethodName} (hd : decode d.2.1 pc = .ok (.invokevirtual index, 3)) (ho : d.1.cls = own) (cw : zCw d' nn) (hn : As.length = nn) (hfit : zFit d d') (hrest : zrest rest ≤ 8) (hr : zRcv ω o C) (ok : zOK d' (.ref o :: As)) (kb : zKO own index C x d' nn) (hm : zM d' 0 0 (.ref o :: As) ω R') (hp : pc + 3 = pc') (kk : ∀ (r : Option Value) (ω' : ZW), R' r ω' → Z d kc ks R pc' ls (r.toList ++ rest) ω') : Z d kc ks R pc ls (As.reverse ++ .ref o :: rest) ω := by
  have h := Z_cOa (kc := kc) (ks := ks) hd ho cw hn hfit hrest hr ok kb hm hp kk
  rw [Nat.zero_add, Nat.zero_add] at h
  exact h
theorem Z_cOe {v : Value} {ω1 : ZW} {own : String} {index nn : Nat} {o : Nat} {C : String} {x : MethodName} (hd : decode d.2.1 pc = .ok (.invokevirtual index, 3)) (ho : d.1.cls = own) (cw : zCw d' nn) (hn : As.length = nn) (hfit : zFit d d') (hrest : zrest rest ≤ 8) (hr : zRcv ω o C) (ok : zOK d' (.ref o :: As)) (kb : zKO own index C x d' nn) (hm : zM d' 0 0 (.ref o :: As) ω (zE (some v) ω1)) (hp : pc + 3 = pc') (kk : Z d kc ks R pc' ls (v :: rest) ω1) : Z d kc ks R pc ls (As.reverse ++ .ref o :: rest) ω :=
  Z_cO hd ho cw hn hfit hrest hr ok kb hm hp (fun r ω' h => by obtain ⟨rfl, rfl⟩ := h; exact kk)
theorem Z_cOv {ω1 : ZW} {own : String} {index nn : Nat} {o : Nat} {C : String} {x : MethodName} (hd : decode d.2.1 pc = .ok (.invokevirtual index, 3)) (ho : d.1.cls = own) (cw : zCw d' nn) (hn : As.length = nn) (hfit : zFit d d') (hrest : zrest rest ≤ 8) (hr : zRcv ω o C) (ok : zOK d' (.ref o :: As)) (kb : zKO own index C x d' nn) (hm : zM d' 0 0 (.ref o :: As) ω (zE none ω1)) (hp : pc + 3 = pc') (kk : Z d kc ks R pc' ls rest ω1) : Z d kc ks R pc ls (As.reverse ++ .ref o :: rest) ω :=
  Z_cO hd ho cw hn hfit hrest hr ok kb hm hp (fun r ω' h => by obtain ⟨rfl, rfl⟩ := h; exact kk)
theorem Z_mmax {own : String} {index : Nat} {x y : Int32} (hd : decode d.2.1 pc = .ok (.invokestatic index, 3)) (ho : d.1.cls = own) (kb : zKS own index m_J9_max_7cf53) (hf : 1 ≤ d.2.2.2.2.1) (hc : zrest st + 13 ≤ d.2.2.2.2.2) (hp : pc + 3 = pc') (k : Z d kc ks R pc' ls (.int (if x < y then y else x) :: st) ω) : Z d kc ks R pc ls (.int y :: .int x :: st) ω := by
  subst hp; subst ho
  intro p l e s m args below meth c H locs cells slots RC RS lo cA D lsA C h1 h2 h3 h4 h5 h6
  have hts := C.2.2.2.2.2.2.2.1
  exact va_mmax C.1 C.2.1 (C.2.2.2.1.trans h6.1.symm) C.2.2.2.2.1 (hts _ kb.1) (hts _ kb.2) (hts _ zw_62) (hts _ zwc_J9_max_7cf53) hf (by show (List.map _ (List.map _ st)).sum + 13 ≤ _; rw [zrest_map]; exact hc) (Nat.le_trans (Nat.le_add_right _ _) h1) (Nat.le_trans (Nat.le_add_right _ _) h2) hd (k p l e s m args below meth c H locs cells slots RC RS lo cA D lsA C h1 h2 h3 h4 h5 h6)
theorem Z_mmin {own : String} {index : Nat} {x y : Int32} (hd : decode d.2.1 pc = .ok (.invokestatic index, 3)) (ho : d.1.cls = own) (kb : zKS own index m_J9_min_7cf53) (hf : 1 ≤ d.2.2.2.2.1) (hc : zrest st + 13 ≤ d.2.2.2.2.2) (hp : pc + 3 = pc') (k : Z d kc ks R pc' ls (.int (if y < x then y else x) :: st) ω) : Z d kc ks R pc ls (.int y :: .int x :: st) ω := by
  subst hp; subst ho
  intro p l e s m args below meth c H locs cells slots RC RS lo cA D lsA C h1 h2 h3 h4 h5 h6
  have hts := C.2.2.2.2.2.2.2.1
  exact va_mmin C.1 C.2.1 (C.2.2.2.1.trans h6.1.symm) C.2.2.2.2.1 (hts _ kb.1) (hts _ kb.2) (hts _ zw_62) (hts _ zwc_J9_min_7cf53) hf (by show (List.map _ (List.map _ st)).sum + 13 ≤ _; rw [zrest_map]; exact hc) (Nat.le_trans (Nat.le_add_right _ _) h1) (Nat.le_trans (Nat.le_add_right _ _) h2) hd (k p l e s m args below meth c H locs cells slots RC RS lo cA D lsA C h1 h2 h3 h4 h5 h6)
theorem Z_mabs {own : String} {index : Nat} {x : Int32} (hd : decode d.2.1 pc = .ok (.invokestatic index, 3)) (ho : d.1.cls = own) (kb : zKS own index m_J9_abs_0f7a4) (hf : 1 ≤ d.2.2.2.2.1) (hc : zrest st + 13 ≤ d.2.2.2.2.2) (hp : pc + 3 = pc') (k : Z d kc ks R pc' ls (.int (if 0 ≤ x then x else 0 - x) :: st) ω) : Z d kc ks R pc ls (.int x :: st) ω := by
  subst hp; subst ho
  intro p l e s m args below meth c H locs cells slots RC RS lo cA D lsA C h1 h2 h3 h4 h5 h6
  have hts := C.2.2.2.2.2.2.2.1
  exact va_mabs C.1 C.2.1 (C.2.2.2.1.trans h6.1.symm) C.2.2.2.2.1 (hts _ kb.1) (hts _ kb.2) (hts _ zw_62) (hts _ zwc_J9_abs_0f7a4) hf (by show (List.map _ (List.map _ st)).sum + 13 ≤ _; rw [zrest_map]; exact hc) (Nat.le_trans (Nat.le_add_right _ _) h1) (Nat.le_trans (Nat.le_add_right _ _) h2) hd (k p l e s m args below meth c H locs cells slots RC RS lo cA D lsA C h1 h2 h3 h4 h5 h6)
end ZLAY
theorem zob_0 : zOb 0 RX11 := ⟨by decide, 11, TX11, 9, rfl, fun _ _ => ⟨_, rfl⟩⟩
theorem zob_1 : zOb 1 RX2 := ⟨by decide, 2, TX2, 7, rfl, fun _ _ => ⟨_, rfl⟩⟩
theorem zaq_2 : zAq 2 1 8 RX9 := ⟨by decide, fun _ _ => rfl, fun _ => rfl⟩
theorem zar_3 : zAr 3 49 := ⟨by decide, fun _ _ => rfl⟩
theorem zar_4 : zAr 4 49 := ⟨by decide, fun _ _ => rfl⟩
theorem zob_5 : zOb 5 RX7 := ⟨by decide, 7, TX7, 2, rfl, fun _ _ => ⟨_, rfl⟩⟩
theorem zaq_6 : zAq 6 2 6 RX6 := ⟨by decide, fun _ _ => rfl, fun _ => rfl⟩
theorem zob_7 : zOb 7 RX2 := ⟨by decide, 2, TX2, 7, rfl, fun _ _ => ⟨_, rfl⟩⟩
theorem zaq_8 : zAq 8 1 8 RX9 := ⟨by decide, fun _ _ => rfl, fun _ => rfl⟩
theorem zar_9 : zAr 9 49 := ⟨by decide, fun _ _ => rfl⟩
theorem zar_10 : zAr 10 49 := ⟨by decide, fun _ _ => rfl⟩
theorem zob_11 : zOb 11 RX7 := ⟨by decide, 7, TX7, 2, rfl, fun _ _ => ⟨_, rfl⟩⟩
theorem zaq_12 : zAq 12 2 6 RX6 := ⟨by decide, fun _ _ => rfl, fun _ => rfl⟩
theorem zob_13 : zOb 13 RX2 := ⟨by decide, 2, TX2, 7, rfl, fun _ _ => ⟨_, rfl⟩⟩
theorem zaq_14 : zAq 14 1 8 RX9 := ⟨by decide, fun _ _ => rfl, fun _ => rfl⟩
theorem zar_15 : zAr 15 49 := ⟨by decide, fun _ _ => rfl⟩
theorem zar_16 : zAr 16 49 := ⟨by decide, fun _ _ => rfl⟩
theorem zob_17 : zOb 17 RX7 := ⟨by decide, 7, TX7, 2, rfl, fun _ _ => ⟨_, rfl⟩⟩
theorem zaq_18 : zAq 18 2 6 RX6 := ⟨by decide, fun _ _ => rfl, fun _ => rfl⟩
theorem zob_19 : zOb 19 RX0 := ⟨by decide, 0, TX0, 1, rfl, fun _ _ => ⟨_, rfl⟩⟩
theorem zar_20 : zAr 20 384 := ⟨by decide, fun _ _ => rfl⟩
theorem zob_21 : zOb 21 RX3 := ⟨by decide, 3, TX3, 2, rfl, fun _ _ => ⟨_, rfl⟩⟩
theorem zar_22 : zAr 22 80 := ⟨by decide, fun _ _ => rfl⟩
theorem zar_23 : zAr 23 12 := ⟨by decide, fun _ _ => rfl⟩
theorem zar_24 : zAr 24 7 := ⟨by decide, fun _ _ => rfl⟩
theorem zob_25 : zOb 25 RX12 := ⟨by decide, 12, TX12, 37, rfl, fun _ _ => ⟨_, rfl⟩⟩
theorem zar_26 : zAr 26 7 := ⟨by decide, fun _ _ => rfl⟩
theorem zar_27 : zAr 27 8 := ⟨by decide, fun _ _ => rfl⟩
theorem zar_28 : zAr 28 8 := ⟨by decide, fun _ _ => rfl⟩
theorem zar_29 : zAr 29 8 := ⟨by decide, fun _ _ => rfl⟩
theorem zar_30 : zAr 30 8 := ⟨by decide, fun _ _ => rfl⟩
theorem zar_31 : zAr 31 49 := ⟨by decide, fun _ _ => rfl⟩
theorem zar_32 : zAr 32 49 := ⟨by decide, fun _ _ => rfl⟩
theorem zar_33 : zAr 33 49 := ⟨by decide, fun _ _ => rfl⟩
theorem zar_34 : zAr 34 6 := ⟨by decide, fun _ _ => rfl⟩
theorem zar_35 : zAr 35 6 := ⟨by decide, fun _ _ => rfl⟩
theorem zar_36 : zAr 36 6 := ⟨by decide, fun _ _ => rfl⟩
theorem zar_37 : zAr 37 6 := ⟨by decide, fun _ _ => rfl⟩
theorem zar_38 : zAr 38 80 := ⟨by decide, fun _ _ => rfl⟩
theorem zar_39 : zAr 39 40 := ⟨by decide, fun _ _ => rfl⟩
theorem zar_40 : zAr 40 40 := ⟨by decide, fun _ _ => rfl⟩
theorem zar_41 : zAr 41 640 := ⟨by decide, fun _ _ => rfl⟩
theorem zar_42 : zAr 42 440 := ⟨by decide, fun _ _ => rfl⟩
theorem zar_43 : zAr 43 49 := ⟨by decide, fun _ _ => rfl⟩
theorem zar_44 : zAr 44 49 := ⟨by decide, fun _ _ => rfl⟩
theorem zar_45 : zAr 45 6 := ⟨by decide, fun _ _ => rfl⟩
theorem zar_46 : zAr 46 49 := ⟨by decide, fun _ _ => rfl⟩
theorem zar_47 : zAr 47 12 := ⟨by decide, fun _ _ => rfl⟩
theorem zgr_RX11_10_0 : zGR RX11 10 0 1 := ⟨by decide, 11, 0, _, _, _, Or.inl zfd_RX11_10_11, fun _ _ => ⟨_, rfl, rfl⟩⟩
theorem zgr_RX11_16_0 : zGR RX11 16 0 7 := ⟨by decide, 11, 1, _, _, _, Or.inl zfd_RX11_16_11, fun _ _ => ⟨_, rfl, rfl⟩⟩
theorem zgr_RX11_19_0 : zGR RX11 19 0 13 := ⟨by decide, 11, 2, _, _, _, Or.inl zfd_RX11_19_11, fun _ _ => ⟨_, rfl, rfl⟩⟩
theorem zgr_RX11_25_0 : zGR RX11 25 0 19 := ⟨by decide, 11, 4, _, _, _, Or.inl zfd_RX11_25_11, fun _ _ => ⟨_, rfl, rfl⟩⟩
theorem zgr_RX11_32_0 : zGR RX11 32 0 21 := ⟨by decide, 11, 5, _, _, _, Or.inl zfd_RX11_32_11, fun _ _ => ⟨_, rfl, rfl⟩⟩
theorem zgr_RX11_36_0 : zGR RX11 36 0 23 := ⟨by decide, 11, 6, _, _, _, Or.inl zfd_RX11_36_11, fun _ _ => ⟨_, rfl, rfl⟩⟩
theorem zgr_RX11_40_0 : zGR RX11 40 0 24 := ⟨by decide, 11, 8, _, _, _, Or.inl zfd_RX11_40_11, fun _ _ => ⟨_, rfl, rfl⟩⟩
theorem zgi_RX11_51_21 : zGI RX11 51 21 1 := ⟨by decide, 3, _, _, _, Or.inr zfd_RX11_51_3, fun _ _ => ⟨_, rfl, rfl⟩⟩
theorem zpi_RX11_51_21 : zPI RX11 51 21 1 .int := ⟨by decide, 3, _, _, _, _, Or.inr zfd_RX11_51_3, zft_3, rfl, rfl, fun _ _ _ => ⟨_, rfl, Nat.le_of_ble_eq_true rfl, rfl⟩⟩
theorem zgi_RX11_80_1 : zGI RX11 80 1 6 := ⟨by decide, 2, _, _, _, Or.inr zfd_RX11_80_2, fun _ _ => ⟨_, rfl, rfl⟩⟩
theorem zpi_RX11_80_1 : zPI RX11 80 1 6 .int := ⟨by decide, 2, _, _, _, _, Or.inr zfd_RX11_80_2, zft_2, rfl, rfl, fun _ _ _ => ⟨_, rfl, Nat.le_of_ble_eq_true rfl, rfl⟩⟩
theorem zgi_RX11_80_7 : zGI RX11 80 7 6 := ⟨by decide, 2, _, _, _, Or.inr zfd_RX11_80_2, fun _ _ => ⟨_, rfl, rfl⟩⟩
theorem zpi_RX11_80_7 : zPI RX11 80 7 6 .int := ⟨by decide, 2, _, _, _, _, Or.inr zfd_RX11_80_2, zft_2, rfl, rfl, fun _ _ _ => ⟨_, rfl, Nat.le_of_ble_eq_true rfl, rfl⟩⟩
theorem zgi_RX11_80_13 : zGI RX11 80 13 6 := ⟨by decide, 2, _, _, _, Or.inr zfd_RX11_80_2, fun _ _ => ⟨_, rfl, rfl⟩⟩
theorem zpi_RX11_80_13 : zPI RX11 80 13 6 .int := ⟨by decide, 2, _, _, _, _, Or.inr zfd_RX11_80_2, zft_2, rfl, rfl, fun _ _ _ => ⟨_, rfl, Nat.le_of_ble_eq_true rfl, rfl⟩⟩
theorem zgr_RX11_156_1 : zGR RX11 156 1 5 := ⟨by decide, 2, 5, _, _, _, Or.inr zfd_RX11_156_2, fun _ _ => ⟨_, rfl, rfl⟩⟩
theorem zgr_RX11_156_7 : zGR RX11 156 7 11 := ⟨by decide, 2, 5, _, _, _, Or.inr zfd_RX11_156_2, fun _ _ => ⟨_, rfl, rfl⟩⟩
theorem zgr_RX11_156_13 : zGR RX11 156 13 17 := ⟨by decide, 2, 5, _, _, _, Or.inr zfd_RX11_156_2, fun _ _ => ⟨_, rfl, rfl⟩⟩
theorem zgi_RX11_210_0 : zGI RX11 210 0 7 := ⟨by decide, 11, _, _, _, Or.inl zfd_RX11_210_11, fun _ _ => ⟨_, rfl, rfl⟩⟩
theorem zpi_RX11_210_0 : zPI RX11 210 0 7 .int := ⟨by decide, 11, _, _, _, _, Or.inl zfd_RX11_210_11, zft_11, rfl, rfl, fun _ _ _ => ⟨_, rfl, Nat.le_of_ble_eq_true rfl, rfl⟩⟩
theorem zgi_RX11_223_0 : zGI RX11 223 0 3 := ⟨by decide, 11, _, _, _, Or.inl zfd_RX11_223_11, fun _ _ => ⟨_, rfl, rfl⟩⟩
theorem zpi_RX11_223_0 : zPI RX11 223 0 3 .boolean := ⟨by decide, 11, _, _, _, _, Or.inl zfd_RX11_223_11, zft_11, rfl, rfl, fun _ _ _ => ⟨_, rfl, Nat.le_of_ble_eq_true rfl, rfl⟩⟩
theorem zgi_RX11_227_1 : zGI RX11 227 1 4 := ⟨by decide, 2, _, _, _, Or.inr zfd_RX11_227_2, fun _ _ => ⟨_, rfl, rfl⟩⟩
theorem zpi_RX11_227_1 : zPI RX11 227 1 4 .int := ⟨by decide, 2, _, _, _, _, Or.inr zfd_RX11_227_2, zft_2, rfl, rfl, fun _ _ _ => ⟨_, rfl, Nat.le_of_ble_eq_true rfl, rfl⟩⟩
theorem zgi_RX11_227_7 : zGI RX11 227 7 4 := ⟨by decide, 2, _, _, _, Or.inr zfd_RX11_227_2, fun _ _ => ⟨_, rfl, rfl⟩⟩
theorem zpi_RX11_227_7 : zPI RX11 227 7 4 .int := ⟨by decide, 2, _, _, _, _, Or.inr zfd_RX11_227_2, zft_2, rfl, rfl, fun _ _ _ => ⟨_, rfl, Nat.le_of_ble_eq_true rfl, rfl⟩⟩
theorem zgi_RX11_227_13 : zGI RX11 227 13 4 := ⟨by decide, 2, _, _, _, Or.inr zfd_RX11_227_2, fun _ _ => ⟨_, rfl, rfl⟩⟩
theorem zpi_RX11_227_13 : zPI RX11 227 13 4 .int := ⟨by decide, 2, _, _, _, _, Or.inr zfd_RX11_227_2, zft_2, rfl, rfl, fun _ _ _ => ⟨_, rfl, Nat.le_of_ble_eq_true rfl, rfl⟩⟩
theorem zgi_RX11_230_1 : zGI RX11 230 1 1 := ⟨by decide, 2, _, _, _, Or.inr zfd_RX11_230_2, fun _ _ => ⟨_, rfl, rfl⟩⟩
theorem zpi_RX11_230_1 : zPI RX11 230 1 1 .int := ⟨by decide, 2, _, _, _, _, Or.inr zfd_RX11_230_2, zft_2, rfl, rfl, fun _ _ _ => ⟨_, rfl, Nat.le_of_ble_eq_true rfl, rfl⟩⟩
theorem zgi_RX11_230_7 : zGI RX11 230 7 1 := ⟨by decide, 2, _, _, _, Or.inr zfd_RX11_230_2, fun _ _ => ⟨_, rfl, rfl⟩⟩
theorem zpi_RX11_230_7 : zPI RX11 230 7 1 .int := ⟨by decide, 2, _, _, _, _, Or.inr zfd_RX11_230_2, zft_2, rfl, rfl, fun _ _ _ => ⟨_, rfl, Nat.le_of_ble_eq_true rfl, rfl⟩⟩
theorem zgi_RX11_230_13 : zGI RX11 230 13 1 := ⟨by decide, 2, _, _, _, Or.inr zfd_RX11_230_2, fun _ _ => ⟨_, rfl, rfl⟩⟩
theorem zpi_RX11_230_13 : zPI RX11 230 13 1 .int := ⟨by decide, 2, _, _, _, _, Or.inr zfd_RX11_230_2, zft_2, rfl, rfl, fun _ _ _ => ⟨_, rfl, Nat.le_of_ble_eq_true rfl, rfl⟩⟩
theorem zgi_RX11_233_5 : zGI RX11 233 5 1 := ⟨by decide, 7, _, _, _, Or.inr zfd_RX11_233_7, fun _ _ => ⟨_, rfl, rfl⟩⟩
theorem zpi_RX11_233_5 : zPI RX11 233 5 1 .int := ⟨by decide, 7, _, _, _, _, Or.inr zfd_RX11_233_7, zft_7, rfl, rfl, fun _ _ _ => ⟨_, rfl, Nat.le_of_ble_eq_true rfl, rfl⟩⟩
theorem zgi_RX11_233_11 : zGI RX11 233 11 1 := ⟨by decide, 7, _, _, _, Or.inr zfd_RX11_233_7, fun _ _ => ⟨_, rfl, rfl⟩⟩
theorem zpi_RX11_233_11 : zPI RX11 233 11 1 .int := ⟨by decide, 7, _, _, _, _, Or.inr zfd_RX11_233_7, zft_7, rfl, rfl, fun _ _ _ => ⟨_, rfl, Nat.le_of_ble_eq_true rfl, rfl⟩⟩
theorem zgi_RX11_233_17 : zGI RX11 233 17 1 := ⟨by decide, 7, _, _, _, Or.inr zfd_RX11_233_7, fun _ _ => ⟨_, rfl, rfl⟩⟩
theorem zpi_RX11_233_17 : zPI RX11 233 17 1 .int := ⟨by decide, 7, _, _, _, _, Or.inr zfd_RX11_233_7, zft_7, rfl, rfl, fun _ _ _ => ⟨_, rfl, Nat.le_of_ble_eq_true rfl, rfl⟩⟩
theorem zgr_RX0_9_19 : zGR RX0 9 19 20 := ⟨by decide, 0, 0, _, _, _, Or.inl zfd_RX0_9_0, fun _ _ => ⟨_, rfl, rfl⟩⟩
theorem zgr_RX2_11_1 : zGR RX2 11 1 2 := ⟨by decide, 2, 0, _, _, _, Or.inl zfd_RX2_11_2, fun _ _ => ⟨_, rfl, rfl⟩⟩
theorem zgr_RX2_11_7 : zGR RX2 11 7 8 := ⟨by decide, 2, 0, _, _, _, Or.inl zfd_RX2_11_2, fun _ _ => ⟨_, rfl, rfl⟩⟩
theorem zgr_RX2_11_13 : zGR RX2 11 13 14 := ⟨by decide, 2, 0, _, _, _, Or.inl zfd_RX2_11_2, fun _ _ => ⟨_, rfl, rfl⟩⟩
theorem zgr_RX2_17_1 : zGR RX2 17 1 3 := ⟨by decide, 2, 2, _, _, _, Or.inl zfd_RX2_17_2, fun _ _ => ⟨_, rfl, rfl⟩⟩
theorem zgr_RX2_17_7 : zGR RX2 17 7 9 := ⟨by decide, 2, 2, _, _, _, Or.inl zfd_RX2_17_2, fun _ _ => ⟨_, rfl, rfl⟩⟩
theorem zgr_RX2_17_13 : zGR RX2 17 13 15 := ⟨by decide, 2, 2, _, _, _, Or.inl zfd_RX2_17_2, fun _ _ => ⟨_, rfl, rfl⟩⟩
theorem zgr_RX2_21_1 : zGR RX2 21 1 4 := ⟨by decide, 2, 3, _, _, _, Or.inl zfd_RX2_21_2, fun _ _ => ⟨_, rfl, rfl⟩⟩
theorem zgr_RX2_21_7 : zGR RX2 21 7 10 := ⟨by decide, 2, 3, _, _, _, Or.inl zfd_RX2_21_2, fun _ _ => ⟨_, rfl, rfl⟩⟩
theorem zgr_RX2_21_13 : zGR RX2 21 13 16 := ⟨by decide, 2, 3, _, _, _, Or.inl zfd_RX2_21_2, fun _ _ => ⟨_, rfl, rfl⟩⟩
theorem zgr_RX2_27_1 : zGR RX2 27 1 5 := ⟨by decide, 2, 5, _, _, _, Or.inl zfd_RX2_27_2, fun _ _ => ⟨_, rfl, rfl⟩⟩
theorem zgr_RX2_27_7 : zGR RX2 27 7 11 := ⟨by decide, 2, 5, _, _, _, Or.inl zfd_RX2_27_2, fun _ _ => ⟨_, rfl, rfl⟩⟩
theorem zgr_RX2_27_13 : zGR RX2 27 13 17 := ⟨by decide, 2, 5, _, _, _, Or.inl zfd_RX2_27_2, fun _ _ => ⟨_, rfl, rfl⟩⟩
theorem zgi_RX2_31_1 : zGI RX2 31 1 1 := ⟨by decide, 2, _, _, _, Or.inl zfd_RX2_31_2, fun _ _ => ⟨_, rfl, rfl⟩⟩
theorem zpi_RX2_31_1 : zPI RX2 31 1 1 .int := ⟨by decide, 2, _, _, _, _, Or.inl zfd_RX2_31_2, zft_2, rfl, rfl, fun _ _ _ => ⟨_, rfl, Nat.le_of_ble_eq_true rfl, rfl⟩⟩
theorem zgi_RX2_31_7 : zGI RX2 31 7 1 := ⟨by decide, 2, _, _, _, Or.inl zfd_RX2_31_2, fun _ _ => ⟨_, rfl, rfl⟩⟩
theorem zpi_RX2_31_7 : zPI RX2 31 7 1 .int := ⟨by decide, 2, _, _, _, _, Or.inl zfd_RX2_31_2, zft_2, rfl, rfl, fun _ _ _ => ⟨_, rfl, Nat.le_of_ble_eq_true rfl, rfl⟩⟩
theorem zgi_RX2_31_13 : zGI RX2 31 13 1 := ⟨by decide, 2, _, _, _, Or.inl zfd_RX2_31_2, fun _ _ => ⟨_, rfl, rfl⟩⟩
theorem zpi_RX2_31_13 : zPI RX2 31 13 1 .int := ⟨by decide, 2, _, _, _, _, Or.inl zfd_RX2_31_2, zft_2, rfl, rfl, fun _ _ _ => ⟨_, rfl, Nat.le_of_ble_eq_true rfl, rfl⟩⟩
theorem zgi_RX2_39_1 : zGI RX2 39 1 4 := ⟨by decide, 2, _, _, _, Or.inl zfd_RX2_39_2, fun _ _ => ⟨_, rfl, rfl⟩⟩
theorem zpi_RX2_39_1 : zPI RX2 39 1 4 .int := ⟨by decide, 2, _, _, _, _, Or.inl zfd_RX2_39_2, zft_2, rfl, rfl, fun _ _ _ => ⟨_, rfl, Nat.le_of_ble_eq_true rfl, rfl⟩⟩
theorem zgi_RX2_39_7 : zGI RX2 39 7 4 := ⟨by decide, 2, _, _, _, Or.inl zfd_RX2_39_2, fun _ _ => ⟨_, rfl, rfl⟩⟩
theorem zpi_RX2_39_7 : zPI RX2 39 7 4 .int := ⟨by decide, 2, _, _, _, _, Or.inl zfd_RX2_39_2, zft_2, rfl, rfl, fun _ _ _ => ⟨_, rfl, Nat.le_of_ble_eq_true rfl, rfl⟩⟩
theorem zgi_RX2_39_13 : zGI RX2 39 13 4 := ⟨by decide, 2, _, _, _, Or.inl zfd_RX2_39_2, fun _ _ => ⟨_, rfl, rfl⟩⟩
theorem zpi_RX2_39_13 : zPI RX2 39 13 4 .int := ⟨by decide, 2, _, _, _, _, Or.inl zfd_RX2_39_2, zft_2, rfl, rfl, fun _ _ _ => ⟨_, rfl, Nat.le_of_ble_eq_true rfl, rfl⟩⟩
theorem zgi_RX2_53_1 : zGI RX2 53 1 6 := ⟨by decide, 2, _, _, _, Or.inl zfd_RX2_53_2, fun _ _ => ⟨_, rfl, rfl⟩⟩
theorem zpi_RX2_53_1 : zPI RX2 53 1 6 .int := ⟨by decide, 2, _, _, _, _, Or.inl zfd_RX2_53_2, zft_2, rfl, rfl, fun _ _ _ => ⟨_, rfl, Nat.le_of_ble_eq_true rfl, rfl⟩⟩
theorem zgi_RX2_53_7 : zGI RX2 53 7 6 := ⟨by decide, 2, _, _, _, Or.inl zfd_RX2_53_2, fun _ _ => ⟨_, rfl, rfl⟩⟩
theorem zpi_RX2_53_7 : zPI RX2 53 7 6 .int := ⟨by decide, 2, _, _, _, _, Or.inl zfd_RX2_53_2, zft_2, rfl, rfl, fun _ _ _ => ⟨_, rfl, Nat.le_of_ble_eq_true rfl, rfl⟩⟩
theorem zgi_RX2_53_13 : zGI RX2 53 13 6 := ⟨by decide, 2, _, _, _, Or.inl zfd_RX2_53_2, fun _ _ => ⟨_, rfl, rfl⟩⟩
theorem zpi_RX2_53_13 : zPI RX2 53 13 6 .int := ⟨by decide, 2, _, _, _, _, Or.inl zfd_RX2_53_2, zft_2, rfl, rfl, fun _ _ _ => ⟨_, rfl, Nat.le_of_ble_eq_true rfl, rfl⟩⟩
theorem zgr_RX3_9_21 : zGR RX3 9 21 22 := ⟨by decide, 3, 0, _, _, _, Or.inl zfd_RX3_9_3, fun _ _ => ⟨_, rfl, rfl⟩⟩
theorem zgi_RX3_15_21 : zGI RX3 15 21 1 := ⟨by decide, 3, _, _, _, Or.inl zfd_RX3_15_3, fun _ _ => ⟨_, rfl, rfl⟩⟩
theorem zpi_RX3_15_21 : zPI RX3 15 21 1 .int := ⟨by decide, 3, _, _, _, _, Or.inl zfd_RX3_15_3, zft_3, rfl, rfl, fun _ _ _ => ⟨_, rfl, Nat.le_of_ble_eq_true rfl, rfl⟩⟩
theorem zgr_RX3_52_1 : zGR RX3 52 1 5 := ⟨by decide, 2, 5, _, _, _, Or.inr zfd_RX3_52_2, fun _ _ => ⟨_, rfl, rfl⟩⟩
theorem zgr_RX3_52_7 : zGR RX3 52 7 11 := ⟨by decide, 2, 5, _, _, _, Or.inr zfd_RX3_52_2, fun _ _ => ⟨_, rfl, rfl⟩⟩
theorem zgr_RX3_52_13 : zGR RX3 52 13 17 := ⟨by decide, 2, 5, _, _, _, Or.inr zfd_RX3_52_2, fun _ _ => ⟨_, rfl, rfl⟩⟩
theorem zgi_RX3_65_1 : zGI RX3 65 1 6 := ⟨by decide, 2, _, _, _, Or.inr zfd_RX3_65_2, fun _ _ => ⟨_, rfl, rfl⟩⟩
theorem zpi_RX3_65_1 : zPI RX3 65 1 6 .int := ⟨by decide, 2, _, _, _, _, Or.inr zfd_RX3_65_2, zft_2, rfl, rfl, fun _ _ _ => ⟨_, rfl, Nat.le_of_ble_eq_true rfl, rfl⟩⟩
theorem zgi_RX3_65_7 : zGI RX3 65 7 6 := ⟨by decide, 2, _, _, _, Or.inr zfd_RX3_65_2, fun _ _ => ⟨_, rfl, rfl⟩⟩
theorem zpi_RX3_65_7 : zPI RX3 65 7 6 .int := ⟨by decide, 2, _, _, _, _, Or.inr zfd_RX3_65_2, zft_2, rfl, rfl, fun _ _ _ => ⟨_, rfl, Nat.le_of_ble_eq_true rfl, rfl⟩⟩
theorem zgi_RX3_65_13 : zGI RX3 65 13 6 := ⟨by decide, 2, _, _, _, Or.inr zfd_RX3_65_2, fun _ _ => ⟨_, rfl, rfl⟩⟩
theorem zpi_RX3_65_13 : zPI RX3 65 13 6 .int := ⟨by decide, 2, _, _, _, _, Or.inr zfd_RX3_65_2, zft_2, rfl, rfl, fun _ _ _ => ⟨_, rfl, Nat.le_of_ble_eq_true rfl, rfl⟩⟩
theorem zgr_RX7_11_5 : zGR RX7 11 5 6 := ⟨by decide, 7, 0, _, _, _, Or.inl zfd_RX7_11_7, fun _ _ => ⟨_, rfl, rfl⟩⟩
theorem zgr_RX7_11_11 : zGR RX7 11 11 12 := ⟨by decide, 7, 0, _, _, _, Or.inl zfd_RX7_11_7, fun _ _ => ⟨_, rfl, rfl⟩⟩
theorem zgr_RX7_11_17 : zGR RX7 11 17 18 := ⟨by decide, 7, 0, _, _, _, Or.inl zfd_RX7_11_7, fun _ _ => ⟨_, rfl, rfl⟩⟩
theorem zgi_RX7_17_5 : zGI RX7 17 5 1 := ⟨by decide, 7, _, _, _, Or.inl zfd_RX7_17_7, fun _ _ => ⟨_, rfl, rfl⟩⟩
theorem zpi_RX7_17_5 : zPI RX7 17 5 1 .int := ⟨by decide, 7, _, _, _, _, Or.inl zfd_RX7_17_7, zft_7, rfl, rfl, fun _ _ _ => ⟨_, rfl, Nat.le_of_ble_eq_true rfl, rfl⟩⟩
theorem zgi_RX7_17_11 : zGI RX7 17 11 1 := ⟨by decide, 7, _, _, _, Or.inl zfd_RX7_17_7, fun _ _ => ⟨_, rfl, rfl⟩⟩
theorem zpi_RX7_17_11 : zPI RX7 17 11 1 .int := ⟨by decide, 7, _, _, _, _, Or.inl zfd_RX7_17_7, zft_7, rfl, rfl, fun _ _ _ => ⟨_, rfl, Nat.le_of_ble_eq_true rfl, rfl⟩⟩
theorem zgi_RX7_17_17 : zGI RX7 17 17 1 := ⟨by decide, 7, _, _, _, Or.inl zfd_RX7_17_7, fun _ _ => ⟨_, rfl, rfl⟩⟩
theorem zpi_RX7_17_17 : zPI RX7 17 17 1 .int := ⟨by decide, 7, _, _, _, _, Or.inl zfd_RX7_17_7, zft_7, rfl, rfl, fun _ _ _ => ⟨_, rfl, Nat.le_of_ble_eq_true rfl, rfl⟩⟩
theorem zgr_RX12_7_25 : zGR RX12 7 25 26 := ⟨by decide, 12, 0, _, _, _, Or.inl zfd_RX12_7_12, fun _ _ => ⟨_, rfl, rfl⟩⟩
theorem zgr_RX12_13_25 : zGR RX12 13 25 27 := ⟨by decide, 12, 1, _, _, _, Or.inl zfd_RX12_13_12, fun _ _ => ⟨_, rfl, rfl⟩⟩
theorem zgr_RX12_16_25 : zGR RX12 16 25 28 := ⟨by decide, 12, 2, _, _, _, Or.inl zfd_RX12_16_12, fun _ _ => ⟨_, rfl, rfl⟩⟩
theorem zgr_RX12_19_25 : zGR RX12 19 25 29 := ⟨by decide, 12, 3, _, _, _, Or.inl zfd_RX12_19_12, fun _ _ => ⟨_, rfl, rfl⟩⟩
theorem zgr_RX12_22_25 : zGR RX12 22 25 30 := ⟨by decide, 12, 4, _, _, _, Or.inl zfd_RX12_22_12, fun _ _ => ⟨_, rfl, rfl⟩⟩
theorem zgr_RX12_25_25 : zGR RX12 25 25 31 := ⟨by decide, 12, 5, _, _, _, Or.inl zfd_RX12_25_12, fun _ _ => ⟨_, rfl, rfl⟩⟩
theorem zgr_RX12_28_25 : zGR RX12 28 25 32 := ⟨by decide, 12, 6, _, _, _, Or.inl zfd_RX12_28_12, fun _ _ => ⟨_, rfl, rfl⟩⟩
theorem zgr_RX12_31_25 : zGR RX12 31 25 33 := ⟨by decide, 12, 7, _, _, _, Or.inl zfd_RX12_31_12, fun _ _ => ⟨_, rfl, rfl⟩⟩
theorem zgr_RX12_34_25 : zGR RX12 34 25 34 := ⟨by decide, 12, 8, _, _, _, Or.inl zfd_RX12_34_12, fun _ _ => ⟨_, rfl, rfl⟩⟩
theorem zgr_RX12_37_25 : zGR RX12 37 25 35 := ⟨by decide, 12, 9, _, _, _, Or.inl zfd_RX12_37_12, fun _ _ => ⟨_, rfl, rfl⟩⟩
theorem zgr_RX12_40_25 : zGR RX12 40 25 36 := ⟨by decide, 12, 10, _, _, _, Or.inl zfd_RX12_40_12, fun _ _ => ⟨_, rfl, rfl⟩⟩
theorem zgr_RX12_43_25 : zGR RX12 43 25 37 := ⟨by decide, 12, 11, _, _, _, Or.inl zfd_RX12_43_12, fun _ _ => ⟨_, rfl, rfl⟩⟩
theorem zgr_RX12_46_25 : zGR RX12 46 25 38 := ⟨by decide, 12, 16, _, _, _, Or.inl zfd_RX12_46_12, fun _ _ => ⟨_, rfl, rfl⟩⟩
theorem zgr_RX12_49_25 : zGR RX12 49 25 39 := ⟨by decide, 12, 17, _, _, _, Or.inl zfd_RX12_49_12, fun _ _ => ⟨_, rfl, rfl⟩⟩
theorem zgr_RX12_52_25 : zGR RX12 52 25 40 := ⟨by decide, 12, 18, _, _, _, Or.inl zfd_RX12_52_12, fun _ _ => ⟨_, rfl, rfl⟩⟩
theorem zgr_RX12_55_25 : zGR RX12 55 25 41 := ⟨by decide, 12, 19, _, _, _, Or.inl zfd_RX12_55_12, fun _ _ => ⟨_, rfl, rfl⟩⟩
theorem zgr_RX12_58_25 : zGR RX12 58 25 42 := ⟨by decide, 12, 23, _, _, _, Or.inl zfd_RX12_58_12, fun _ _ => ⟨_, rfl, rfl⟩⟩
theorem zgr_RX12_61_25 : zGR RX12 61 25 43 := ⟨by decide, 12, 27, _, _, _, Or.inl zfd_RX12_61_12, fun _ _ => ⟨_, rfl, rfl⟩⟩
theorem zgr_RX12_64_25 : zGR RX12 64 25 44 := ⟨by decide, 12, 28, _, _, _, Or.inl zfd_RX12_64_12, fun _ _ => ⟨_, rfl, rfl⟩⟩
theorem zgr_RX12_67_25 : zGR RX12 67 25 45 := ⟨by decide, 12, 31, _, _, _, Or.inl zfd_RX12_67_12, fun _ _ => ⟨_, rfl, rfl⟩⟩
theorem zgr_RX12_70_25 : zGR RX12 70 25 46 := ⟨by decide, 12, 33, _, _, _, Or.inl zfd_RX12_70_12, fun _ _ => ⟨_, rfl, rfl⟩⟩
theorem zgr_RX12_73_25 : zGR RX12 73 25 47 := ⟨by decide, 12, 34, _, _, _, Or.inl zfd_RX12_73_12, fun _ _ => ⟨_, rfl, rfl⟩⟩
theorem zgi_RX12_81_25 : zGI RX12 81 25 20 := ⟨by decide, 12, _, _, _, Or.inl zfd_RX12_81_12, fun _ _ => ⟨_, rfl, rfl⟩⟩
theorem zpi_RX12_81_25 : zPI RX12 81 25 20 .int := ⟨by decide, 12, _, _, _, _, Or.inl zfd_RX12_81_12, zft_12, rfl, rfl, fun _ _ _ => ⟨_, rfl, Nat.le_of_ble_eq_true rfl, rfl⟩⟩
theorem zgi_RX12_89_25 : zGI RX12 89 25 21 := ⟨by decide, 12, _, _, _, Or.inl zfd_RX12_89_12, fun _ _ => ⟨_, rfl, rfl⟩⟩
theorem zpi_RX12_89_25 : zPI RX12 89 25 21 .int := ⟨by decide, 12, _, _, _, _, Or.inl zfd_RX12_89_12, zft_12, rfl, rfl, fun _ _ _ => ⟨_, rfl, Nat.le_of_ble_eq_true rfl, rfl⟩⟩
theorem zgi_RX12_107_25 : zGI RX12 107 25 22 := ⟨by decide, 12, _, _, _, Or.inl zfd_RX12_107_12, fun _ _ => ⟨_, rfl, rfl⟩⟩
theorem zpi_RX12_107_25 : zPI RX12 107 25 22 .int := ⟨by decide, 12, _, _, _, _, Or.inl zfd_RX12_107_12, zft_12, rfl, rfl, fun _ _ _ => ⟨_, rfl, Nat.le_of_ble_eq_true rfl, rfl⟩⟩
theorem zgi_RX12_114_25 : zGI RX12 114 25 12 := ⟨by decide, 12, _, _, _, Or.inl zfd_RX12_114_12, fun _ _ => ⟨_, rfl, rfl⟩⟩
theorem zpi_RX12_114_25 : zPI RX12 114 25 12 .int := ⟨by decide, 12, _, _, _, _, Or.inl zfd_RX12_114_12, zft_12, rfl, rfl, fun _ _ _ => ⟨_, rfl, Nat.le_of_ble_eq_true rfl, rfl⟩⟩
theorem zgi_RX12_117_25 : zGI RX12 117 25 13 := ⟨by decide, 12, _, _, _, Or.inl zfd_RX12_117_12, fun _ _ => ⟨_, rfl, rfl⟩⟩
theorem zpi_RX12_117_25 : zPI RX12 117 25 13 .int := ⟨by decide, 12, _, _, _, _, Or.inl zfd_RX12_117_12, zft_12, rfl, rfl, fun _ _ _ => ⟨_, rfl, Nat.le_of_ble_eq_true rfl, rfl⟩⟩
theorem zgi_RX12_120_25 : zGI RX12 120 25 14 := ⟨by decide, 12, _, _, _, Or.inl zfd_RX12_120_12, fun _ _ => ⟨_, rfl, rfl⟩⟩
theorem zpi_RX12_120_25 : zPI RX12 120 25 14 .int := ⟨by decide, 12, _, _, _, _, Or.inl zfd_RX12_120_12, zft_12, rfl, rfl, fun _ _ _ => ⟨_, rfl, Nat.le_of_ble_eq_true rfl, rfl⟩⟩
theorem zgi_RX12_129_25 : zGI RX12 129 25 15 := ⟨by decide, 12, _, _, _, Or.inl zfd_RX12_129_12, fun _ _ => ⟨_, rfl, rfl⟩⟩
theorem zpi_RX12_129_25 : zPI RX12 129 25 15 .int := ⟨by decide, 12, _, _, _, _, Or.inl zfd_RX12_129_12, zft_12, rfl, rfl, fun _ _ _ => ⟨_, rfl, Nat.le_of_ble_eq_true rfl, rfl⟩⟩
theorem zgi_RX12_143_25 : zGI RX12 143 25 25 := ⟨by decide, 12, _, _, _, Or.inl zfd_RX12_143_12, fun _ _ => ⟨_, rfl, rfl⟩⟩
theorem zpi_RX12_143_25 : zPI RX12 143 25 25 .boolean := ⟨by decide, 12, _, _, _, _, Or.inl zfd_RX12_143_12, zft_12, rfl, rfl, fun _ _ _ => ⟨_, rfl, Nat.le_of_ble_eq_true rfl, rfl⟩⟩
theorem zgi_RX12_147_25 : zGI RX12 147 25 26 := ⟨by decide, 12, _, _, _, Or.inl zfd_RX12_147_12, fun _ _ => ⟨_, rfl, rfl⟩⟩
theorem zpi_RX12_147_25 : zPI RX12 147 25 26 .int := ⟨by decide, 12, _, _, _, _, Or.inl zfd_RX12_147_12, zft_12, rfl, rfl, fun _ _ _ => ⟨_, rfl, Nat.le_of_ble_eq_true rfl, rfl⟩⟩
theorem zgi_RX12_157_25 : zGI RX12 157 25 24 := ⟨by decide, 12, _, _, _, Or.inl zfd_RX12_157_12, fun _ _ => ⟨_, rfl, rfl⟩⟩
theorem zpi_RX12_157_25 : zPI RX12 157 25 24 .boolean := ⟨by decide, 12, _, _, _, _, Or.inl zfd_RX12_157_12, zft_12, rfl, rfl, fun _ _ _ => ⟨_, rfl, Nat.le_of_ble_eq_true rfl, rfl⟩⟩
theorem zgi_RX12_175_25 : zGI RX12 175 25 29 := ⟨by decide, 12, _, _, _, Or.inl zfd_RX12_175_12, fun _ _ => ⟨_, rfl, rfl⟩⟩
theorem zpi_RX12_175_25 : zPI RX12 175 25 29 .int := ⟨by decide, 12, _, _, _, _, Or.inl zfd_RX12_175_12, zft_12, rfl, rfl, fun _ _ _ => ⟨_, rfl, Nat.le_of_ble_eq_true rfl, rfl⟩⟩
theorem zgi_RX12_178_25 : zGI RX12 178 25 30 := ⟨by decide, 12, _, _, _, Or.inl zfd_RX12_178_12, fun _ _ => ⟨_, rfl, rfl⟩⟩
theorem zpi_RX12_178_25 : zPI RX12 178 25 30 .int := ⟨by decide, 12, _, _, _, _, Or.inl zfd_RX12_178_12, zft_12, rfl, rfl, fun _ _ _ => ⟨_, rfl, Nat.le_of_ble_eq_true rfl, rfl⟩⟩
theorem zgi_RX12_216_25 : zGI RX12 216 25 32 := ⟨by decide, 12, _, _, _, Or.inl zfd_RX12_216_12, fun _ _ => ⟨_, rfl, rfl⟩⟩
theorem zpi_RX12_216_25 : zPI RX12 216 25 32 .int := ⟨by decide, 12, _, _, _, _, Or.inl zfd_RX12_216_12, zft_12, rfl, rfl, fun _ _ _ => ⟨_, rfl, Nat.le_of_ble_eq_true rfl, rfl⟩⟩
theorem zgi_RX12_234_25 : zGI RX12 234 25 35 := ⟨by decide, 12, _, _, _, Or.inl zfd_RX12_234_12, fun _ _ => ⟨_, rfl, rfl⟩⟩
theorem zpi_RX12_234_25 : zPI RX12 234 25 35 .int := ⟨by decide, 12, _, _, _, _, Or.inl zfd_RX12_234_12, zft_12, rfl, rfl, fun _ _ _ => ⟨_, rfl, Nat.le_of_ble_eq_true rfl, rfl⟩⟩
theorem zgi_RX12_237_25 : zGI RX12 237 25 36 := ⟨by decide, 12, _, _, _, Or.inl zfd_RX12_237_12, fun _ _ => ⟨_, rfl, rfl⟩⟩
theorem zpi_RX12_237_25 : zPI RX12 237 25 36 .int := ⟨by decide, 12, _, _, _, _, Or.inl zfd_RX12_237_12, zft_12, rfl, rfl, fun _ _ _ => ⟨_, rfl, Nat.le_of_ble_eq_true rfl, rfl⟩⟩
end
section
abbrev cB (b : Nat) : Prop := b = 1 ∨ b = 7 ∨ b = 13
abbrev cR (q : Nat) : Prop := q = 5 ∨ q = 11 ∨ q = 17
theorem cB_R {b : Nat} (h : cB b) : cR (b + 4) := by rcases h with rfl | rfl | rfl <;> decide
theorem zob_b {b : Nat} (h : cB b) : zOb b RX2 := by rcases h with rfl | rfl | rfl; exact zob_1; exact zob_7; exact zob_13
theorem zob_q {b : Nat} (h : cR b) : zOb b RX7 := by rcases h with rfl | rfl | rfl; exact zob_5; exact zob_11; exact zob_17
theorem zob_b_0 {b : Nat} (hb : cB b) : zOb (b) RX2 := by rcases hb with rfl | rfl | rfl; exact zob_1; exact zob_7; exact zob_13
theorem zgi_RX11_80_b_0 {b : Nat} (hb : cB b) : zGI RX11 80 (b) 6 := by rcases hb with rfl | rfl | rfl; exact zgi_RX11_80_1; exact zgi_RX11_80_7; exact zgi_RX11_80_13
theorem zpi_RX11_80_b_0 {b : Nat} (hb : cB b) : zPI RX11 80 (b) 6 .int := by rcases hb with rfl | rfl | rfl; exact zpi_RX11_80_1; exact zpi_RX11_80_7; exact zpi_RX11_80_13
theorem zgr_RX11_156_b_0 {b : Nat} (hb : cB b) : zGR RX11 156 (b) (b + 4) := by rcases hb with rfl | rfl | rfl; exact zgr_RX11_156_1; exact zgr_RX11_156_7; exact zgr_RX11_156_13
theorem zgi_RX11_227_b_0 {b : Nat} (hb : cB b) : zGI RX11 227 (b) 4 := by rcases hb with rfl | rfl | rfl; exact zgi_RX11_227_1; exact zgi_RX11_227_7; exact zgi_RX11_227_13
theorem zpi_RX11_227_b_0 {b : Nat} (hb : cB b) : zPI RX11 227 (b) 4 .int := by rcases hb with rfl | rfl | rfl; exact zpi_RX11_227_1; exact zpi_RX11_227_7; exact zpi_RX11_227_13
theorem zgi_RX11_230_b_0 {b : Nat} (hb : cB b) : zGI RX11 230 (b) 1 := by rcases hb with rfl | rfl | rfl; exact zgi_RX11_230_1; exact zgi_RX11_230_7; exact zgi_RX11_230_13
theorem zpi_RX11_230_b_0 {b : Nat} (hb : cB b) : zPI RX11 230 (b) 1 .int := by rcases hb with rfl | rfl | rfl; exact zpi_RX11_230_1; exact zpi_RX11_230_7; exact zpi_RX11_230_13
theorem zgr_RX2_11_b_0 {b : Nat} (hb : cB b) : zGR RX2 11 (b) (b + 1) := by rcases hb with rfl | rfl | rfl; exact zgr_RX2_11_1; exact zgr_RX2_11_7; exact zgr_RX2_11_13
theorem zgr_RX2_17_b_0 {b : Nat} (hb : cB b) : zGR RX2 17 (b) (b + 2) := by rcases hb with rfl | rfl | rfl; exact zgr_RX2_17_1; exact zgr_RX2_17_7; exact zgr_RX2_17_13
theorem zgr_RX2_21_b_0 {b : Nat} (hb : cB b) : zGR RX2 21 (b) (b + 3) := by rcases hb with rfl | rfl | rfl; exact zgr_RX2_21_1; exact zgr_RX2_21_7; exact zgr_RX2_21_13
theorem zgr_RX2_27_b_0 {b : Nat} (hb : cB b) : zGR RX2 27 (b) (b + 4) := by rcases hb with rfl | rfl | rfl; exact zgr_RX2_27_1; exact zgr_RX2_27_7; exact zgr_RX2_27_13
theorem zgi_RX2_31_b_0 {b : Nat} (hb : cB b) : zGI RX2 31 (b) 1 := by rcases hb with rfl | rfl | rfl; exact zgi_RX2_31_1; exact zgi_RX2_31_7; exact zgi_RX2_31_13
theorem zpi_RX2_31_b_0 {b : Nat} (hb : cB b) : zPI RX2 31 (b) 1 .int := by rcases hb with rfl | rfl | rfl; exact zpi_RX2_31_1; exact zpi_RX2_31_7; exact zpi_RX2_31_13
theorem zgi_RX2_39_b_0 {b : Nat} (hb : cB b) : zGI RX2 39 (b) 4 := by rcases hb with rfl | rfl | rfl; exact zgi_RX2_39_1; exact zgi_RX2_39_7; exact zgi_RX2_39_13
theorem zpi_RX2_39_b_0 {b : Nat} (hb : cB b) : zPI RX2 39 (b) 4 .int := by rcases hb with rfl | rfl | rfl; exact zpi_RX2_39_1; exact zpi_RX2_39_7; exact zpi_RX2_39_13
theorem zgi_RX2_53_b_0 {b : Nat} (hb : cB b) : zGI RX2 53 (b) 6 := by rcases hb with rfl | rfl | rfl; exact zgi_RX2_53_1; exact zgi_RX2_53_7; exact zgi_RX2_53_13
theorem zpi_RX2_53_b_0 {b : Nat} (hb : cB b) : zPI RX2 53 (b) 6 .int := by rcases hb with rfl | rfl | rfl; exact zpi_RX2_53_1; exact zpi_RX2_53_7; exact zpi_RX2_53_13
theorem zgr_RX3_52_b_0 {b : Nat} (hb : cB b) : zGR RX3 52 (b) (b + 4) := by rcases hb with rfl | rfl | rfl; exact zgr_RX3_52_1; exact zgr_RX3_52_7; exact zgr_RX3_52_13
theorem zgi_RX3_65_b_0 {b : Nat} (hb : cB b) : zGI RX3 65 (b) 6 := by rcases hb with rfl | rfl | rfl; exact zgi_RX3_65_1; exact zgi_RX3_65_7; exact zgi_RX3_65_13
theorem zpi_RX3_65_b_0 {b : Nat} (hb : cB b) : zPI RX3 65 (b) 6 .int := by rcases hb with rfl | rfl | rfl; exact zpi_RX3_65_1; exact zpi_RX3_65_7; exact zpi_RX3_65_13
theorem zaq_b_1 {b : Nat} (hb : cB b) : zAq (b + 1) 1 8 RX9 := by rcases hb with rfl | rfl | rfl; exact zaq_2; exact zaq_8; exact zaq_14
theorem zar_b_2 {b : Nat} (hb : cB b) : zAr (b + 2) 49 := by rcases hb with rfl | rfl | rfl; exact zar_3; exact zar_9; exact zar_15
theorem zar_b_3 {b : Nat} (hb : cB b) : zAr (b + 3) 49 := by rcases hb with rfl | rfl | rfl; exact zar_4; exact zar_10; exact zar_16
theorem zob_b_4 {b : Nat} (hb : cB b) : zOb (b + 4) RX7 := by rcases hb with rfl | rfl | rfl; exact zob_5; exact zob_11; exact zob_17
theorem zgi_RX11_233_b_4 {b : Nat} (hb : cB b) : zGI RX11 233 (b + 4) 1 := by rcases hb with rfl | rfl | rfl; exact zgi_RX11_233_5; exact zgi_RX11_233_11; exact zgi_RX11_233_17
theorem zpi_RX11_233_b_4 {b : Nat} (hb : cB b) : zPI RX11 233 (b + 4) 1 .int := by rcases hb with rfl | rfl | rfl; exact zpi_RX11_233_5; exact zpi_RX11_233_11; exact zpi_RX11_233_17
theorem zgr_RX7_11_b_4 {b : Nat} (hb : cB b) : zGR RX7 11 (b + 4) (b + 5) := by rcases hb with rfl | rfl | rfl; exact zgr_RX7_11_5; exact zgr_RX7_11_11; exact zgr_RX7_11_17
theorem zgi_RX7_17_b_4 {b : Nat} (hb : cB b) : zGI RX7 17 (b + 4) 1 := by rcases hb with rfl | rfl | rfl; exact zgi_RX7_17_5; exact zgi_RX7_17_11; exact zgi_RX7_17_17
theorem zpi_RX7_17_b_4 {b : Nat} (hb : cB b) : zPI RX7 17 (b + 4) 1 .int := by rcases hb with rfl | rfl | rfl; exact zpi_RX7_17_5; exact zpi_RX7_17_11; exact zpi_RX7_17_17
theorem zaq_b_5 {b : Nat} (hb : cB b) : zAq (b + 5) 2 6 RX6 := by rcases hb with rfl | rfl | rfl; exact zaq_6; exact zaq_12; exact zaq_18
theorem zob_q_0 {q : Nat} (hq : cR q) : zOb (q) RX7 := by rcases hq with rfl | rfl | rfl; exact zob_5; exact zob_11; exact zob_17
theorem zgi_RX11_233_q_0 {q : Nat} (hq : cR q) : zGI RX11 233 (q) 1 := by rcases hq with rfl | rfl | rfl; exact zgi_RX11_233_5; exact zgi_RX11_233_11; exact zgi_RX11_233_17
theorem zpi_RX11_233_q_0 {q : Nat} (hq : cR q) : zPI RX11 233 (q) 1 .int := by rcases hq with rfl | rfl | rfl; exact zpi_RX11_233_5; exact zpi_RX11_233_11; exact zpi_RX11_233_17
theorem zgr_RX7_11_q_0 {q : Nat} (hq : cR q) : zGR RX7 11 (q) (q + 1) := by rcases hq with rfl | rfl | rfl; exact zgr_RX7_11_5; exact zgr_RX7_11_11; exact zgr_RX7_11_17
theorem zgi_RX7_17_q_0 {q : Nat} (hq : cR q) : zGI RX7 17 (q) 1 := by rcases hq with rfl | rfl | rfl; exact zgi_RX7_17_5; exact zgi_RX7_17_11; exact zgi_RX7_17_17
theorem zpi_RX7_17_q_0 {q : Nat} (hq : cR q) : zPI RX7 17 (q) 1 .int := by rcases hq with rfl | rfl | rfl; exact zpi_RX7_17_5; exact zpi_RX7_17_11; exact zpi_RX7_17_17
theorem zaq_q_1 {q : Nat} (hq : cR q) : zAq (q + 1) 2 6 RX6 := by rcases hq with rfl | rfl | rfl; exact zaq_6; exact zaq_12; exact zaq_18
/-! truth values, bits, sets of places -/
def zb (b : Bool) : Int32 := if b then 1 else 0
theorem narrow_zb (b : Bool) : narrow .boolean (.int (zb b)) = .int (zb b) := by cases b <;> decide
theorem zb_eq0 (b : Bool) : zb b = 0 ↔ b = false := by cases b <;> decide
theorem zb_ne0 (b : Bool) : ¬ zb b = 0 ↔ b = true := by cases b <;> decide
theorem zb_01 (b : Bool) : zb b = 0 ∨ zb b = 1 := by cases b <;> decide
def zbt (L : Int64) (k : Nat) : Bool := L.toBitVec.getLsbD k
theorem zbt_ext {x y : Int64} (h : ∀ i, i < 64 → zbt x i = zbt y i) : x = y := Int64.toBitVec_inj.mp (BitVec.eq_of_getLsbD_eq fun i hi => h i hi)
theorem zbt_big {x : Int64} {i : Nat} (h : 64 ≤ i) : zbt x i = false := BitVec.getLsbD_of_ge _ _ h
theorem zbt_or (x y : Int64) (i : Nat) : zbt (x ||| y) i = (zbt x i || zbt y i) := by unfold zbt; rw [Int64.toBitVec_or, BitVec.getLsbD_or]
theorem zbt_and (x y : Int64) (i : Nat) : zbt (x &&& y) i = (zbt x i && zbt y i) := by unfold zbt; rw [Int64.toBitVec_and, BitVec.getLsbD_and]
theorem zbt_xor (x y : Int64) (i : Nat) : zbt (x ^^^ y) i = (zbt x i ^^ zbt y i) := by unfold zbt; rw [Int64.toBitVec_xor, BitVec.getLsbD_xor]
theorem zbt_m1 : ∀ i, i < 64 → zbt (-1) i = true := by decide +kernel
theorem zbt_0 (i : Nat) : zbt 0 i = false := by
  show (0#64).getLsbD i = false
  simp
theorem zc63 : ∀ k, k < 64 → ((nI k).toInt64 &&& 63) = lN k := by decide +kernel
theorem zsm64 : ∀ k, k < 64 → ((lN k).toBitVec.smod 64).toNat = k := by decide +kernel
theorem zbt_shr {k : Nat} (hk : k < 64) (x : Int64) {i : Nat} (hi : i < 64) : zbt (x >>> ((nI k).toInt64 &&& 63)) i = if k + i < 64 then zbt x (k + i) else zbt x 63 := by
  rw [zc63 k hk]
  unfold zbt
  rw [Int64.toBitVec_shiftRight]
  show (x.toBitVec.sshiftRight ((lN k).toBitVec.smod 64).toNat).getLsbD i = _
  rw [zsm64 k hk, BitVec.getLsbD_sshiftRight, BitVec.msb_eq_getLsbD_last]
  simp [Nat.not_le.mpr hi]
theorem zbt_shl {k : Nat} (hk : k < 64) (x : Int64) {i : Nat} (hi : i < 64) : zbt (x <<< ((nI k).toInt64 &&& 63)) i = (decide (k ≤ i) && zbt x (i - k)) := by
  rw [zc63 k hk]
  unfold zbt
  rw [Int64.toBitVec_shiftLeft]
  show (x.toBitVec <<< ((lN k).toBitVec.smod 64).toNat).getLsbD i = _
  rw [zsm64 k hk, BitVec.getLsbD_shiftLeft]
  rcases Nat.lt_or_ge i k with h | h
  · simp [h, Nat.not_le.mpr h]
  · simp [hi, h, Nat.not_lt.mpr h]
theorem zbt_1 (i : Nat) : zbt 1 i = decide (i = 0) := by
  show (1#64).getLsbD i = _
  simp
theorem zbt_one {k : Nat} (hk : k < 64) {i : Nat} (hi : i < 64) : zbt ((1 : Int64) <<< ((nI k).toInt64 &&& 63)) i = decide (i = k) := by
  rw [zbt_shl hk _ hi, zbt_1]
  by_cases h : i = k
  · subst h; simp
  · have : ¬ (k ≤ i ∧ i - k = 0) := by omega
    rcases Nat.lt_or_ge i k with q | q
    · simp [h, Nat.not_le.mpr q]
    · simp [h, q]; omega
theorem zand1 (x : Int64) : x &&& 1 = 0 ↔ zbt x 0 = false := by
  constructor
  · intro h
    have h1 := zbt_and x 1 0
    rw [h, zbt_0, zbt_1] at h1
    simpa using h1.symm
  · intro h
    refine zbt_ext fun i hi => ?_
    rw [zbt_and, zbt_1, zbt_0]
    by_cases hz : i = 0
    · subst hz; simp [h]
    · simp [hz]
theorem zcmp0 (x : Int64) : lg_cmp x 0 = 0 ↔ x = 0 := by
  unfold lg_cmp
  by_cases h : x > 0
  · rw [if_pos h]
    constructor
    · intro h2; exact absurd h2 (by decide)
    · intro h2; rw [h2] at h; exact absurd h (by decide)
  · rw [if_neg h]
    by_cases h2 : x = 0
    · simp [h2]
    · simp [h2]
theorem zholds {x : Int64} {k : Nat} (hk : k < 64) : lg_cmp ((x >>> ((nI k).toInt64 &&& 63)) &&& 1) 0 = 0 ↔ zbt x k = false := by
  rw [zcmp0, zand1, zbt_shr hk x (by decide)]
  simp [hk]
/-- a number out of its bits -/
def znb (f : Nat → Bool) : Nat → Nat
  | 0 => 0
  | n + 1 => znb f n ||| (if f n then 2 ^ n else 0)
theorem znb_bit (f : Nat → Bool) : ∀ n k, (znb f n).testBit k = (decide (k < n) && f k)
  | 0, k => by simp [znb]
  | n + 1, k => by
    rw [znb, Nat.testBit_or, znb_bit f n k]
    by_cases h : f n = true
    · rw [if_pos h, Nat.testBit_two_pow]
      by_cases hk : n = k
      · subst hk; simp [h]
      · rcases Nat.lt_trichotomy k n with q | q | q
        · simp [q, hk, Nat.lt_succ_of_lt q]
        · exact absurd q.symm hk
        · simp [hk, Nat.not_lt.mpr (Nat.le_of_lt q), show ¬ k < n + 1 by omega]
    · rw [if_neg h]
      have hf : f n = false := by simpa using h
      by_cases hk : n = k
      · subst hk; simp [hf]
      · rcases Nat.lt_trichotomy k n with q | q | q
        · simp [q, Nat.lt_succ_of_lt q]
        · exact absurd q.symm hk
        · simp [Nat.not_lt.mpr (Nat.le_of_lt q), show ¬ k < n + 1 by omega]
/-- the set as a mask -/
def zmk (f : Nat → Bool) : Int64 := Int64.ofBitVec (BitVec.ofNat 64 (znb f 64))
theorem zmk_bt (f : Nat → Bool) {k : Nat} (h : k < 64) : zbt (zmk f) k = f k := by
  unfold zbt zmk
  show (BitVec.ofNat 64 (znb f 64)).getLsbD k = f k
  rw [BitVec.getLsbD_ofNat, znb_bit]
  simp [h]
theorem zmk_of {x : Int64} {f : Nat → Bool} (h : ∀ k, k < 64 → zbt x k = f k) : x = zmk f := zbt_ext fun i hi => by rw [h i hi, zmk_bt f hi]
theorem zmk_cong {f g : Nat → Bool} (h : ∀ k, k < 64 → f k = g k) : zmk f = zmk g := zmk_of fun k hk => by rw [zmk_bt f hk, h k hk]
theorem zmk_or (f g : Nat → Bool) : zmk f ||| zmk g = zmk (fun k => f k || g k) := zmk_of fun k hk => by rw [zbt_or, zmk_bt f hk, zmk_bt g hk]
theorem zmk_and (f g : Nat → Bool) : zmk f &&& zmk g = zmk (fun k => f k && g k) := zmk_of fun k hk => by rw [zbt_and, zmk_bt f hk, zmk_bt g hk]
theorem zmk_not (f : Nat → Bool) : zmk f ^^^ (-1) = zmk (fun k => !f k) := zmk_of fun k hk => by rw [zbt_xor, zmk_bt f hk, zbt_m1 k hk]; simp
theorem zmk_one {k : Nat} (hk : k < 64) : (1 : Int64) <<< ((nI k).toInt64 &&& 63) = zmk (fun i => decide (i = k)) := zmk_of fun i hi => zbt_one hk hi
theorem zmk_1 : (1 : Int64) = zmk (fun i => decide (i = 0)) := zmk_of fun i hi => zbt_1 i
theorem zmk_0 : (0 : Int64) = zmk (fun _ => false) := zmk_of fun i hi => zbt_0 i
/-- whole numbers that are small -/
theorem nI_nat {k : Nat} (h : k < 2147483648) : (nI k).toNatClampNeg = k := nI_clamp (by omega)
theorem zin {k N : Nat} (h : k < N) (hN : N < 2147483648) : vp_in (nI k) N := by
  intro q
  rcases q with q | q
  · exact absurd q (nI_pos (by omega))
  · rw [nI_nat (by omega)] at q; omega
theorem nI_ofNat (k : Nat) : (OfNat.ofNat k : Int32) = nI k := rfl
theorem nI_ltn {a b : Nat} (ha : a < 2147483648) (hb : b < 2147483648) : nI a < nI b ↔ a < b := nI_ltI (by omega) (by omega)
theorem nI_len {a b : Nat} (ha : a < 2147483648) (hb : b < 2147483648) : nI a ≤ nI b ↔ a ≤ b := nI_leI (by omega) (by omega)
theorem nI_eqn {a b : Nat} (ha : a < 2147483648) (hb : b < 2147483648) : nI a = nI b ↔ a = b := nI_eq (by omega) (by omega)
theorem nI_neg {k : Nat} (h : k < 2147483648) : ¬ nI k < 0 := nI_pos (by omega)
/-- a whole number is negative, or a natural one -/
theorem i32_cases (x : Int32) : x < 0 ∨ ∃ k : Nat, k < 2147483648 ∧ x = nI k := by
  by_cases h : x < 0
  · exact Or.inl h
  · obtain ⟨j, h1, h2⟩ := nI_of h
    exact Or.inr ⟨j, by omega, h2⟩
end
